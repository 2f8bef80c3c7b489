theorem dX8_bad_0 : decode cX8_bad 0 = .ok (.aload_n 0, 1) := by decide +kernel
theorem dX8_bad_1 : decode cX8_bad 1 = .ok (.getfield 1, 3) := by decide +kernel
theorem dX8_bad_4 : decode cX8_bad 4 = .ok (.iconst 0, 1) := by decide +kernel
theorem dX8_bad_5 : decode cX8_bad 5 = .ok (.dup2, 1) := by decide +kernel
theorem dX8_bad_6 : decode cX8_bad 6 = .ok (.iaload, 1) := by decide +kernel
theorem dX8_bad_7 : decode cX8_bad 7 = .ok (.iconst 1, 1) := by decide +kernel
theorem dX8_bad_8 : decode cX8_bad 8 = .ok (.iadd, 1) := by decide +kernel
theorem dX8_bad_9 : decode cX8_bad 9 = .ok (.iastore, 1) := by decide +kernel
theorem dX8_bad_10 : decode cX8_bad 10 = .ok (.bipush (-2), 2) := by decide +kernel
theorem dX8_bad_12 : decode cX8_bad 12 = .ok (.ireturn, 1) := by decide +kernel
theorem dX8_ten_0 : decode cX8_ten 0 = .ok (.aload_n 0, 1) := by decide +kernel
theorem dX8_ten_1 : decode cX8_ten 1 = .ok (.getfield 1, 3) := by decide +kernel
theorem dX8_ten_4 : decode cX8_ten 4 = .ok (.iconst 0, 1) := by decide +kernel
theorem dX8_ten_5 : decode cX8_ten 5 = .ok (.dup2, 1) := by decide +kernel
theorem dX8_ten_6 : decode cX8_ten 6 = .ok (.iaload, 1) := by decide +kernel
theorem dX8_ten_7 : decode cX8_ten 7 = .ok (.iconst 1, 1) := by decide +kernel
theorem dX8_ten_8 : decode cX8_ten 8 = .ok (.iadd, 1) := by decide +kernel
theorem dX8_ten_9 : decode cX8_ten 9 = .ok (.iastore, 1) := by decide +kernel
theorem dX8_ten_10 : decode cX8_ten 10 = .ok (.bipush (-10), 2) := by decide +kernel
theorem dX8_ten_12 : decode cX8_ten 12 = .ok (.ireturn, 1) := by decide +kernel
theorem dX8_twenty_0 : decode cX8_twenty 0 = .ok (.aload_n 0, 1) := by decide +kernel
theorem dX8_twenty_1 : decode cX8_twenty 1 = .ok (.getfield 1, 3) := by decide +kernel
theorem dX8_twenty_4 : decode cX8_twenty 4 = .ok (.iconst 1, 1) := by decide +kernel
theorem dX8_twenty_5 : decode cX8_twenty 5 = .ok (.dup2, 1) := by decide +kernel
theorem dX8_twenty_6 : decode cX8_twenty 6 = .ok (.iaload, 1) := by decide +kernel
theorem dX8_twenty_7 : decode cX8_twenty 7 = .ok (.iconst 1, 1) := by decide +kernel
theorem dX8_twenty_8 : decode cX8_twenty 8 = .ok (.iadd, 1) := by decide +kernel
theorem dX8_twenty_9 : decode cX8_twenty 9 = .ok (.iastore, 1) := by decide +kernel
theorem dX8_twenty_10 : decode cX8_twenty 10 = .ok (.bipush (-20), 2) := by decide +kernel
theorem dX8_twenty_12 : decode cX8_twenty 12 = .ok (.ireturn, 1) := by decide +kernel
theorem dX8_no_0 : decode cX8_no 0 = .ok (.aload_n 0, 1) := by decide +kernel
theorem dX8_no_1 : decode cX8_no 1 = .ok (.getfield 1, 3) := by decide +kernel
theorem dX8_no_4 : decode cX8_no 4 = .ok (.iconst 1, 1) := by decide +kernel
theorem dX8_no_5 : decode cX8_no 5 = .ok (.dup2, 1) := by decide +kernel
theorem dX8_no_6 : decode cX8_no 6 = .ok (.iaload, 1) := by decide +kernel
theorem dX8_no_7 : decode cX8_no 7 = .ok (.iconst 1, 1) := by decide +kernel
theorem dX8_no_8 : decode cX8_no 8 = .ok (.iadd, 1) := by decide +kernel
theorem dX8_no_9 : decode cX8_no 9 = .ok (.iastore, 1) := by decide +kernel
theorem dX8_no_10 : decode cX8_no 10 = .ok (.bipush (-3), 2) := by decide +kernel
theorem dX8_no_12 : decode cX8_no 12 = .ok (.ireturn, 1) := by decide +kernel
theorem dX8_full_0 : decode cX8_full 0 = .ok (.aload_n 0, 1) := by decide +kernel
theorem dX8_full_1 : decode cX8_full 1 = .ok (.getfield 1, 3) := by decide +kernel
theorem dX8_full_4 : decode cX8_full 4 = .ok (.iconst 2, 1) := by decide +kernel
theorem dX8_full_5 : decode cX8_full 5 = .ok (.dup2, 1) := by decide +kernel
theorem dX8_full_6 : decode cX8_full 6 = .ok (.iaload, 1) := by decide +kernel
theorem dX8_full_7 : decode cX8_full 7 = .ok (.iconst 1, 1) := by decide +kernel
theorem dX8_full_8 : decode cX8_full 8 = .ok (.iadd, 1) := by decide +kernel
theorem dX8_full_9 : decode cX8_full 9 = .ok (.iastore, 1) := by decide +kernel
theorem dX8_full_10 : decode cX8_full 10 = .ok (.bipush (-4), 2) := by decide +kernel
theorem dX8_full_12 : decode cX8_full 12 = .ok (.ireturn, 1) := by decide +kernel
theorem dX8_in_0 : decode cX8_in 0 = .ok (.iload_n 0, 1) := by decide +kernel
theorem dX8_in_1 : decode cX8_in 1 = .ok (.iload_n 1, 1) := by decide +kernel
theorem dX8_in_2 : decode cX8_in 2 = .ok (.if_icmp .lt 12, 3) := by decide +kernel
theorem dX8_in_5 : decode cX8_in 5 = .ok (.iload_n 0, 1) := by decide +kernel
theorem dX8_in_6 : decode cX8_in 6 = .ok (.iload_n 2, 1) := by decide +kernel
theorem dX8_in_7 : decode cX8_in 7 = .ok (.if_icmp .gt 7, 3) := by decide +kernel
theorem dX8_in_10 : decode cX8_in 10 = .ok (.iconst 1, 1) := by decide +kernel
theorem dX8_in_11 : decode cX8_in 11 = .ok (.goto 4, 3) := by decide +kernel
theorem dX8_in_14 : decode cX8_in 14 = .ok (.iconst 0, 1) := by decide +kernel
theorem dX8_in_15 : decode cX8_in 15 = .ok (.ireturn, 1) := by decide +kernel
theorem dX8_init_0 : decode cX8_init 0 = .ok (.aload_n 0, 1) := by decide +kernel
theorem dX8_init_1 : decode cX8_init 1 = .ok (.invokespecial 7, 3) := by decide +kernel
theorem dX8_init_4 : decode cX8_init 4 = .ok (.aload_n 0, 1) := by decide +kernel
theorem dX8_init_5 : decode cX8_init 5 = .ok (.iconst 3, 1) := by decide +kernel
theorem dX8_init_6 : decode cX8_init 6 = .ok (.newarray .int, 2) := by decide +kernel
theorem dX8_init_8 : decode cX8_init 8 = .ok (.putfield 1, 3) := by decide +kernel
theorem dX8_init_11 : decode cX8_init 11 = .ok (.aload_n 0, 1) := by decide +kernel
theorem dX8_init_12 : decode cX8_init 12 = .ok (.bipush 10, 2) := by decide +kernel
theorem dX8_init_14 : decode cX8_init 14 = .ok (.putfield 13, 3) := by decide +kernel
theorem dX8_init_17 : decode cX8_init 17 = .ok (.aload_n 0, 1) := by decide +kernel
theorem dX8_init_18 : decode cX8_init 18 = .ok (.iconst 2, 1) := by decide +kernel
theorem dX8_init_19 : decode cX8_init 19 = .ok (.putfield 17, 3) := by decide +kernel
theorem dX8_init_22 : decode cX8_init 22 = .ok (.aload_n 0, 1) := by decide +kernel
theorem dX8_init_23 : decode cX8_init 23 = .ok (.bipush 12, 2) := by decide +kernel
theorem dX8_init_25 : decode cX8_init 25 = .ok (.newarray .int, 2) := by decide +kernel
theorem dX8_init_27 : decode cX8_init 27 = .ok (.putfield 20, 3) := by decide +kernel
theorem dX8_init_30 : decode cX8_init 30 = .ok (.aload_n 0, 1) := by decide +kernel
theorem dX8_init_31 : decode cX8_init 31 = .ok (.bipush 12, 2) := by decide +kernel
theorem dX8_init_33 : decode cX8_init 33 = .ok (.newarray .int, 2) := by decide +kernel
theorem dX8_init_35 : decode cX8_init 35 = .ok (.putfield 23, 3) := by decide +kernel
theorem dX8_init_38 : decode cX8_init 38 = .ok (.aload_n 0, 1) := by decide +kernel
theorem dX8_init_39 : decode cX8_init 39 = .ok (.bipush 12, 2) := by decide +kernel
theorem dX8_init_41 : decode cX8_init 41 = .ok (.newarray .int, 2) := by decide +kernel
theorem dX8_init_43 : decode cX8_init 43 = .ok (.putfield 26, 3) := by decide +kernel
theorem dX8_init_46 : decode cX8_init 46 = .ok (.aload_n 0, 1) := by decide +kernel
theorem dX8_init_47 : decode cX8_init 47 = .ok (.bipush 6, 2) := by decide +kernel
theorem dX8_init_49 : decode cX8_init 49 = .ok (.newarray .int, 2) := by decide +kernel
theorem dX8_init_51 : decode cX8_init 51 = .ok (.putfield 29, 3) := by decide +kernel
theorem dX8_init_54 : decode cX8_init 54 = .ok (.aload_n 0, 1) := by decide +kernel
theorem dX8_init_55 : decode cX8_init 55 = .ok (.sipush 150, 3) := by decide +kernel
theorem dX8_init_58 : decode cX8_init 58 = .ok (.newarray .int, 2) := by decide +kernel
theorem dX8_init_60 : decode cX8_init 60 = .ok (.putfield 32, 3) := by decide +kernel
theorem dX8_init_63 : decode cX8_init 63 = .ok (.aload_n 0, 1) := by decide +kernel
theorem dX8_init_64 : decode cX8_init 64 = .ok (.sipush 225, 3) := by decide +kernel
theorem dX8_init_67 : decode cX8_init 67 = .ok (.newarray .int, 2) := by decide +kernel
theorem dX8_init_69 : decode cX8_init 69 = .ok (.putfield 35, 3) := by decide +kernel
theorem dX8_init_72 : decode cX8_init 72 = .ok (.aload_n 0, 1) := by decide +kernel
theorem dX8_init_73 : decode cX8_init 73 = .ok (.sipush 208, 3) := by decide +kernel
theorem dX8_init_76 : decode cX8_init 76 = .ok (.newarray .int, 2) := by decide +kernel
theorem dX8_init_78 : decode cX8_init 78 = .ok (.putfield 38, 3) := by decide +kernel
theorem dX8_init_81 : decode cX8_init 81 = .ok (.aload_n 0, 1) := by decide +kernel
theorem dX8_init_82 : decode cX8_init 82 = .ok (.sipush 403, 3) := by decide +kernel
theorem dX8_init_85 : decode cX8_init 85 = .ok (.newarray .int, 2) := by decide +kernel
theorem dX8_init_87 : decode cX8_init 87 = .ok (.putfield 41, 3) := by decide +kernel
theorem dX8_init_90 : decode cX8_init 90 = .ok (.aload_n 0, 1) := by decide +kernel
theorem dX8_init_91 : decode cX8_init 91 = .ok (.bipush 12, 2) := by decide +kernel
theorem dX8_init_93 : decode cX8_init 93 = .ok (.newarray .int, 2) := by decide +kernel
theorem dX8_init_95 : decode cX8_init 95 = .ok (.putfield 44, 3) := by decide +kernel
theorem dX8_init_98 : decode cX8_init 98 = .ok (.aload_n 0, 1) := by decide +kernel
theorem dX8_init_99 : decode cX8_init 99 = .ok (.bipush 31, 2) := by decide +kernel
theorem dX8_init_101 : decode cX8_init 101 = .ok (.newarray .int, 2) := by decide +kernel
theorem dX8_init_103 : decode cX8_init 103 = .ok (.putfield 47, 3) := by decide +kernel
theorem dX8_init_106 : decode cX8_init 106 = .ok (.aload_n 0, 1) := by decide +kernel
theorem dX8_init_107 : decode cX8_init 107 = .ok (.bipush 31, 2) := by decide +kernel
theorem dX8_init_109 : decode cX8_init 109 = .ok (.newarray .int, 2) := by decide +kernel
theorem dX8_init_111 : decode cX8_init 111 = .ok (.putfield 50, 3) := by decide +kernel
theorem dX8_init_114 : decode cX8_init 114 = .ok (.aload_n 0, 1) := by decide +kernel
theorem dX8_init_115 : decode cX8_init 115 = .ok (.bipush 7, 2) := by decide +kernel
theorem dX8_init_117 : decode cX8_init 117 = .ok (.newarray .int, 2) := by decide +kernel
theorem dX8_init_119 : decode cX8_init 119 = .ok (.putfield 53, 3) := by decide +kernel
theorem dX8_init_122 : decode cX8_init 122 = .ok (.aload_n 0, 1) := by decide +kernel
theorem dX8_init_123 : decode cX8_init 123 = .ok (.bipush 7, 2) := by decide +kernel
theorem dX8_init_125 : decode cX8_init 125 = .ok (.newarray .int, 2) := by decide +kernel
theorem dX8_init_127 : decode cX8_init 127 = .ok (.putfield 56, 3) := by decide +kernel
theorem dX8_init_130 : decode cX8_init 130 = .ok (.aload_n 0, 1) := by decide +kernel
theorem dX8_init_131 : decode cX8_init 131 = .ok (.bipush 13, 2) := by decide +kernel
theorem dX8_init_133 : decode cX8_init 133 = .ok (.newarray .int, 2) := by decide +kernel
theorem dX8_init_135 : decode cX8_init 135 = .ok (.putfield 59, 3) := by decide +kernel
theorem dX8_init_138 : decode cX8_init 138 = .ok (.aload_n 0, 1) := by decide +kernel
theorem dX8_init_139 : decode cX8_init 139 = .ok (.lconst 1, 1) := by decide +kernel
theorem dX8_init_140 : decode cX8_init 140 = .ok (.putfield 62, 3) := by decide +kernel
theorem dX8_init_143 : decode cX8_init 143 = .ok (.aload_n 0, 1) := by decide +kernel
theorem dX8_init_144 : decode cX8_init 144 = .ok (.bipush 31, 2) := by decide +kernel
theorem dX8_init_146 : decode cX8_init 146 = .ok (.newarray .long, 2) := by decide +kernel
theorem dX8_init_148 : decode cX8_init 148 = .ok (.putfield 66, 3) := by decide +kernel
theorem dX8_init_151 : decode cX8_init 151 = .ok (.aload_n 0, 1) := by decide +kernel
theorem dX8_init_152 : decode cX8_init 152 = .ok (.bipush 31, 2) := by decide +kernel
theorem dX8_init_154 : decode cX8_init 154 = .ok (.newarray .long, 2) := by decide +kernel
theorem dX8_init_156 : decode cX8_init 156 = .ok (.putfield 70, 3) := by decide +kernel
theorem dX8_init_159 : decode cX8_init 159 = .ok (.aload_n 0, 1) := by decide +kernel
theorem dX8_init_160 : decode cX8_init 160 = .ok (.sipush 516, 3) := by decide +kernel
theorem dX8_init_163 : decode cX8_init 163 = .ok (.newarray .int, 2) := by decide +kernel
theorem dX8_init_165 : decode cX8_init 165 = .ok (.putfield 73, 3) := by decide +kernel
theorem dX8_init_168 : decode cX8_init 168 = .ok (.aload_n 0, 1) := by decide +kernel
theorem dX8_init_169 : decode cX8_init 169 = .ok (.bipush 10, 2) := by decide +kernel
theorem dX8_init_171 : decode cX8_init 171 = .ok (.iconst 2, 1) := by decide +kernel
theorem dX8_init_172 : decode cX8_init 172 = .ok (.invokevirtual 76, 3) := by decide +kernel
theorem dX8_init_175 : decode cX8_init 175 = .ok (.return_, 1) := by decide +kernel
theorem dX8_begin_0 : decode cX8_begin 0 = .ok (.aload_n 0, 1) := by decide +kernel
theorem dX8_begin_1 : decode cX8_begin 1 = .ok (.iload_n 1, 1) := by decide +kernel
theorem dX8_begin_2 : decode cX8_begin 2 = .ok (.putfield 13, 3) := by decide +kernel
theorem dX8_begin_5 : decode cX8_begin 5 = .ok (.aload_n 0, 1) := by decide +kernel
theorem dX8_begin_6 : decode cX8_begin 6 = .ok (.iload_n 2, 1) := by decide +kernel
theorem dX8_begin_7 : decode cX8_begin 7 = .ok (.putfield 17, 3) := by decide +kernel
theorem dX8_begin_10 : decode cX8_begin 10 = .ok (.aload_n 0, 1) := by decide +kernel
theorem dX8_begin_11 : decode cX8_begin 11 = .ok (.iconst 0, 1) := by decide +kernel
theorem dX8_begin_12 : decode cX8_begin 12 = .ok (.putfield 80, 3) := by decide +kernel
theorem dX8_begin_15 : decode cX8_begin 15 = .ok (.aload_n 0, 1) := by decide +kernel
theorem dX8_begin_16 : decode cX8_begin 16 = .ok (.iconst 0, 1) := by decide +kernel
theorem dX8_begin_17 : decode cX8_begin 17 = .ok (.putfield 83, 3) := by decide +kernel
theorem dX8_begin_20 : decode cX8_begin 20 = .ok (.aload_n 0, 1) := by decide +kernel
theorem dX8_begin_21 : decode cX8_begin 21 = .ok (.iconst 0, 1) := by decide +kernel
theorem dX8_begin_22 : decode cX8_begin 22 = .ok (.putfield 86, 3) := by decide +kernel
theorem dX8_begin_25 : decode cX8_begin 25 = .ok (.aload_n 0, 1) := by decide +kernel
theorem dX8_begin_26 : decode cX8_begin 26 = .ok (.iconst 0, 1) := by decide +kernel
theorem dX8_begin_27 : decode cX8_begin 27 = .ok (.putfield 89, 3) := by decide +kernel
theorem dX8_begin_30 : decode cX8_begin 30 = .ok (.aload_n 0, 1) := by decide +kernel
theorem dX8_begin_31 : decode cX8_begin 31 = .ok (.iconst 0, 1) := by decide +kernel
theorem dX8_begin_32 : decode cX8_begin 32 = .ok (.putfield 92, 3) := by decide +kernel
theorem dX8_begin_35 : decode cX8_begin 35 = .ok (.return_, 1) := by decide +kernel
theorem dX8_isPiece_0 : decode cX8_isPiece 0 = .ok (.iload_n 1, 1) := by decide +kernel
theorem dX8_isPiece_1 : decode cX8_isPiece 1 = .ok (.iconst 0, 1) := by decide +kernel
theorem dX8_isPiece_2 : decode cX8_isPiece 2 = .ok (.aload_n 0, 1) := by decide +kernel
theorem dX8_isPiece_3 : decode cX8_isPiece 3 = .ok (.getfield 80, 3) := by decide +kernel
theorem dX8_isPiece_6 : decode cX8_isPiece 6 = .ok (.iconst 1, 1) := by decide +kernel
theorem dX8_isPiece_7 : decode cX8_isPiece 7 = .ok (.isub, 1) := by decide +kernel
theorem dX8_isPiece_8 : decode cX8_isPiece 8 = .ok (.invokestatic 95, 3) := by decide +kernel
theorem dX8_isPiece_11 : decode cX8_isPiece 11 = .ok (.ireturn, 1) := by decide +kernel
theorem dX8_isKind_0 : decode cX8_isKind 0 = .ok (.iload_n 0, 1) := by decide +kernel
theorem dX8_isKind_1 : decode cX8_isKind 1 = .ok (.iconst 0, 1) := by decide +kernel
theorem dX8_isKind_2 : decode cX8_isKind 2 = .ok (.iconst 5, 1) := by decide +kernel
theorem dX8_isKind_3 : decode cX8_isKind 3 = .ok (.invokestatic 95, 3) := by decide +kernel
theorem dX8_isKind_6 : decode cX8_isKind 6 = .ok (.ireturn, 1) := by decide +kernel
theorem dX8_isPage_0 : decode cX8_isPage 0 = .ok (.iload_n 0, 1) := by decide +kernel
theorem dX8_isPage_1 : decode cX8_isPage 1 = .ok (.iconst 1, 1) := by decide +kernel
theorem dX8_isPage_2 : decode cX8_isPage 2 = .ok (.bipush 30, 2) := by decide +kernel
theorem dX8_isPage_4 : decode cX8_isPage 4 = .ok (.invokestatic 95, 3) := by decide +kernel
theorem dX8_isPage_7 : decode cX8_isPage 7 = .ok (.ifCond .eq 17, 3) := by decide +kernel
theorem dX8_isPage_10 : decode cX8_isPage 10 = .ok (.iload_n 1, 1) := by decide +kernel
theorem dX8_isPage_11 : decode cX8_isPage 11 = .ok (.iconst 1, 1) := by decide +kernel
theorem dX8_isPage_12 : decode cX8_isPage 12 = .ok (.bipush 9, 2) := by decide +kernel
theorem dX8_isPage_14 : decode cX8_isPage 14 = .ok (.invokestatic 95, 3) := by decide +kernel
theorem dX8_isPage_17 : decode cX8_isPage 17 = .ok (.ifCond .eq 7, 3) := by decide +kernel
theorem dX8_isPage_20 : decode cX8_isPage 20 = .ok (.iconst 1, 1) := by decide +kernel
theorem dX8_isPage_21 : decode cX8_isPage 21 = .ok (.goto 4, 3) := by decide +kernel
theorem dX8_isPage_24 : decode cX8_isPage 24 = .ok (.iconst 0, 1) := by decide +kernel
theorem dX8_isPage_25 : decode cX8_isPage 25 = .ok (.ireturn, 1) := by decide +kernel
theorem dX8_page_0 : decode cX8_page 0 = .ok (.iload_n 1, 1) := by decide +kernel
theorem dX8_page_1 : decode cX8_page 1 = .ok (.iload_n 2, 1) := by decide +kernel
theorem dX8_page_2 : decode cX8_page 2 = .ok (.invokestatic 99, 3) := by decide +kernel
theorem dX8_page_5 : decode cX8_page 5 = .ok (.ifCond .ne 8, 3) := by decide +kernel
theorem dX8_page_8 : decode cX8_page 8 = .ok (.aload_n 0, 1) := by decide +kernel
theorem dX8_page_9 : decode cX8_page 9 = .ok (.invokevirtual 103, 3) := by decide +kernel
theorem dX8_page_12 : decode cX8_page 12 = .ok (.ireturn, 1) := by decide +kernel
theorem dX8_page_13 : decode cX8_page 13 = .ok (.aload_n 0, 1) := by decide +kernel
theorem dX8_page_14 : decode cX8_page 14 = .ok (.getfield 80, 3) := by decide +kernel
theorem dX8_page_17 : decode cX8_page 17 = .ok (.istore_n 3, 1) := by decide +kernel
theorem dX8_page_18 : decode cX8_page 18 = .ok (.aload_n 0, 1) := by decide +kernel
theorem dX8_page_19 : decode cX8_page 19 = .ok (.iload_n 1, 1) := by decide +kernel
theorem dX8_page_20 : decode cX8_page 20 = .ok (.iload_n 2, 1) := by decide +kernel
theorem dX8_page_21 : decode cX8_page 21 = .ok (.invokevirtual 76, 3) := by decide +kernel
theorem dX8_page_24 : decode cX8_page 24 = .ok (.iload_n 3, 1) := by decide +kernel
theorem dX8_page_25 : decode cX8_page 25 = .ok (.ireturn, 1) := by decide +kernel
theorem dX8_add_0 : decode cX8_add 0 = .ok (.aload_n 0, 1) := by decide +kernel
theorem dX8_add_1 : decode cX8_add 1 = .ok (.getfield 20, 3) := by decide +kernel
theorem dX8_add_4 : decode cX8_add 4 = .ok (.aload_n 0, 1) := by decide +kernel
theorem dX8_add_5 : decode cX8_add 5 = .ok (.getfield 80, 3) := by decide +kernel
theorem dX8_add_8 : decode cX8_add 8 = .ok (.iload_n 1, 1) := by decide +kernel
theorem dX8_add_9 : decode cX8_add 9 = .ok (.iastore, 1) := by decide +kernel
theorem dX8_add_10 : decode cX8_add 10 = .ok (.aload_n 0, 1) := by decide +kernel
theorem dX8_add_11 : decode cX8_add 11 = .ok (.getfield 23, 3) := by decide +kernel
theorem dX8_add_14 : decode cX8_add 14 = .ok (.aload_n 0, 1) := by decide +kernel
theorem dX8_add_15 : decode cX8_add 15 = .ok (.getfield 80, 3) := by decide +kernel
theorem dX8_add_18 : decode cX8_add 18 = .ok (.iconst (-1), 1) := by decide +kernel
theorem dX8_add_19 : decode cX8_add 19 = .ok (.iastore, 1) := by decide +kernel
theorem dX8_add_20 : decode cX8_add 20 = .ok (.aload_n 0, 1) := by decide +kernel
theorem dX8_add_21 : decode cX8_add 21 = .ok (.getfield 26, 3) := by decide +kernel
theorem dX8_add_24 : decode cX8_add 24 = .ok (.aload_n 0, 1) := by decide +kernel
theorem dX8_add_25 : decode cX8_add 25 = .ok (.getfield 80, 3) := by decide +kernel
theorem dX8_add_28 : decode cX8_add 28 = .ok (.iconst 0, 1) := by decide +kernel
theorem dX8_add_29 : decode cX8_add 29 = .ok (.iastore, 1) := by decide +kernel
theorem dX8_add_30 : decode cX8_add 30 = .ok (.aload_n 0, 1) := by decide +kernel
theorem dX8_add_31 : decode cX8_add 31 = .ok (.dup, 1) := by decide +kernel
theorem dX8_add_32 : decode cX8_add 32 = .ok (.getfield 80, 3) := by decide +kernel
theorem dX8_add_35 : decode cX8_add 35 = .ok (.iconst 1, 1) := by decide +kernel
theorem dX8_add_36 : decode cX8_add 36 = .ok (.iadd, 1) := by decide +kernel
theorem dX8_add_37 : decode cX8_add 37 = .ok (.putfield 80, 3) := by decide +kernel
theorem dX8_add_40 : decode cX8_add 40 = .ok (.aload_n 0, 1) := by decide +kernel
theorem dX8_add_41 : decode cX8_add 41 = .ok (.iconst 0, 1) := by decide +kernel
theorem dX8_add_42 : decode cX8_add 42 = .ok (.putfield 92, 3) := by decide +kernel
theorem dX8_add_45 : decode cX8_add 45 = .ok (.aload_n 0, 1) := by decide +kernel
theorem dX8_add_46 : decode cX8_add 46 = .ok (.getfield 80, 3) := by decide +kernel
theorem dX8_add_49 : decode cX8_add 49 = .ok (.iconst 1, 1) := by decide +kernel
theorem dX8_add_50 : decode cX8_add 50 = .ok (.isub, 1) := by decide +kernel
theorem dX8_add_51 : decode cX8_add 51 = .ok (.ireturn, 1) := by decide +kernel
theorem dX8_word_0 : decode cX8_word 0 = .ok (.iload_n 1, 1) := by decide +kernel
theorem dX8_word_1 : decode cX8_word 1 = .ok (.iconst 1, 1) := by decide +kernel
theorem dX8_word_2 : decode cX8_word 2 = .ok (.bipush 9, 2) := by decide +kernel
theorem dX8_word_4 : decode cX8_word 4 = .ok (.invokestatic 95, 3) := by decide +kernel
theorem dX8_word_7 : decode cX8_word 7 = .ok (.ifCond .ne 8, 3) := by decide +kernel
theorem dX8_word_10 : decode cX8_word 10 = .ok (.aload_n 0, 1) := by decide +kernel
theorem dX8_word_11 : decode cX8_word 11 = .ok (.invokevirtual 103, 3) := by decide +kernel
theorem dX8_word_14 : decode cX8_word 14 = .ok (.ireturn, 1) := by decide +kernel
theorem dX8_word_15 : decode cX8_word 15 = .ok (.aload_n 0, 1) := by decide +kernel
theorem dX8_word_16 : decode cX8_word 16 = .ok (.getfield 80, 3) := by decide +kernel
theorem dX8_word_19 : decode cX8_word 19 = .ok (.bipush 12, 2) := by decide +kernel
theorem dX8_word_21 : decode cX8_word 21 = .ok (.if_icmp .ne 10, 3) := by decide +kernel
theorem dX8_word_24 : decode cX8_word 24 = .ok (.aload_n 0, 1) := by decide +kernel
theorem dX8_word_25 : decode cX8_word 25 = .ok (.invokevirtual 107, 3) := by decide +kernel
theorem dX8_word_28 : decode cX8_word 28 = .ok (.goto 8, 3) := by decide +kernel
theorem dX8_word_31 : decode cX8_word 31 = .ok (.aload_n 0, 1) := by decide +kernel
theorem dX8_word_32 : decode cX8_word 32 = .ok (.iload_n 1, 1) := by decide +kernel
theorem dX8_word_33 : decode cX8_word 33 = .ok (.invokevirtual 110, 3) := by decide +kernel
theorem dX8_word_36 : decode cX8_word 36 = .ok (.ireturn, 1) := by decide +kernel
theorem dX8_breath_0 : decode cX8_breath 0 = .ok (.iload_n 1, 1) := by decide +kernel
theorem dX8_breath_1 : decode cX8_breath 1 = .ok (.iconst 1, 1) := by decide +kernel
theorem dX8_breath_2 : decode cX8_breath 2 = .ok (.bipush 30, 2) := by decide +kernel
theorem dX8_breath_4 : decode cX8_breath 4 = .ok (.invokestatic 95, 3) := by decide +kernel
theorem dX8_breath_7 : decode cX8_breath 7 = .ok (.ifCond .ne 8, 3) := by decide +kernel
theorem dX8_breath_10 : decode cX8_breath 10 = .ok (.aload_n 0, 1) := by decide +kernel
theorem dX8_breath_11 : decode cX8_breath 11 = .ok (.invokevirtual 103, 3) := by decide +kernel
theorem dX8_breath_14 : decode cX8_breath 14 = .ok (.ireturn, 1) := by decide +kernel
theorem dX8_breath_15 : decode cX8_breath 15 = .ok (.aload_n 0, 1) := by decide +kernel
theorem dX8_breath_16 : decode cX8_breath 16 = .ok (.getfield 13, 3) := by decide +kernel
theorem dX8_breath_19 : decode cX8_breath 19 = .ok (.istore_n 2, 1) := by decide +kernel
theorem dX8_breath_20 : decode cX8_breath 20 = .ok (.aload_n 0, 1) := by decide +kernel
theorem dX8_breath_21 : decode cX8_breath 21 = .ok (.iload_n 1, 1) := by decide +kernel
theorem dX8_breath_22 : decode cX8_breath 22 = .ok (.putfield 13, 3) := by decide +kernel
theorem dX8_breath_25 : decode cX8_breath 25 = .ok (.iload_n 2, 1) := by decide +kernel
theorem dX8_breath_26 : decode cX8_breath 26 = .ok (.ireturn, 1) := by decide +kernel
theorem dX8_price_0 : decode cX8_price 0 = .ok (.iload_n 1, 1) := by decide +kernel
theorem dX8_price_1 : decode cX8_price 1 = .ok (.iconst 1, 1) := by decide +kernel
theorem dX8_price_2 : decode cX8_price 2 = .ok (.bipush 9, 2) := by decide +kernel
theorem dX8_price_4 : decode cX8_price 4 = .ok (.invokestatic 95, 3) := by decide +kernel
theorem dX8_price_7 : decode cX8_price 7 = .ok (.ifCond .ne 8, 3) := by decide +kernel
theorem dX8_price_10 : decode cX8_price 10 = .ok (.aload_n 0, 1) := by decide +kernel
theorem dX8_price_11 : decode cX8_price 11 = .ok (.invokevirtual 103, 3) := by decide +kernel
theorem dX8_price_14 : decode cX8_price 14 = .ok (.ireturn, 1) := by decide +kernel
theorem dX8_price_15 : decode cX8_price 15 = .ok (.aload_n 0, 1) := by decide +kernel
theorem dX8_price_16 : decode cX8_price 16 = .ok (.getfield 17, 3) := by decide +kernel
theorem dX8_price_19 : decode cX8_price 19 = .ok (.istore_n 2, 1) := by decide +kernel
theorem dX8_price_20 : decode cX8_price 20 = .ok (.aload_n 0, 1) := by decide +kernel
theorem dX8_price_21 : decode cX8_price 21 = .ok (.iload_n 1, 1) := by decide +kernel
theorem dX8_price_22 : decode cX8_price 22 = .ok (.putfield 17, 3) := by decide +kernel
theorem dX8_price_25 : decode cX8_price 25 = .ok (.iload_n 2, 1) := by decide +kernel
theorem dX8_price_26 : decode cX8_price 26 = .ok (.ireturn, 1) := by decide +kernel
theorem dX8_purse_0 : decode cX8_purse 0 = .ok (.iload_n 1, 1) := by decide +kernel
theorem dX8_purse_1 : decode cX8_purse 1 = .ok (.iconst 0, 1) := by decide +kernel
theorem dX8_purse_2 : decode cX8_purse 2 = .ok (.sipush 999, 3) := by decide +kernel
theorem dX8_purse_5 : decode cX8_purse 5 = .ok (.invokestatic 95, 3) := by decide +kernel
theorem dX8_purse_8 : decode cX8_purse 8 = .ok (.ifCond .ne 8, 3) := by decide +kernel
theorem dX8_purse_11 : decode cX8_purse 11 = .ok (.aload_n 0, 1) := by decide +kernel
theorem dX8_purse_12 : decode cX8_purse 12 = .ok (.invokevirtual 103, 3) := by decide +kernel
theorem dX8_purse_15 : decode cX8_purse 15 = .ok (.ireturn, 1) := by decide +kernel
theorem dX8_purse_16 : decode cX8_purse 16 = .ok (.aload_n 0, 1) := by decide +kernel
theorem dX8_purse_17 : decode cX8_purse 17 = .ok (.getfield 83, 3) := by decide +kernel
theorem dX8_purse_20 : decode cX8_purse 20 = .ok (.istore_n 2, 1) := by decide +kernel
theorem dX8_purse_21 : decode cX8_purse 21 = .ok (.aload_n 0, 1) := by decide +kernel
theorem dX8_purse_22 : decode cX8_purse 22 = .ok (.iload_n 1, 1) := by decide +kernel
theorem dX8_purse_23 : decode cX8_purse 23 = .ok (.putfield 83, 3) := by decide +kernel
theorem dX8_purse_26 : decode cX8_purse 26 = .ok (.iload_n 2, 1) := by decide +kernel
theorem dX8_purse_27 : decode cX8_purse 27 = .ok (.ireturn, 1) := by decide +kernel
theorem dX8_mark_0 : decode cX8_mark 0 = .ok (.aload_n 0, 1) := by decide +kernel
theorem dX8_mark_1 : decode cX8_mark 1 = .ok (.getfield 23, 3) := by decide +kernel
theorem dX8_mark_4 : decode cX8_mark 4 = .ok (.iload_n 1, 1) := by decide +kernel
theorem dX8_mark_5 : decode cX8_mark 5 = .ok (.iload_n 2, 1) := by decide +kernel
theorem dX8_mark_6 : decode cX8_mark 6 = .ok (.iastore, 1) := by decide +kernel
theorem dX8_mark_7 : decode cX8_mark 7 = .ok (.aload_n 0, 1) := by decide +kernel
theorem dX8_mark_8 : decode cX8_mark 8 = .ok (.getfield 26, 3) := by decide +kernel
theorem dX8_mark_11 : decode cX8_mark 11 = .ok (.iload_n 1, 1) := by decide +kernel
theorem dX8_mark_12 : decode cX8_mark 12 = .ok (.iconst 0, 1) := by decide +kernel
theorem dX8_mark_13 : decode cX8_mark 13 = .ok (.iastore, 1) := by decide +kernel
theorem dX8_mark_14 : decode cX8_mark 14 = .ok (.return_, 1) := by decide +kernel
theorem dX8_put_0 : decode cX8_put 0 = .ok (.aload_n 0, 1) := by decide +kernel
theorem dX8_put_1 : decode cX8_put 1 = .ok (.iload_n 1, 1) := by decide +kernel
theorem dX8_put_2 : decode cX8_put 2 = .ok (.invokevirtual 114, 3) := by decide +kernel
theorem dX8_put_5 : decode cX8_put 5 = .ok (.ifCond .eq 10, 3) := by decide +kernel
theorem dX8_put_8 : decode cX8_put 8 = .ok (.iload_n 2, 1) := by decide +kernel
theorem dX8_put_9 : decode cX8_put 9 = .ok (.invokestatic 118, 3) := by decide +kernel
theorem dX8_put_12 : decode cX8_put 12 = .ok (.ifCond .ne 8, 3) := by decide +kernel
theorem dX8_put_15 : decode cX8_put 15 = .ok (.aload_n 0, 1) := by decide +kernel
theorem dX8_put_16 : decode cX8_put 16 = .ok (.invokevirtual 121, 3) := by decide +kernel
theorem dX8_put_19 : decode cX8_put 19 = .ok (.ireturn, 1) := by decide +kernel
theorem dX8_put_20 : decode cX8_put 20 = .ok (.aload_n 0, 1) := by decide +kernel
theorem dX8_put_21 : decode cX8_put 21 = .ok (.getfield 23, 3) := by decide +kernel
theorem dX8_put_24 : decode cX8_put 24 = .ok (.iload_n 1, 1) := by decide +kernel
theorem dX8_put_25 : decode cX8_put 25 = .ok (.iaload, 1) := by decide +kernel
theorem dX8_put_26 : decode cX8_put 26 = .ok (.istore_n 3, 1) := by decide +kernel
theorem dX8_put_27 : decode cX8_put 27 = .ok (.aload_n 0, 1) := by decide +kernel
theorem dX8_put_28 : decode cX8_put 28 = .ok (.iload_n 1, 1) := by decide +kernel
theorem dX8_put_29 : decode cX8_put 29 = .ok (.iload_n 2, 1) := by decide +kernel
theorem dX8_put_30 : decode cX8_put 30 = .ok (.invokevirtual 124, 3) := by decide +kernel
theorem dX8_put_33 : decode cX8_put 33 = .ok (.aload_n 0, 1) := by decide +kernel
theorem dX8_put_34 : decode cX8_put 34 = .ok (.iconst 0, 1) := by decide +kernel
theorem dX8_put_35 : decode cX8_put 35 = .ok (.putfield 92, 3) := by decide +kernel
theorem dX8_put_38 : decode cX8_put 38 = .ok (.iload_n 3, 1) := by decide +kernel
theorem dX8_put_39 : decode cX8_put 39 = .ok (.ireturn, 1) := by decide +kernel
theorem dX8_type_0 : decode cX8_type 0 = .ok (.iload_n 1, 1) := by decide +kernel
theorem dX8_type_1 : decode cX8_type 1 = .ok (.iconst 0, 1) := by decide +kernel
theorem dX8_type_2 : decode cX8_type 2 = .ok (.bipush 127, 2) := by decide +kernel
theorem dX8_type_4 : decode cX8_type 4 = .ok (.invokestatic 95, 3) := by decide +kernel
theorem dX8_type_7 : decode cX8_type 7 = .ok (.ifCond .ne 8, 3) := by decide +kernel
theorem dX8_type_10 : decode cX8_type 10 = .ok (.aload_n 0, 1) := by decide +kernel
theorem dX8_type_11 : decode cX8_type 11 = .ok (.invokevirtual 103, 3) := by decide +kernel
theorem dX8_type_14 : decode cX8_type 14 = .ok (.ireturn, 1) := by decide +kernel
theorem dX8_type_15 : decode cX8_type 15 = .ok (.aload_n 0, 1) := by decide +kernel
theorem dX8_type_16 : decode cX8_type 16 = .ok (.getfield 127, 3) := by decide +kernel
theorem dX8_type_19 : decode cX8_type 19 = .ok (.sipush 150, 3) := by decide +kernel
theorem dX8_type_22 : decode cX8_type 22 = .ok (.if_icmp .ne 8, 3) := by decide +kernel
theorem dX8_type_25 : decode cX8_type 25 = .ok (.aload_n 0, 1) := by decide +kernel
theorem dX8_type_26 : decode cX8_type 26 = .ok (.invokevirtual 107, 3) := by decide +kernel
theorem dX8_type_29 : decode cX8_type 29 = .ok (.ireturn, 1) := by decide +kernel
theorem dX8_type_30 : decode cX8_type 30 = .ok (.aload_n 0, 1) := by decide +kernel
theorem dX8_type_31 : decode cX8_type 31 = .ok (.getfield 32, 3) := by decide +kernel
theorem dX8_type_34 : decode cX8_type 34 = .ok (.aload_n 0, 1) := by decide +kernel
theorem dX8_type_35 : decode cX8_type 35 = .ok (.getfield 127, 3) := by decide +kernel
theorem dX8_type_38 : decode cX8_type 38 = .ok (.iload_n 1, 1) := by decide +kernel
theorem dX8_type_39 : decode cX8_type 39 = .ok (.iastore, 1) := by decide +kernel
theorem dX8_type_40 : decode cX8_type 40 = .ok (.aload_n 0, 1) := by decide +kernel
theorem dX8_type_41 : decode cX8_type 41 = .ok (.dup, 1) := by decide +kernel
theorem dX8_type_42 : decode cX8_type 42 = .ok (.getfield 127, 3) := by decide +kernel
theorem dX8_type_45 : decode cX8_type 45 = .ok (.iconst 1, 1) := by decide +kernel
theorem dX8_type_46 : decode cX8_type 46 = .ok (.iadd, 1) := by decide +kernel
theorem dX8_type_47 : decode cX8_type 47 = .ok (.putfield 127, 3) := by decide +kernel
theorem dX8_type_50 : decode cX8_type 50 = .ok (.aload_n 0, 1) := by decide +kernel
theorem dX8_type_51 : decode cX8_type 51 = .ok (.getfield 127, 3) := by decide +kernel
theorem dX8_type_54 : decode cX8_type 54 = .ok (.ireturn, 1) := by decide +kernel
theorem dX8_clear_0 : decode cX8_clear 0 = .ok (.aload_n 0, 1) := by decide +kernel
theorem dX8_clear_1 : decode cX8_clear 1 = .ok (.getfield 127, 3) := by decide +kernel
theorem dX8_clear_4 : decode cX8_clear 4 = .ok (.istore_n 1, 1) := by decide +kernel
theorem dX8_clear_5 : decode cX8_clear 5 = .ok (.aload_n 0, 1) := by decide +kernel
theorem dX8_clear_6 : decode cX8_clear 6 = .ok (.iconst 0, 1) := by decide +kernel
theorem dX8_clear_7 : decode cX8_clear 7 = .ok (.putfield 127, 3) := by decide +kernel
theorem dX8_clear_10 : decode cX8_clear 10 = .ok (.iload_n 1, 1) := by decide +kernel
theorem dX8_clear_11 : decode cX8_clear 11 = .ok (.ireturn, 1) := by decide +kernel
theorem dX8_here_0 : decode cX8_here 0 = .ok (.aload_n 0, 1) := by decide +kernel
theorem dX8_here_1 : decode cX8_here 1 = .ok (.getfield 130, 3) := by decide +kernel
theorem dX8_here_4 : decode cX8_here 4 = .ok (.aload_n 0, 1) := by decide +kernel
theorem dX8_here_5 : decode cX8_here 5 = .ok (.getfield 127, 3) := by decide +kernel
theorem dX8_here_8 : decode cX8_here 8 = .ok (.if_icmp .ge 15, 3) := by decide +kernel
theorem dX8_here_11 : decode cX8_here 11 = .ok (.aload_n 0, 1) := by decide +kernel
theorem dX8_here_12 : decode cX8_here 12 = .ok (.getfield 32, 3) := by decide +kernel
theorem dX8_here_15 : decode cX8_here 15 = .ok (.aload_n 0, 1) := by decide +kernel
theorem dX8_here_16 : decode cX8_here 16 = .ok (.getfield 130, 3) := by decide +kernel
theorem dX8_here_19 : decode cX8_here 19 = .ok (.iaload, 1) := by decide +kernel
theorem dX8_here_20 : decode cX8_here 20 = .ok (.goto 4, 3) := by decide +kernel
theorem dX8_here_23 : decode cX8_here 23 = .ok (.iconst (-1), 1) := by decide +kernel
theorem dX8_here_24 : decode cX8_here 24 = .ok (.ireturn, 1) := by decide +kernel
theorem dX8_skip_0 : decode cX8_skip 0 = .ok (.aload_n 0, 1) := by decide +kernel
theorem dX8_skip_1 : decode cX8_skip 1 = .ok (.invokevirtual 133, 3) := by decide +kernel
theorem dX8_skip_4 : decode cX8_skip 4 = .ok (.bipush 32, 2) := by decide +kernel
theorem dX8_skip_6 : decode cX8_skip 6 = .ok (.if_icmp .ne 16, 3) := by decide +kernel
theorem dX8_skip_9 : decode cX8_skip 9 = .ok (.aload_n 0, 1) := by decide +kernel
theorem dX8_skip_10 : decode cX8_skip 10 = .ok (.dup, 1) := by decide +kernel
theorem dX8_skip_11 : decode cX8_skip 11 = .ok (.getfield 130, 3) := by decide +kernel
theorem dX8_skip_14 : decode cX8_skip 14 = .ok (.iconst 1, 1) := by decide +kernel
theorem dX8_skip_15 : decode cX8_skip 15 = .ok (.iadd, 1) := by decide +kernel
theorem dX8_skip_16 : decode cX8_skip 16 = .ok (.putfield 130, 3) := by decide +kernel
theorem dX8_skip_19 : decode cX8_skip 19 = .ok (.goto (-19), 3) := by decide +kernel
theorem dX8_skip_22 : decode cX8_skip 22 = .ok (.return_, 1) := by decide +kernel
theorem dX8_isLetter_0 : decode cX8_isLetter 0 = .ok (.iload_n 0, 1) := by decide +kernel
theorem dX8_isLetter_1 : decode cX8_isLetter 1 = .ok (.bipush 97, 2) := by decide +kernel
theorem dX8_isLetter_3 : decode cX8_isLetter 3 = .ok (.bipush 122, 2) := by decide +kernel
theorem dX8_isLetter_5 : decode cX8_isLetter 5 = .ok (.invokestatic 95, 3) := by decide +kernel
theorem dX8_isLetter_8 : decode cX8_isLetter 8 = .ok (.ireturn, 1) := by decide +kernel
theorem dX8_isFigure_0 : decode cX8_isFigure 0 = .ok (.iload_n 0, 1) := by decide +kernel
theorem dX8_isFigure_1 : decode cX8_isFigure 1 = .ok (.bipush 48, 2) := by decide +kernel
theorem dX8_isFigure_3 : decode cX8_isFigure 3 = .ok (.bipush 57, 2) := by decide +kernel
theorem dX8_isFigure_5 : decode cX8_isFigure 5 = .ok (.invokestatic 95, 3) := by decide +kernel
theorem dX8_isFigure_8 : decode cX8_isFigure 8 = .ok (.ireturn, 1) := by decide +kernel
theorem dX8_wordSize_0 : decode cX8_wordSize 0 = .ok (.iconst 0, 1) := by decide +kernel
theorem dX8_wordSize_1 : decode cX8_wordSize 1 = .ok (.istore_n 1, 1) := by decide +kernel
theorem dX8_wordSize_2 : decode cX8_wordSize 2 = .ok (.aload_n 0, 1) := by decide +kernel
theorem dX8_wordSize_3 : decode cX8_wordSize 3 = .ok (.getfield 130, 3) := by decide +kernel
theorem dX8_wordSize_6 : decode cX8_wordSize 6 = .ok (.iload_n 1, 1) := by decide +kernel
theorem dX8_wordSize_7 : decode cX8_wordSize 7 = .ok (.iadd, 1) := by decide +kernel
theorem dX8_wordSize_8 : decode cX8_wordSize 8 = .ok (.aload_n 0, 1) := by decide +kernel
theorem dX8_wordSize_9 : decode cX8_wordSize 9 = .ok (.getfield 127, 3) := by decide +kernel
theorem dX8_wordSize_12 : decode cX8_wordSize 12 = .ok (.if_icmp .ge 26, 3) := by decide +kernel
theorem dX8_wordSize_15 : decode cX8_wordSize 15 = .ok (.aload_n 0, 1) := by decide +kernel
theorem dX8_wordSize_16 : decode cX8_wordSize 16 = .ok (.getfield 32, 3) := by decide +kernel
theorem dX8_wordSize_19 : decode cX8_wordSize 19 = .ok (.aload_n 0, 1) := by decide +kernel
theorem dX8_wordSize_20 : decode cX8_wordSize 20 = .ok (.getfield 130, 3) := by decide +kernel
theorem dX8_wordSize_23 : decode cX8_wordSize 23 = .ok (.iload_n 1, 1) := by decide +kernel
theorem dX8_wordSize_24 : decode cX8_wordSize 24 = .ok (.iadd, 1) := by decide +kernel
theorem dX8_wordSize_25 : decode cX8_wordSize 25 = .ok (.iaload, 1) := by decide +kernel
theorem dX8_wordSize_26 : decode cX8_wordSize 26 = .ok (.invokestatic 136, 3) := by decide +kernel
theorem dX8_wordSize_29 : decode cX8_wordSize 29 = .ok (.ifCond .eq 9, 3) := by decide +kernel
theorem dX8_wordSize_32 : decode cX8_wordSize 32 = .ok (.iinc 1 1, 3) := by decide +kernel
theorem dX8_wordSize_35 : decode cX8_wordSize 35 = .ok (.goto (-33), 3) := by decide +kernel
theorem dX8_wordSize_38 : decode cX8_wordSize 38 = .ok (.iload_n 1, 1) := by decide +kernel
theorem dX8_wordSize_39 : decode cX8_wordSize 39 = .ok (.ireturn, 1) := by decide +kernel
theorem dX8_letter_0 : decode cX8_letter 0 = .ok (.aload_n 0, 1) := by decide +kernel
theorem dX8_letter_1 : decode cX8_letter 1 = .ok (.getfield 32, 3) := by decide +kernel
theorem dX8_letter_4 : decode cX8_letter 4 = .ok (.aload_n 0, 1) := by decide +kernel
theorem dX8_letter_5 : decode cX8_letter 5 = .ok (.getfield 130, 3) := by decide +kernel
theorem dX8_letter_8 : decode cX8_letter 8 = .ok (.iload_n 1, 1) := by decide +kernel
theorem dX8_letter_9 : decode cX8_letter 9 = .ok (.iadd, 1) := by decide +kernel
theorem dX8_letter_10 : decode cX8_letter 10 = .ok (.iaload, 1) := by decide +kernel
theorem dX8_letter_11 : decode cX8_letter 11 = .ok (.ireturn, 1) := by decide +kernel
theorem dX8_wordHere_0 : decode cX8_wordHere 0 = .ok (.aload_n 0, 1) := by decide +kernel
theorem dX8_wordHere_1 : decode cX8_wordHere 1 = .ok (.invokevirtual 139, 3) := by decide +kernel
theorem dX8_wordHere_4 : decode cX8_wordHere 4 = .ok (.iconst 4, 1) := by decide +kernel
theorem dX8_wordHere_5 : decode cX8_wordHere 5 = .ok (.if_icmp .eq 5, 3) := by decide +kernel
theorem dX8_wordHere_8 : decode cX8_wordHere 8 = .ok (.iconst (-1), 1) := by decide +kernel
theorem dX8_wordHere_9 : decode cX8_wordHere 9 = .ok (.ireturn, 1) := by decide +kernel
theorem dX8_wordHere_10 : decode cX8_wordHere 10 = .ok (.aload_n 0, 1) := by decide +kernel
theorem dX8_wordHere_11 : decode cX8_wordHere 11 = .ok (.iconst 0, 1) := by decide +kernel
theorem dX8_wordHere_12 : decode cX8_wordHere 12 = .ok (.invokevirtual 142, 3) := by decide +kernel
theorem dX8_wordHere_15 : decode cX8_wordHere 15 = .ok (.istore_n 1, 1) := by decide +kernel
theorem dX8_wordHere_16 : decode cX8_wordHere 16 = .ok (.iload_n 1, 1) := by decide +kernel
theorem dX8_wordHere_17 : decode cX8_wordHere 17 = .ok (.bipush 112, 2) := by decide +kernel
theorem dX8_wordHere_19 : decode cX8_wordHere 19 = .ok (.if_icmp .ne 37, 3) := by decide +kernel
theorem dX8_wordHere_22 : decode cX8_wordHere 22 = .ok (.aload_n 0, 1) := by decide +kernel
theorem dX8_wordHere_23 : decode cX8_wordHere 23 = .ok (.iconst 1, 1) := by decide +kernel
theorem dX8_wordHere_24 : decode cX8_wordHere 24 = .ok (.invokevirtual 142, 3) := by decide +kernel
theorem dX8_wordHere_27 : decode cX8_wordHere 27 = .ok (.bipush 97, 2) := by decide +kernel
theorem dX8_wordHere_29 : decode cX8_wordHere 29 = .ok (.if_icmp .ne 27, 3) := by decide +kernel
theorem dX8_wordHere_32 : decode cX8_wordHere 32 = .ok (.aload_n 0, 1) := by decide +kernel
theorem dX8_wordHere_33 : decode cX8_wordHere 33 = .ok (.iconst 2, 1) := by decide +kernel
theorem dX8_wordHere_34 : decode cX8_wordHere 34 = .ok (.invokevirtual 142, 3) := by decide +kernel
theorem dX8_wordHere_37 : decode cX8_wordHere 37 = .ok (.bipush 103, 2) := by decide +kernel
theorem dX8_wordHere_39 : decode cX8_wordHere 39 = .ok (.if_icmp .ne 17, 3) := by decide +kernel
theorem dX8_wordHere_42 : decode cX8_wordHere 42 = .ok (.aload_n 0, 1) := by decide +kernel
theorem dX8_wordHere_43 : decode cX8_wordHere 43 = .ok (.iconst 3, 1) := by decide +kernel
theorem dX8_wordHere_44 : decode cX8_wordHere 44 = .ok (.invokevirtual 142, 3) := by decide +kernel
theorem dX8_wordHere_47 : decode cX8_wordHere 47 = .ok (.bipush 101, 2) := by decide +kernel
theorem dX8_wordHere_49 : decode cX8_wordHere 49 = .ok (.if_icmp .ne 7, 3) := by decide +kernel
theorem dX8_wordHere_52 : decode cX8_wordHere 52 = .ok (.iconst 1, 1) := by decide +kernel
theorem dX8_wordHere_53 : decode cX8_wordHere 53 = .ok (.goto 4, 3) := by decide +kernel
theorem dX8_wordHere_56 : decode cX8_wordHere 56 = .ok (.iconst 0, 1) := by decide +kernel
theorem dX8_wordHere_57 : decode cX8_wordHere 57 = .ok (.istore_n 2, 1) := by decide +kernel
theorem dX8_wordHere_58 : decode cX8_wordHere 58 = .ok (.iload_n 1, 1) := by decide +kernel
theorem dX8_wordHere_59 : decode cX8_wordHere 59 = .ok (.bipush 119, 2) := by decide +kernel
theorem dX8_wordHere_61 : decode cX8_wordHere 61 = .ok (.if_icmp .ne 37, 3) := by decide +kernel
theorem dX8_wordHere_64 : decode cX8_wordHere 64 = .ok (.aload_n 0, 1) := by decide +kernel
theorem dX8_wordHere_65 : decode cX8_wordHere 65 = .ok (.iconst 1, 1) := by decide +kernel
theorem dX8_wordHere_66 : decode cX8_wordHere 66 = .ok (.invokevirtual 142, 3) := by decide +kernel
theorem dX8_wordHere_69 : decode cX8_wordHere 69 = .ok (.bipush 111, 2) := by decide +kernel
theorem dX8_wordHere_71 : decode cX8_wordHere 71 = .ok (.if_icmp .ne 27, 3) := by decide +kernel
theorem dX8_wordHere_74 : decode cX8_wordHere 74 = .ok (.aload_n 0, 1) := by decide +kernel
theorem dX8_wordHere_75 : decode cX8_wordHere 75 = .ok (.iconst 2, 1) := by decide +kernel
theorem dX8_wordHere_76 : decode cX8_wordHere 76 = .ok (.invokevirtual 142, 3) := by decide +kernel
theorem dX8_wordHere_79 : decode cX8_wordHere 79 = .ok (.bipush 114, 2) := by decide +kernel
theorem dX8_wordHere_81 : decode cX8_wordHere 81 = .ok (.if_icmp .ne 17, 3) := by decide +kernel
theorem dX8_wordHere_84 : decode cX8_wordHere 84 = .ok (.aload_n 0, 1) := by decide +kernel
theorem dX8_wordHere_85 : decode cX8_wordHere 85 = .ok (.iconst 3, 1) := by decide +kernel
theorem dX8_wordHere_86 : decode cX8_wordHere 86 = .ok (.invokevirtual 142, 3) := by decide +kernel
theorem dX8_wordHere_89 : decode cX8_wordHere 89 = .ok (.bipush 100, 2) := by decide +kernel
theorem dX8_wordHere_91 : decode cX8_wordHere 91 = .ok (.if_icmp .ne 7, 3) := by decide +kernel
theorem dX8_wordHere_94 : decode cX8_wordHere 94 = .ok (.iconst 1, 1) := by decide +kernel
theorem dX8_wordHere_95 : decode cX8_wordHere 95 = .ok (.goto 4, 3) := by decide +kernel
theorem dX8_wordHere_98 : decode cX8_wordHere 98 = .ok (.iconst 0, 1) := by decide +kernel
theorem dX8_wordHere_99 : decode cX8_wordHere 99 = .ok (.istore_n 3, 1) := by decide +kernel
theorem dX8_wordHere_100 : decode cX8_wordHere 100 = .ok (.iload_n 1, 1) := by decide +kernel
theorem dX8_wordHere_101 : decode cX8_wordHere 101 = .ok (.bipush 109, 2) := by decide +kernel
theorem dX8_wordHere_103 : decode cX8_wordHere 103 = .ok (.if_icmp .ne 37, 3) := by decide +kernel
theorem dX8_wordHere_106 : decode cX8_wordHere 106 = .ok (.aload_n 0, 1) := by decide +kernel
theorem dX8_wordHere_107 : decode cX8_wordHere 107 = .ok (.iconst 1, 1) := by decide +kernel
theorem dX8_wordHere_108 : decode cX8_wordHere 108 = .ok (.invokevirtual 142, 3) := by decide +kernel
theorem dX8_wordHere_111 : decode cX8_wordHere 111 = .ok (.bipush 97, 2) := by decide +kernel
theorem dX8_wordHere_113 : decode cX8_wordHere 113 = .ok (.if_icmp .ne 27, 3) := by decide +kernel
theorem dX8_wordHere_116 : decode cX8_wordHere 116 = .ok (.aload_n 0, 1) := by decide +kernel
theorem dX8_wordHere_117 : decode cX8_wordHere 117 = .ok (.iconst 2, 1) := by decide +kernel
theorem dX8_wordHere_118 : decode cX8_wordHere 118 = .ok (.invokevirtual 142, 3) := by decide +kernel
theorem dX8_wordHere_121 : decode cX8_wordHere 121 = .ok (.bipush 114, 2) := by decide +kernel
theorem dX8_wordHere_123 : decode cX8_wordHere 123 = .ok (.if_icmp .ne 17, 3) := by decide +kernel
theorem dX8_wordHere_126 : decode cX8_wordHere 126 = .ok (.aload_n 0, 1) := by decide +kernel
theorem dX8_wordHere_127 : decode cX8_wordHere 127 = .ok (.iconst 3, 1) := by decide +kernel
theorem dX8_wordHere_128 : decode cX8_wordHere 128 = .ok (.invokevirtual 142, 3) := by decide +kernel
theorem dX8_wordHere_131 : decode cX8_wordHere 131 = .ok (.bipush 107, 2) := by decide +kernel
theorem dX8_wordHere_133 : decode cX8_wordHere 133 = .ok (.if_icmp .ne 7, 3) := by decide +kernel
theorem dX8_wordHere_136 : decode cX8_wordHere 136 = .ok (.iconst 1, 1) := by decide +kernel
theorem dX8_wordHere_137 : decode cX8_wordHere 137 = .ok (.goto 4, 3) := by decide +kernel
theorem dX8_wordHere_140 : decode cX8_wordHere 140 = .ok (.iconst 0, 1) := by decide +kernel
theorem dX8_wordHere_141 : decode cX8_wordHere 141 = .ok (.istore 4, 2) := by decide +kernel
theorem dX8_wordHere_143 : decode cX8_wordHere 143 = .ok (.iload_n 2, 1) := by decide +kernel
theorem dX8_wordHere_144 : decode cX8_wordHere 144 = .ok (.ifCond .eq 7, 3) := by decide +kernel
theorem dX8_wordHere_147 : decode cX8_wordHere 147 = .ok (.iconst 0, 1) := by decide +kernel
theorem dX8_wordHere_148 : decode cX8_wordHere 148 = .ok (.goto 21, 3) := by decide +kernel
theorem dX8_wordHere_151 : decode cX8_wordHere 151 = .ok (.iload_n 3, 1) := by decide +kernel
theorem dX8_wordHere_152 : decode cX8_wordHere 152 = .ok (.ifCond .eq 7, 3) := by decide +kernel
theorem dX8_wordHere_155 : decode cX8_wordHere 155 = .ok (.iconst 1, 1) := by decide +kernel
theorem dX8_wordHere_156 : decode cX8_wordHere 156 = .ok (.goto 13, 3) := by decide +kernel
theorem dX8_wordHere_159 : decode cX8_wordHere 159 = .ok (.iload 4, 2) := by decide +kernel
theorem dX8_wordHere_161 : decode cX8_wordHere 161 = .ok (.ifCond .eq 7, 3) := by decide +kernel
theorem dX8_wordHere_164 : decode cX8_wordHere 164 = .ok (.iconst 2, 1) := by decide +kernel
theorem dX8_wordHere_165 : decode cX8_wordHere 165 = .ok (.goto 4, 3) := by decide +kernel
theorem dX8_wordHere_168 : decode cX8_wordHere 168 = .ok (.iconst (-1), 1) := by decide +kernel
theorem dX8_wordHere_169 : decode cX8_wordHere 169 = .ok (.ireturn, 1) := by decide +kernel
theorem dX8_number_0 : decode cX8_number 0 = .ok (.aload_n 0, 1) := by decide +kernel
theorem dX8_number_1 : decode cX8_number 1 = .ok (.invokevirtual 145, 3) := by decide +kernel
theorem dX8_number_4 : decode cX8_number 4 = .ok (.iconst 0, 1) := by decide +kernel
theorem dX8_number_5 : decode cX8_number 5 = .ok (.istore_n 1, 1) := by decide +kernel
theorem dX8_number_6 : decode cX8_number 6 = .ok (.iconst 0, 1) := by decide +kernel
theorem dX8_number_7 : decode cX8_number 7 = .ok (.istore_n 2, 1) := by decide +kernel
theorem dX8_number_8 : decode cX8_number 8 = .ok (.aload_n 0, 1) := by decide +kernel
theorem dX8_number_9 : decode cX8_number 9 = .ok (.getfield 130, 3) := by decide +kernel
theorem dX8_number_12 : decode cX8_number 12 = .ok (.iload_n 1, 1) := by decide +kernel
theorem dX8_number_13 : decode cX8_number 13 = .ok (.iadd, 1) := by decide +kernel
theorem dX8_number_14 : decode cX8_number 14 = .ok (.aload_n 0, 1) := by decide +kernel
theorem dX8_number_15 : decode cX8_number 15 = .ok (.getfield 127, 3) := by decide +kernel
theorem dX8_number_18 : decode cX8_number 18 = .ok (.if_icmp .ge 55, 3) := by decide +kernel
theorem dX8_number_21 : decode cX8_number 21 = .ok (.aload_n 0, 1) := by decide +kernel
theorem dX8_number_22 : decode cX8_number 22 = .ok (.getfield 32, 3) := by decide +kernel
theorem dX8_number_25 : decode cX8_number 25 = .ok (.aload_n 0, 1) := by decide +kernel
theorem dX8_number_26 : decode cX8_number 26 = .ok (.getfield 130, 3) := by decide +kernel
theorem dX8_number_29 : decode cX8_number 29 = .ok (.iload_n 1, 1) := by decide +kernel
theorem dX8_number_30 : decode cX8_number 30 = .ok (.iadd, 1) := by decide +kernel
theorem dX8_number_31 : decode cX8_number 31 = .ok (.iaload, 1) := by decide +kernel
theorem dX8_number_32 : decode cX8_number 32 = .ok (.invokestatic 148, 3) := by decide +kernel
theorem dX8_number_35 : decode cX8_number 35 = .ok (.ifCond .eq 38, 3) := by decide +kernel
theorem dX8_number_38 : decode cX8_number 38 = .ok (.iload_n 1, 1) := by decide +kernel
theorem dX8_number_39 : decode cX8_number 39 = .ok (.iconst 2, 1) := by decide +kernel
theorem dX8_number_40 : decode cX8_number 40 = .ok (.if_icmp .ge 25, 3) := by decide +kernel
theorem dX8_number_43 : decode cX8_number 43 = .ok (.bipush 10, 2) := by decide +kernel
theorem dX8_number_45 : decode cX8_number 45 = .ok (.iload_n 2, 1) := by decide +kernel
theorem dX8_number_46 : decode cX8_number 46 = .ok (.imul, 1) := by decide +kernel
theorem dX8_number_47 : decode cX8_number 47 = .ok (.aload_n 0, 1) := by decide +kernel
theorem dX8_number_48 : decode cX8_number 48 = .ok (.getfield 32, 3) := by decide +kernel
theorem dX8_number_51 : decode cX8_number 51 = .ok (.aload_n 0, 1) := by decide +kernel
theorem dX8_number_52 : decode cX8_number 52 = .ok (.getfield 130, 3) := by decide +kernel
theorem dX8_number_55 : decode cX8_number 55 = .ok (.iload_n 1, 1) := by decide +kernel
theorem dX8_number_56 : decode cX8_number 56 = .ok (.iadd, 1) := by decide +kernel
theorem dX8_number_57 : decode cX8_number 57 = .ok (.iaload, 1) := by decide +kernel
theorem dX8_number_58 : decode cX8_number 58 = .ok (.iadd, 1) := by decide +kernel
theorem dX8_number_59 : decode cX8_number 59 = .ok (.bipush 48, 2) := by decide +kernel
theorem dX8_number_61 : decode cX8_number 61 = .ok (.isub, 1) := by decide +kernel
theorem dX8_number_62 : decode cX8_number 62 = .ok (.goto 4, 3) := by decide +kernel
theorem dX8_number_65 : decode cX8_number 65 = .ok (.iload_n 2, 1) := by decide +kernel
theorem dX8_number_66 : decode cX8_number 66 = .ok (.istore_n 2, 1) := by decide +kernel
theorem dX8_number_67 : decode cX8_number 67 = .ok (.iinc 1 1, 3) := by decide +kernel
theorem dX8_number_70 : decode cX8_number 70 = .ok (.goto (-62), 3) := by decide +kernel
theorem dX8_number_73 : decode cX8_number 73 = .ok (.iload_n 1, 1) := by decide +kernel
theorem dX8_number_74 : decode cX8_number 74 = .ok (.iconst 1, 1) := by decide +kernel
theorem dX8_number_75 : decode cX8_number 75 = .ok (.iconst 2, 1) := by decide +kernel
theorem dX8_number_76 : decode cX8_number 76 = .ok (.invokestatic 95, 3) := by decide +kernel
theorem dX8_number_79 : decode cX8_number 79 = .ok (.ifCond .ne 5, 3) := by decide +kernel
theorem dX8_number_82 : decode cX8_number 82 = .ok (.iconst 0, 1) := by decide +kernel
theorem dX8_number_83 : decode cX8_number 83 = .ok (.ireturn, 1) := by decide +kernel
theorem dX8_number_84 : decode cX8_number 84 = .ok (.aload_n 0, 1) := by decide +kernel
theorem dX8_number_85 : decode cX8_number 85 = .ok (.iload_n 2, 1) := by decide +kernel
theorem dX8_number_86 : decode cX8_number 86 = .ok (.putfield 151, 3) := by decide +kernel
theorem dX8_number_89 : decode cX8_number 89 = .ok (.aload_n 0, 1) := by decide +kernel
theorem dX8_number_90 : decode cX8_number 90 = .ok (.dup, 1) := by decide +kernel
theorem dX8_number_91 : decode cX8_number 91 = .ok (.getfield 130, 3) := by decide +kernel
theorem dX8_number_94 : decode cX8_number 94 = .ok (.iload_n 1, 1) := by decide +kernel
theorem dX8_number_95 : decode cX8_number 95 = .ok (.iadd, 1) := by decide +kernel
theorem dX8_number_96 : decode cX8_number 96 = .ok (.putfield 130, 3) := by decide +kernel
theorem dX8_number_99 : decode cX8_number 99 = .ok (.iconst 1, 1) := by decide +kernel
theorem dX8_number_100 : decode cX8_number 100 = .ok (.ireturn, 1) := by decide +kernel
theorem dX8_readsItem_0 : decode cX8_readsItem 0 = .ok (.aload_n 0, 1) := by decide +kernel
theorem dX8_readsItem_1 : decode cX8_readsItem 1 = .ok (.invokevirtual 154, 3) := by decide +kernel
theorem dX8_readsItem_4 : decode cX8_readsItem 4 = .ok (.istore_n 1, 1) := by decide +kernel
theorem dX8_readsItem_5 : decode cX8_readsItem 5 = .ok (.iload_n 1, 1) := by decide +kernel
theorem dX8_readsItem_6 : decode cX8_readsItem 6 = .ok (.iconst (-1), 1) := by decide +kernel
theorem dX8_readsItem_7 : decode cX8_readsItem 7 = .ok (.if_icmp .eq 27, 3) := by decide +kernel
theorem dX8_readsItem_10 : decode cX8_readsItem 10 = .ok (.iload_n 1, 1) := by decide +kernel
theorem dX8_readsItem_11 : decode cX8_readsItem 11 = .ok (.ifCond .ne 7, 3) := by decide +kernel
theorem dX8_readsItem_14 : decode cX8_readsItem 14 = .ok (.iconst 1, 1) := by decide +kernel
theorem dX8_readsItem_15 : decode cX8_readsItem 15 = .ok (.goto 4, 3) := by decide +kernel
theorem dX8_readsItem_18 : decode cX8_readsItem 18 = .ok (.iconst 0, 1) := by decide +kernel
theorem dX8_readsItem_19 : decode cX8_readsItem 19 = .ok (.aload_n 0, 1) := by decide +kernel
theorem dX8_readsItem_20 : decode cX8_readsItem 20 = .ok (.getfield 157, 3) := by decide +kernel
theorem dX8_readsItem_23 : decode cX8_readsItem 23 = .ok (.ifCond .ne 7, 3) := by decide +kernel
theorem dX8_readsItem_26 : decode cX8_readsItem 26 = .ok (.iconst 1, 1) := by decide +kernel
theorem dX8_readsItem_27 : decode cX8_readsItem 27 = .ok (.goto 4, 3) := by decide +kernel
theorem dX8_readsItem_30 : decode cX8_readsItem 30 = .ok (.iconst 0, 1) := by decide +kernel
theorem dX8_readsItem_31 : decode cX8_readsItem 31 = .ok (.if_icmp .eq 5, 3) := by decide +kernel
theorem dX8_readsItem_34 : decode cX8_readsItem 34 = .ok (.iconst 0, 1) := by decide +kernel
theorem dX8_readsItem_35 : decode cX8_readsItem 35 = .ok (.ireturn, 1) := by decide +kernel
theorem dX8_readsItem_36 : decode cX8_readsItem 36 = .ok (.aload_n 0, 1) := by decide +kernel
theorem dX8_readsItem_37 : decode cX8_readsItem 37 = .ok (.dup, 1) := by decide +kernel
theorem dX8_readsItem_38 : decode cX8_readsItem 38 = .ok (.getfield 130, 3) := by decide +kernel
theorem dX8_readsItem_41 : decode cX8_readsItem 41 = .ok (.iconst 4, 1) := by decide +kernel
theorem dX8_readsItem_42 : decode cX8_readsItem 42 = .ok (.iadd, 1) := by decide +kernel
theorem dX8_readsItem_43 : decode cX8_readsItem 43 = .ok (.putfield 130, 3) := by decide +kernel
theorem dX8_readsItem_46 : decode cX8_readsItem 46 = .ok (.aload_n 0, 1) := by decide +kernel
theorem dX8_readsItem_47 : decode cX8_readsItem 47 = .ok (.getfield 35, 3) := by decide +kernel
theorem dX8_readsItem_50 : decode cX8_readsItem 50 = .ok (.iconst 3, 1) := by decide +kernel
theorem dX8_readsItem_51 : decode cX8_readsItem 51 = .ok (.aload_n 0, 1) := by decide +kernel
theorem dX8_readsItem_52 : decode cX8_readsItem 52 = .ok (.getfield 157, 3) := by decide +kernel
theorem dX8_readsItem_55 : decode cX8_readsItem 55 = .ok (.imul, 1) := by decide +kernel
theorem dX8_readsItem_56 : decode cX8_readsItem 56 = .ok (.iload_n 1, 1) := by decide +kernel
theorem dX8_readsItem_57 : decode cX8_readsItem 57 = .ok (.iastore, 1) := by decide +kernel
theorem dX8_readsItem_58 : decode cX8_readsItem 58 = .ok (.iconst 1, 1) := by decide +kernel
theorem dX8_readsItem_59 : decode cX8_readsItem 59 = .ok (.istore_n 2, 1) := by decide +kernel
theorem dX8_readsItem_60 : decode cX8_readsItem 60 = .ok (.iload_n 2, 1) := by decide +kernel
theorem dX8_readsItem_61 : decode cX8_readsItem 61 = .ok (.iload_n 1, 1) := by decide +kernel
theorem dX8_readsItem_62 : decode cX8_readsItem 62 = .ok (.iconst 1, 1) := by decide +kernel
theorem dX8_readsItem_63 : decode cX8_readsItem 63 = .ok (.if_icmp .ne 7, 3) := by decide +kernel
theorem dX8_readsItem_66 : decode cX8_readsItem 66 = .ok (.iconst 2, 1) := by decide +kernel
theorem dX8_readsItem_67 : decode cX8_readsItem 67 = .ok (.goto 4, 3) := by decide +kernel
theorem dX8_readsItem_70 : decode cX8_readsItem 70 = .ok (.iconst 3, 1) := by decide +kernel
theorem dX8_readsItem_71 : decode cX8_readsItem 71 = .ok (.if_icmp .ge 35, 3) := by decide +kernel
theorem dX8_readsItem_74 : decode cX8_readsItem 74 = .ok (.aload_n 0, 1) := by decide +kernel
theorem dX8_readsItem_75 : decode cX8_readsItem 75 = .ok (.invokevirtual 160, 3) := by decide +kernel
theorem dX8_readsItem_78 : decode cX8_readsItem 78 = .ok (.ifCond .ne 5, 3) := by decide +kernel
theorem dX8_readsItem_81 : decode cX8_readsItem 81 = .ok (.iconst 0, 1) := by decide +kernel
theorem dX8_readsItem_82 : decode cX8_readsItem 82 = .ok (.ireturn, 1) := by decide +kernel
theorem dX8_readsItem_83 : decode cX8_readsItem 83 = .ok (.aload_n 0, 1) := by decide +kernel
theorem dX8_readsItem_84 : decode cX8_readsItem 84 = .ok (.getfield 35, 3) := by decide +kernel
theorem dX8_readsItem_87 : decode cX8_readsItem 87 = .ok (.iconst 3, 1) := by decide +kernel
theorem dX8_readsItem_88 : decode cX8_readsItem 88 = .ok (.aload_n 0, 1) := by decide +kernel
theorem dX8_readsItem_89 : decode cX8_readsItem 89 = .ok (.getfield 157, 3) := by decide +kernel
theorem dX8_readsItem_92 : decode cX8_readsItem 92 = .ok (.imul, 1) := by decide +kernel
theorem dX8_readsItem_93 : decode cX8_readsItem 93 = .ok (.iload_n 2, 1) := by decide +kernel
theorem dX8_readsItem_94 : decode cX8_readsItem 94 = .ok (.iadd, 1) := by decide +kernel
theorem dX8_readsItem_95 : decode cX8_readsItem 95 = .ok (.aload_n 0, 1) := by decide +kernel
theorem dX8_readsItem_96 : decode cX8_readsItem 96 = .ok (.getfield 151, 3) := by decide +kernel
theorem dX8_readsItem_99 : decode cX8_readsItem 99 = .ok (.iastore, 1) := by decide +kernel
theorem dX8_readsItem_100 : decode cX8_readsItem 100 = .ok (.iinc 2 1, 3) := by decide +kernel
theorem dX8_readsItem_103 : decode cX8_readsItem 103 = .ok (.goto (-43), 3) := by decide +kernel
theorem dX8_readsItem_106 : decode cX8_readsItem 106 = .ok (.aload_n 0, 1) := by decide +kernel
theorem dX8_readsItem_107 : decode cX8_readsItem 107 = .ok (.invokevirtual 145, 3) := by decide +kernel
theorem dX8_readsItem_110 : decode cX8_readsItem 110 = .ok (.aload_n 0, 1) := by decide +kernel
theorem dX8_readsItem_111 : decode cX8_readsItem 111 = .ok (.invokevirtual 133, 3) := by decide +kernel
theorem dX8_readsItem_114 : decode cX8_readsItem 114 = .ok (.bipush 59, 2) := by decide +kernel
theorem dX8_readsItem_116 : decode cX8_readsItem 116 = .ok (.if_icmp .eq 5, 3) := by decide +kernel
theorem dX8_readsItem_119 : decode cX8_readsItem 119 = .ok (.iconst 0, 1) := by decide +kernel
theorem dX8_readsItem_120 : decode cX8_readsItem 120 = .ok (.ireturn, 1) := by decide +kernel
theorem dX8_readsItem_121 : decode cX8_readsItem 121 = .ok (.aload_n 0, 1) := by decide +kernel
theorem dX8_readsItem_122 : decode cX8_readsItem 122 = .ok (.dup, 1) := by decide +kernel
theorem dX8_readsItem_123 : decode cX8_readsItem 123 = .ok (.getfield 130, 3) := by decide +kernel
theorem dX8_readsItem_126 : decode cX8_readsItem 126 = .ok (.iconst 1, 1) := by decide +kernel
theorem dX8_readsItem_127 : decode cX8_readsItem 127 = .ok (.iadd, 1) := by decide +kernel
theorem dX8_readsItem_128 : decode cX8_readsItem 128 = .ok (.putfield 130, 3) := by decide +kernel
theorem dX8_readsItem_131 : decode cX8_readsItem 131 = .ok (.aload_n 0, 1) := by decide +kernel
theorem dX8_readsItem_132 : decode cX8_readsItem 132 = .ok (.dup, 1) := by decide +kernel
theorem dX8_readsItem_133 : decode cX8_readsItem 133 = .ok (.getfield 157, 3) := by decide +kernel
theorem dX8_readsItem_136 : decode cX8_readsItem 136 = .ok (.iconst 1, 1) := by decide +kernel
theorem dX8_readsItem_137 : decode cX8_readsItem 137 = .ok (.iadd, 1) := by decide +kernel
theorem dX8_readsItem_138 : decode cX8_readsItem 138 = .ok (.putfield 157, 3) := by decide +kernel
theorem dX8_readsItem_141 : decode cX8_readsItem 141 = .ok (.iconst 1, 1) := by decide +kernel
theorem dX8_readsItem_142 : decode cX8_readsItem 142 = .ok (.ireturn, 1) := by decide +kernel
theorem dX8_readsPage_0 : decode cX8_readsPage 0 = .ok (.aload_n 0, 1) := by decide +kernel
theorem dX8_readsPage_1 : decode cX8_readsPage 1 = .ok (.iconst 0, 1) := by decide +kernel
theorem dX8_readsPage_2 : decode cX8_readsPage 2 = .ok (.putfield 130, 3) := by decide +kernel
theorem dX8_readsPage_5 : decode cX8_readsPage 5 = .ok (.aload_n 0, 1) := by decide +kernel
theorem dX8_readsPage_6 : decode cX8_readsPage 6 = .ok (.iconst 0, 1) := by decide +kernel
theorem dX8_readsPage_7 : decode cX8_readsPage 7 = .ok (.putfield 157, 3) := by decide +kernel
theorem dX8_readsPage_10 : decode cX8_readsPage 10 = .ok (.aload_n 0, 1) := by decide +kernel
theorem dX8_readsPage_11 : decode cX8_readsPage 11 = .ok (.invokevirtual 145, 3) := by decide +kernel
theorem dX8_readsPage_14 : decode cX8_readsPage 14 = .ok (.aload_n 0, 1) := by decide +kernel
theorem dX8_readsPage_15 : decode cX8_readsPage 15 = .ok (.invokevirtual 164, 3) := by decide +kernel
theorem dX8_readsPage_18 : decode cX8_readsPage 18 = .ok (.istore_n 1, 1) := by decide +kernel
theorem dX8_readsPage_19 : decode cX8_readsPage 19 = .ok (.aload_n 0, 1) := by decide +kernel
theorem dX8_readsPage_20 : decode cX8_readsPage 20 = .ok (.invokevirtual 145, 3) := by decide +kernel
theorem dX8_readsPage_23 : decode cX8_readsPage 23 = .ok (.iload_n 1, 1) := by decide +kernel
theorem dX8_readsPage_24 : decode cX8_readsPage 24 = .ok (.ifCond .eq 26, 3) := by decide +kernel
theorem dX8_readsPage_27 : decode cX8_readsPage 27 = .ok (.aload_n 0, 1) := by decide +kernel
theorem dX8_readsPage_28 : decode cX8_readsPage 28 = .ok (.getfield 130, 3) := by decide +kernel
theorem dX8_readsPage_31 : decode cX8_readsPage 31 = .ok (.aload_n 0, 1) := by decide +kernel
theorem dX8_readsPage_32 : decode cX8_readsPage 32 = .ok (.getfield 127, 3) := by decide +kernel
theorem dX8_readsPage_35 : decode cX8_readsPage 35 = .ok (.if_icmp .ge 15, 3) := by decide +kernel
theorem dX8_readsPage_38 : decode cX8_readsPage 38 = .ok (.aload_n 0, 1) := by decide +kernel
theorem dX8_readsPage_39 : decode cX8_readsPage 39 = .ok (.invokevirtual 164, 3) := by decide +kernel
theorem dX8_readsPage_42 : decode cX8_readsPage 42 = .ok (.istore_n 1, 1) := by decide +kernel
theorem dX8_readsPage_43 : decode cX8_readsPage 43 = .ok (.aload_n 0, 1) := by decide +kernel
theorem dX8_readsPage_44 : decode cX8_readsPage 44 = .ok (.invokevirtual 145, 3) := by decide +kernel
theorem dX8_readsPage_47 : decode cX8_readsPage 47 = .ok (.goto (-24), 3) := by decide +kernel
theorem dX8_readsPage_50 : decode cX8_readsPage 50 = .ok (.iload_n 1, 1) := by decide +kernel
theorem dX8_readsPage_51 : decode cX8_readsPage 51 = .ok (.ireturn, 1) := by decide +kernel
theorem dX8_refusedItem_0 : decode cX8_refusedItem 0 = .ok (.iconst 0, 1) := by decide +kernel
theorem dX8_refusedItem_1 : decode cX8_refusedItem 1 = .ok (.istore_n 1, 1) := by decide +kernel
theorem dX8_refusedItem_2 : decode cX8_refusedItem 2 = .ok (.iconst 0, 1) := by decide +kernel
theorem dX8_refusedItem_3 : decode cX8_refusedItem 3 = .ok (.istore_n 2, 1) := by decide +kernel
theorem dX8_refusedItem_4 : decode cX8_refusedItem 4 = .ok (.iload_n 2, 1) := by decide +kernel
theorem dX8_refusedItem_5 : decode cX8_refusedItem 5 = .ok (.aload_n 0, 1) := by decide +kernel
theorem dX8_refusedItem_6 : decode cX8_refusedItem 6 = .ok (.getfield 157, 3) := by decide +kernel
theorem dX8_refusedItem_9 : decode cX8_refusedItem 9 = .ok (.if_icmp .ge 127, 3) := by decide +kernel
theorem dX8_refusedItem_12 : decode cX8_refusedItem 12 = .ok (.aload_n 0, 1) := by decide +kernel
theorem dX8_refusedItem_13 : decode cX8_refusedItem 13 = .ok (.getfield 35, 3) := by decide +kernel
theorem dX8_refusedItem_16 : decode cX8_refusedItem 16 = .ok (.iconst 3, 1) := by decide +kernel
theorem dX8_refusedItem_17 : decode cX8_refusedItem 17 = .ok (.iload_n 2, 1) := by decide +kernel
theorem dX8_refusedItem_18 : decode cX8_refusedItem 18 = .ok (.imul, 1) := by decide +kernel
theorem dX8_refusedItem_19 : decode cX8_refusedItem 19 = .ok (.iconst 1, 1) := by decide +kernel
theorem dX8_refusedItem_20 : decode cX8_refusedItem 20 = .ok (.iadd, 1) := by decide +kernel
theorem dX8_refusedItem_21 : decode cX8_refusedItem 21 = .ok (.iaload, 1) := by decide +kernel
theorem dX8_refusedItem_22 : decode cX8_refusedItem 22 = .ok (.istore_n 3, 1) := by decide +kernel
theorem dX8_refusedItem_23 : decode cX8_refusedItem 23 = .ok (.aload_n 0, 1) := by decide +kernel
theorem dX8_refusedItem_24 : decode cX8_refusedItem 24 = .ok (.getfield 35, 3) := by decide +kernel
theorem dX8_refusedItem_27 : decode cX8_refusedItem 27 = .ok (.iconst 3, 1) := by decide +kernel
theorem dX8_refusedItem_28 : decode cX8_refusedItem 28 = .ok (.iload_n 2, 1) := by decide +kernel
theorem dX8_refusedItem_29 : decode cX8_refusedItem 29 = .ok (.imul, 1) := by decide +kernel
theorem dX8_refusedItem_30 : decode cX8_refusedItem 30 = .ok (.iconst 2, 1) := by decide +kernel
theorem dX8_refusedItem_31 : decode cX8_refusedItem 31 = .ok (.iadd, 1) := by decide +kernel
theorem dX8_refusedItem_32 : decode cX8_refusedItem 32 = .ok (.iaload, 1) := by decide +kernel
theorem dX8_refusedItem_33 : decode cX8_refusedItem 33 = .ok (.istore 4, 2) := by decide +kernel
theorem dX8_refusedItem_35 : decode cX8_refusedItem 35 = .ok (.aload_n 0, 1) := by decide +kernel
theorem dX8_refusedItem_36 : decode cX8_refusedItem 36 = .ok (.getfield 35, 3) := by decide +kernel
theorem dX8_refusedItem_39 : decode cX8_refusedItem 39 = .ok (.iconst 3, 1) := by decide +kernel
theorem dX8_refusedItem_40 : decode cX8_refusedItem 40 = .ok (.iload_n 2, 1) := by decide +kernel
theorem dX8_refusedItem_41 : decode cX8_refusedItem 41 = .ok (.imul, 1) := by decide +kernel
theorem dX8_refusedItem_42 : decode cX8_refusedItem 42 = .ok (.iaload, 1) := by decide +kernel
theorem dX8_refusedItem_43 : decode cX8_refusedItem 43 = .ok (.istore 5, 2) := by decide +kernel
theorem dX8_refusedItem_45 : decode cX8_refusedItem 45 = .ok (.iload 5, 2) := by decide +kernel
theorem dX8_refusedItem_47 : decode cX8_refusedItem 47 = .ok (.ifCond .ne 12, 3) := by decide +kernel
theorem dX8_refusedItem_50 : decode cX8_refusedItem 50 = .ok (.iload_n 3, 1) := by decide +kernel
theorem dX8_refusedItem_51 : decode cX8_refusedItem 51 = .ok (.iload 4, 2) := by decide +kernel
theorem dX8_refusedItem_53 : decode cX8_refusedItem 53 = .ok (.invokestatic 99, 3) := by decide +kernel
theorem dX8_refusedItem_56 : decode cX8_refusedItem 56 = .ok (.goto 51, 3) := by decide +kernel
theorem dX8_refusedItem_59 : decode cX8_refusedItem 59 = .ok (.iload 5, 2) := by decide +kernel
theorem dX8_refusedItem_61 : decode cX8_refusedItem 61 = .ok (.iconst 1, 1) := by decide +kernel
theorem dX8_refusedItem_62 : decode cX8_refusedItem 62 = .ok (.if_icmp .ne 27, 3) := by decide +kernel
theorem dX8_refusedItem_65 : decode cX8_refusedItem 65 = .ok (.iload_n 3, 1) := by decide +kernel
theorem dX8_refusedItem_66 : decode cX8_refusedItem 66 = .ok (.iconst 1, 1) := by decide +kernel
theorem dX8_refusedItem_67 : decode cX8_refusedItem 67 = .ok (.bipush 9, 2) := by decide +kernel
theorem dX8_refusedItem_69 : decode cX8_refusedItem 69 = .ok (.invokestatic 95, 3) := by decide +kernel
theorem dX8_refusedItem_72 : decode cX8_refusedItem 72 = .ok (.ifCond .eq 13, 3) := by decide +kernel
theorem dX8_refusedItem_75 : decode cX8_refusedItem 75 = .ok (.iload_n 1, 1) := by decide +kernel
theorem dX8_refusedItem_76 : decode cX8_refusedItem 76 = .ok (.bipush 12, 2) := by decide +kernel
theorem dX8_refusedItem_78 : decode cX8_refusedItem 78 = .ok (.if_icmp .ge 7, 3) := by decide +kernel
theorem dX8_refusedItem_81 : decode cX8_refusedItem 81 = .ok (.iconst 1, 1) := by decide +kernel
theorem dX8_refusedItem_82 : decode cX8_refusedItem 82 = .ok (.goto 25, 3) := by decide +kernel
theorem dX8_refusedItem_85 : decode cX8_refusedItem 85 = .ok (.iconst 0, 1) := by decide +kernel
theorem dX8_refusedItem_86 : decode cX8_refusedItem 86 = .ok (.goto 21, 3) := by decide +kernel
theorem dX8_refusedItem_89 : decode cX8_refusedItem 89 = .ok (.iload_n 3, 1) := by decide +kernel
theorem dX8_refusedItem_90 : decode cX8_refusedItem 90 = .ok (.iload_n 1, 1) := by decide +kernel
theorem dX8_refusedItem_91 : decode cX8_refusedItem 91 = .ok (.if_icmp .ge 15, 3) := by decide +kernel
theorem dX8_refusedItem_94 : decode cX8_refusedItem 94 = .ok (.iload 4, 2) := by decide +kernel
theorem dX8_refusedItem_96 : decode cX8_refusedItem 96 = .ok (.invokestatic 118, 3) := by decide +kernel
theorem dX8_refusedItem_99 : decode cX8_refusedItem 99 = .ok (.ifCond .eq 7, 3) := by decide +kernel
theorem dX8_refusedItem_102 : decode cX8_refusedItem 102 = .ok (.iconst 1, 1) := by decide +kernel
theorem dX8_refusedItem_103 : decode cX8_refusedItem 103 = .ok (.goto 4, 3) := by decide +kernel
theorem dX8_refusedItem_106 : decode cX8_refusedItem 106 = .ok (.iconst 0, 1) := by decide +kernel
theorem dX8_refusedItem_107 : decode cX8_refusedItem 107 = .ok (.istore 6, 2) := by decide +kernel
theorem dX8_refusedItem_109 : decode cX8_refusedItem 109 = .ok (.iload 6, 2) := by decide +kernel
theorem dX8_refusedItem_111 : decode cX8_refusedItem 111 = .ok (.ifCond .ne 5, 3) := by decide +kernel
theorem dX8_refusedItem_114 : decode cX8_refusedItem 114 = .ok (.iload_n 2, 1) := by decide +kernel
theorem dX8_refusedItem_115 : decode cX8_refusedItem 115 = .ok (.ireturn, 1) := by decide +kernel
theorem dX8_refusedItem_116 : decode cX8_refusedItem 116 = .ok (.iload_n 1, 1) := by decide +kernel
theorem dX8_refusedItem_117 : decode cX8_refusedItem 117 = .ok (.iload 5, 2) := by decide +kernel
theorem dX8_refusedItem_119 : decode cX8_refusedItem 119 = .ok (.iconst 1, 1) := by decide +kernel
theorem dX8_refusedItem_120 : decode cX8_refusedItem 120 = .ok (.if_icmp .ne 7, 3) := by decide +kernel
theorem dX8_refusedItem_123 : decode cX8_refusedItem 123 = .ok (.iconst 1, 1) := by decide +kernel
theorem dX8_refusedItem_124 : decode cX8_refusedItem 124 = .ok (.goto 4, 3) := by decide +kernel
theorem dX8_refusedItem_127 : decode cX8_refusedItem 127 = .ok (.iconst 0, 1) := by decide +kernel
theorem dX8_refusedItem_128 : decode cX8_refusedItem 128 = .ok (.iadd, 1) := by decide +kernel
theorem dX8_refusedItem_129 : decode cX8_refusedItem 129 = .ok (.istore_n 1, 1) := by decide +kernel
theorem dX8_refusedItem_130 : decode cX8_refusedItem 130 = .ok (.iinc 2 1, 3) := by decide +kernel
theorem dX8_refusedItem_133 : decode cX8_refusedItem 133 = .ok (.goto (-129), 3) := by decide +kernel
theorem dX8_refusedItem_136 : decode cX8_refusedItem 136 = .ok (.iconst (-1), 1) := by decide +kernel
theorem dX8_refusedItem_137 : decode cX8_refusedItem 137 = .ok (.ireturn, 1) := by decide +kernel
theorem dX8_read_0 : decode cX8_read 0 = .ok (.aload_n 0, 1) := by decide +kernel
theorem dX8_read_1 : decode cX8_read 1 = .ok (.invokevirtual 167, 3) := by decide +kernel
theorem dX8_read_4 : decode cX8_read 4 = .ok (.ifCond .ne 11, 3) := by decide +kernel
theorem dX8_read_7 : decode cX8_read 7 = .ok (.bipush (-10), 2) := by decide +kernel
theorem dX8_read_9 : decode cX8_read 9 = .ok (.aload_n 0, 1) := by decide +kernel
theorem dX8_read_10 : decode cX8_read 10 = .ok (.getfield 130, 3) := by decide +kernel
theorem dX8_read_13 : decode cX8_read 13 = .ok (.isub, 1) := by decide +kernel
theorem dX8_read_14 : decode cX8_read 14 = .ok (.ireturn, 1) := by decide +kernel
theorem dX8_read_15 : decode cX8_read 15 = .ok (.aload_n 0, 1) := by decide +kernel
theorem dX8_read_16 : decode cX8_read 16 = .ok (.invokevirtual 170, 3) := by decide +kernel
theorem dX8_read_19 : decode cX8_read 19 = .ok (.istore_n 1, 1) := by decide +kernel
theorem dX8_read_20 : decode cX8_read 20 = .ok (.iload_n 1, 1) := by decide +kernel
theorem dX8_read_21 : decode cX8_read 21 = .ok (.iconst (-1), 1) := by decide +kernel
theorem dX8_read_22 : decode cX8_read 22 = .ok (.if_icmp .eq 9, 3) := by decide +kernel
theorem dX8_read_25 : decode cX8_read 25 = .ok (.sipush (-1000), 3) := by decide +kernel
theorem dX8_read_28 : decode cX8_read 28 = .ok (.iload_n 1, 1) := by decide +kernel
theorem dX8_read_29 : decode cX8_read 29 = .ok (.isub, 1) := by decide +kernel
theorem dX8_read_30 : decode cX8_read 30 = .ok (.ireturn, 1) := by decide +kernel
theorem dX8_read_31 : decode cX8_read 31 = .ok (.aload_n 0, 1) := by decide +kernel
theorem dX8_read_32 : decode cX8_read 32 = .ok (.aload_n 0, 1) := by decide +kernel
theorem dX8_read_33 : decode cX8_read 33 = .ok (.getfield 35, 3) := by decide +kernel
theorem dX8_read_36 : decode cX8_read 36 = .ok (.iconst 1, 1) := by decide +kernel
theorem dX8_read_37 : decode cX8_read 37 = .ok (.iaload, 1) := by decide +kernel
theorem dX8_read_38 : decode cX8_read 38 = .ok (.aload_n 0, 1) := by decide +kernel
theorem dX8_read_39 : decode cX8_read 39 = .ok (.getfield 35, 3) := by decide +kernel
theorem dX8_read_42 : decode cX8_read 42 = .ok (.iconst 2, 1) := by decide +kernel
theorem dX8_read_43 : decode cX8_read 43 = .ok (.iaload, 1) := by decide +kernel
theorem dX8_read_44 : decode cX8_read 44 = .ok (.invokevirtual 76, 3) := by decide +kernel
theorem dX8_read_47 : decode cX8_read 47 = .ok (.iconst 1, 1) := by decide +kernel
theorem dX8_read_48 : decode cX8_read 48 = .ok (.istore_n 2, 1) := by decide +kernel
theorem dX8_read_49 : decode cX8_read 49 = .ok (.iload_n 2, 1) := by decide +kernel
theorem dX8_read_50 : decode cX8_read 50 = .ok (.aload_n 0, 1) := by decide +kernel
theorem dX8_read_51 : decode cX8_read 51 = .ok (.getfield 157, 3) := by decide +kernel
theorem dX8_read_54 : decode cX8_read 54 = .ok (.if_icmp .ge 63, 3) := by decide +kernel
theorem dX8_read_57 : decode cX8_read 57 = .ok (.aload_n 0, 1) := by decide +kernel
theorem dX8_read_58 : decode cX8_read 58 = .ok (.getfield 35, 3) := by decide +kernel
theorem dX8_read_61 : decode cX8_read 61 = .ok (.iconst 3, 1) := by decide +kernel
theorem dX8_read_62 : decode cX8_read 62 = .ok (.iload_n 2, 1) := by decide +kernel
theorem dX8_read_63 : decode cX8_read 63 = .ok (.imul, 1) := by decide +kernel
theorem dX8_read_64 : decode cX8_read 64 = .ok (.iaload, 1) := by decide +kernel
theorem dX8_read_65 : decode cX8_read 65 = .ok (.iconst 1, 1) := by decide +kernel
theorem dX8_read_66 : decode cX8_read 66 = .ok (.if_icmp .ne 21, 3) := by decide +kernel
theorem dX8_read_69 : decode cX8_read 69 = .ok (.aload_n 0, 1) := by decide +kernel
theorem dX8_read_70 : decode cX8_read 70 = .ok (.aload_n 0, 1) := by decide +kernel
theorem dX8_read_71 : decode cX8_read 71 = .ok (.getfield 35, 3) := by decide +kernel
theorem dX8_read_74 : decode cX8_read 74 = .ok (.iconst 3, 1) := by decide +kernel
theorem dX8_read_75 : decode cX8_read 75 = .ok (.iload_n 2, 1) := by decide +kernel
theorem dX8_read_76 : decode cX8_read 76 = .ok (.imul, 1) := by decide +kernel
theorem dX8_read_77 : decode cX8_read 77 = .ok (.iconst 1, 1) := by decide +kernel
theorem dX8_read_78 : decode cX8_read 78 = .ok (.iadd, 1) := by decide +kernel
theorem dX8_read_79 : decode cX8_read 79 = .ok (.iaload, 1) := by decide +kernel
theorem dX8_read_80 : decode cX8_read 80 = .ok (.invokevirtual 110, 3) := by decide +kernel
theorem dX8_read_83 : decode cX8_read 83 = .ok (.pop, 1) := by decide +kernel
theorem dX8_read_84 : decode cX8_read 84 = .ok (.goto 27, 3) := by decide +kernel
theorem dX8_read_87 : decode cX8_read 87 = .ok (.aload_n 0, 1) := by decide +kernel
theorem dX8_read_88 : decode cX8_read 88 = .ok (.aload_n 0, 1) := by decide +kernel
theorem dX8_read_89 : decode cX8_read 89 = .ok (.getfield 35, 3) := by decide +kernel
theorem dX8_read_92 : decode cX8_read 92 = .ok (.iconst 3, 1) := by decide +kernel
theorem dX8_read_93 : decode cX8_read 93 = .ok (.iload_n 2, 1) := by decide +kernel
theorem dX8_read_94 : decode cX8_read 94 = .ok (.imul, 1) := by decide +kernel
theorem dX8_read_95 : decode cX8_read 95 = .ok (.iconst 1, 1) := by decide +kernel
theorem dX8_read_96 : decode cX8_read 96 = .ok (.iadd, 1) := by decide +kernel
theorem dX8_read_97 : decode cX8_read 97 = .ok (.iaload, 1) := by decide +kernel
theorem dX8_read_98 : decode cX8_read 98 = .ok (.aload_n 0, 1) := by decide +kernel
theorem dX8_read_99 : decode cX8_read 99 = .ok (.getfield 35, 3) := by decide +kernel
theorem dX8_read_102 : decode cX8_read 102 = .ok (.iconst 3, 1) := by decide +kernel
theorem dX8_read_103 : decode cX8_read 103 = .ok (.iload_n 2, 1) := by decide +kernel
theorem dX8_read_104 : decode cX8_read 104 = .ok (.imul, 1) := by decide +kernel
theorem dX8_read_105 : decode cX8_read 105 = .ok (.iconst 2, 1) := by decide +kernel
theorem dX8_read_106 : decode cX8_read 106 = .ok (.iadd, 1) := by decide +kernel
theorem dX8_read_107 : decode cX8_read 107 = .ok (.iaload, 1) := by decide +kernel
theorem dX8_read_108 : decode cX8_read 108 = .ok (.invokevirtual 124, 3) := by decide +kernel
theorem dX8_read_111 : decode cX8_read 111 = .ok (.iinc 2 1, 3) := by decide +kernel
theorem dX8_read_114 : decode cX8_read 114 = .ok (.goto (-65), 3) := by decide +kernel
theorem dX8_read_117 : decode cX8_read 117 = .ok (.aload_n 0, 1) := by decide +kernel
theorem dX8_read_118 : decode cX8_read 118 = .ok (.getfield 157, 3) := by decide +kernel
theorem dX8_read_121 : decode cX8_read 121 = .ok (.ireturn, 1) := by decide +kernel
theorem dX8_costOf_0 : decode cX8_costOf 0 = .ok (.iload_n 1, 1) := by decide +kernel
theorem dX8_costOf_1 : decode cX8_costOf 1 = .ok (.tableswitch 95 0 4 #[35, 40, 47, 73, 88], 35) := by decide +kernel
theorem dX8_costOf_36 : decode cX8_costOf 36 = .ok (.aload_n 0, 1) := by decide +kernel
theorem dX8_costOf_37 : decode cX8_costOf 37 = .ok (.getfield 17, 3) := by decide +kernel
theorem dX8_costOf_40 : decode cX8_costOf 40 = .ok (.ireturn, 1) := by decide +kernel
theorem dX8_costOf_41 : decode cX8_costOf 41 = .ok (.iconst 3, 1) := by decide +kernel
theorem dX8_costOf_42 : decode cX8_costOf 42 = .ok (.aload_n 0, 1) := by decide +kernel
theorem dX8_costOf_43 : decode cX8_costOf 43 = .ok (.getfield 17, 3) := by decide +kernel
theorem dX8_costOf_46 : decode cX8_costOf 46 = .ok (.imul, 1) := by decide +kernel
theorem dX8_costOf_47 : decode cX8_costOf 47 = .ok (.ireturn, 1) := by decide +kernel
theorem dX8_costOf_48 : decode cX8_costOf 48 = .ok (.iconst 3, 1) := by decide +kernel
theorem dX8_costOf_49 : decode cX8_costOf 49 = .ok (.aload_n 0, 1) := by decide +kernel
theorem dX8_costOf_50 : decode cX8_costOf 50 = .ok (.getfield 17, 3) := by decide +kernel
theorem dX8_costOf_53 : decode cX8_costOf 53 = .ok (.imul, 1) := by decide +kernel
theorem dX8_costOf_54 : decode cX8_costOf 54 = .ok (.aload_n 0, 1) := by decide +kernel
theorem dX8_costOf_55 : decode cX8_costOf 55 = .ok (.getfield 86, 3) := by decide +kernel
theorem dX8_costOf_58 : decode cX8_costOf 58 = .ok (.iconst 2, 1) := by decide +kernel
theorem dX8_costOf_59 : decode cX8_costOf 59 = .ok (.irem, 1) := by decide +kernel
theorem dX8_costOf_60 : decode cX8_costOf 60 = .ok (.iconst 1, 1) := by decide +kernel
theorem dX8_costOf_61 : decode cX8_costOf 61 = .ok (.if_icmp .ne 10, 3) := by decide +kernel
theorem dX8_costOf_64 : decode cX8_costOf 64 = .ok (.aload_n 0, 1) := by decide +kernel
theorem dX8_costOf_65 : decode cX8_costOf 65 = .ok (.getfield 17, 3) := by decide +kernel
theorem dX8_costOf_68 : decode cX8_costOf 68 = .ok (.goto 4, 3) := by decide +kernel
theorem dX8_costOf_71 : decode cX8_costOf 71 = .ok (.iconst 0, 1) := by decide +kernel
theorem dX8_costOf_72 : decode cX8_costOf 72 = .ok (.isub, 1) := by decide +kernel
theorem dX8_costOf_73 : decode cX8_costOf 73 = .ok (.ireturn, 1) := by decide +kernel
theorem dX8_costOf_74 : decode cX8_costOf 74 = .ok (.bipush 6, 2) := by decide +kernel
theorem dX8_costOf_76 : decode cX8_costOf 76 = .ok (.aload_n 0, 1) := by decide +kernel
theorem dX8_costOf_77 : decode cX8_costOf 77 = .ok (.getfield 17, 3) := by decide +kernel
theorem dX8_costOf_80 : decode cX8_costOf 80 = .ok (.imul, 1) := by decide +kernel
theorem dX8_costOf_81 : decode cX8_costOf 81 = .ok (.aload_n 0, 1) := by decide +kernel
theorem dX8_costOf_82 : decode cX8_costOf 82 = .ok (.getfield 86, 3) := by decide +kernel
theorem dX8_costOf_85 : decode cX8_costOf 85 = .ok (.iconst 4, 1) := by decide +kernel
theorem dX8_costOf_86 : decode cX8_costOf 86 = .ok (.irem, 1) := by decide +kernel
theorem dX8_costOf_87 : decode cX8_costOf 87 = .ok (.iadd, 1) := by decide +kernel
theorem dX8_costOf_88 : decode cX8_costOf 88 = .ok (.ireturn, 1) := by decide +kernel
theorem dX8_costOf_89 : decode cX8_costOf 89 = .ok (.aload_n 0, 1) := by decide +kernel
theorem dX8_costOf_90 : decode cX8_costOf 90 = .ok (.getfield 17, 3) := by decide +kernel
theorem dX8_costOf_93 : decode cX8_costOf 93 = .ok (.iconst 1, 1) := by decide +kernel
theorem dX8_costOf_94 : decode cX8_costOf 94 = .ok (.iadd, 1) := by decide +kernel
theorem dX8_costOf_95 : decode cX8_costOf 95 = .ok (.ireturn, 1) := by decide +kernel
theorem dX8_costOf_96 : decode cX8_costOf 96 = .ok (.iconst 2, 1) := by decide +kernel
theorem dX8_costOf_97 : decode cX8_costOf 97 = .ok (.aload_n 0, 1) := by decide +kernel
theorem dX8_costOf_98 : decode cX8_costOf 98 = .ok (.getfield 17, 3) := by decide +kernel
theorem dX8_costOf_101 : decode cX8_costOf 101 = .ok (.imul, 1) := by decide +kernel
theorem dX8_costOf_102 : decode cX8_costOf 102 = .ok (.iconst 2, 1) := by decide +kernel
theorem dX8_costOf_103 : decode cX8_costOf 103 = .ok (.iadd, 1) := by decide +kernel
theorem dX8_costOf_104 : decode cX8_costOf 104 = .ok (.ireturn, 1) := by decide +kernel
theorem dX8_lesser_0 : decode cX8_lesser 0 = .ok (.iload_n 0, 1) := by decide +kernel
theorem dX8_lesser_1 : decode cX8_lesser 1 = .ok (.iload_n 1, 1) := by decide +kernel
theorem dX8_lesser_2 : decode cX8_lesser 2 = .ok (.if_icmp .ge 7, 3) := by decide +kernel
theorem dX8_lesser_5 : decode cX8_lesser 5 = .ok (.iload_n 0, 1) := by decide +kernel
theorem dX8_lesser_6 : decode cX8_lesser 6 = .ok (.goto 4, 3) := by decide +kernel
theorem dX8_lesser_9 : decode cX8_lesser 9 = .ok (.iload_n 1, 1) := by decide +kernel
theorem dX8_lesser_10 : decode cX8_lesser 10 = .ok (.ireturn, 1) := by decide +kernel
theorem dX8_greater_0 : decode cX8_greater 0 = .ok (.iload_n 0, 1) := by decide +kernel
theorem dX8_greater_1 : decode cX8_greater 1 = .ok (.iload_n 1, 1) := by decide +kernel
theorem dX8_greater_2 : decode cX8_greater 2 = .ok (.if_icmp .le 7, 3) := by decide +kernel
theorem dX8_greater_5 : decode cX8_greater 5 = .ok (.iload_n 0, 1) := by decide +kernel
theorem dX8_greater_6 : decode cX8_greater 6 = .ok (.goto 4, 3) := by decide +kernel
theorem dX8_greater_9 : decode cX8_greater 9 = .ok (.iload_n 1, 1) := by decide +kernel
theorem dX8_greater_10 : decode cX8_greater 10 = .ok (.ireturn, 1) := by decide +kernel
theorem dX8_givenBy_0 : decode cX8_givenBy 0 = .ok (.iload_n 0, 1) := by decide +kernel
theorem dX8_givenBy_1 : decode cX8_givenBy 1 = .ok (.tableswitch 77 (-1) 5 #[43, 45, 77, 77, 77, 53, 62], 43) := by decide +kernel
theorem dX8_givenBy_44 : decode cX8_givenBy 44 = .ok (.iload_n 1, 1) := by decide +kernel
theorem dX8_givenBy_45 : decode cX8_givenBy 45 = .ok (.ireturn, 1) := by decide +kernel
theorem dX8_givenBy_46 : decode cX8_givenBy 46 = .ok (.iload_n 2, 1) := by decide +kernel
theorem dX8_givenBy_47 : decode cX8_givenBy 47 = .ok (.iload_n 1, 1) := by decide +kernel
theorem dX8_givenBy_48 : decode cX8_givenBy 48 = .ok (.iconst 3, 1) := by decide +kernel
theorem dX8_givenBy_49 : decode cX8_givenBy 49 = .ok (.iadd, 1) := by decide +kernel
theorem dX8_givenBy_50 : decode cX8_givenBy 50 = .ok (.invokestatic 173, 3) := by decide +kernel
theorem dX8_givenBy_53 : decode cX8_givenBy 53 = .ok (.ireturn, 1) := by decide +kernel
theorem dX8_givenBy_54 : decode cX8_givenBy 54 = .ok (.iload_n 2, 1) := by decide +kernel
theorem dX8_givenBy_55 : decode cX8_givenBy 55 = .ok (.iload_n 1, 1) := by decide +kernel
theorem dX8_givenBy_56 : decode cX8_givenBy 56 = .ok (.bipush 6, 2) := by decide +kernel
theorem dX8_givenBy_58 : decode cX8_givenBy 58 = .ok (.iadd, 1) := by decide +kernel
theorem dX8_givenBy_59 : decode cX8_givenBy 59 = .ok (.invokestatic 173, 3) := by decide +kernel
theorem dX8_givenBy_62 : decode cX8_givenBy 62 = .ok (.ireturn, 1) := by decide +kernel
theorem dX8_givenBy_63 : decode cX8_givenBy 63 = .ok (.iload_n 2, 1) := by decide +kernel
theorem dX8_givenBy_64 : decode cX8_givenBy 64 = .ok (.iconst 2, 1) := by decide +kernel
theorem dX8_givenBy_65 : decode cX8_givenBy 65 = .ok (.idiv, 1) := by decide +kernel
theorem dX8_givenBy_66 : decode cX8_givenBy 66 = .ok (.iload_n 2, 1) := by decide +kernel
theorem dX8_givenBy_67 : decode cX8_givenBy 67 = .ok (.iload_n 1, 1) := by decide +kernel
theorem dX8_givenBy_68 : decode cX8_givenBy 68 = .ok (.bipush 6, 2) := by decide +kernel
theorem dX8_givenBy_70 : decode cX8_givenBy 70 = .ok (.iadd, 1) := by decide +kernel
theorem dX8_givenBy_71 : decode cX8_givenBy 71 = .ok (.invokestatic 173, 3) := by decide +kernel
theorem dX8_givenBy_74 : decode cX8_givenBy 74 = .ok (.invokestatic 177, 3) := by decide +kernel
theorem dX8_givenBy_77 : decode cX8_givenBy 77 = .ok (.ireturn, 1) := by decide +kernel
theorem dX8_givenBy_78 : decode cX8_givenBy 78 = .ok (.iload_n 2, 1) := by decide +kernel
theorem dX8_givenBy_79 : decode cX8_givenBy 79 = .ok (.ireturn, 1) := by decide +kernel
theorem dX8_ends_0 : decode cX8_ends 0 = .ok (.iload_n 0, 1) := by decide +kernel
theorem dX8_ends_1 : decode cX8_ends 1 = .ok (.iconst 1, 1) := by decide +kernel
theorem dX8_ends_2 : decode cX8_ends 2 = .ok (.iconst 3, 1) := by decide +kernel
theorem dX8_ends_3 : decode cX8_ends 3 = .ok (.invokestatic 95, 3) := by decide +kernel
theorem dX8_ends_6 : decode cX8_ends 6 = .ok (.ifCond .ne 8, 3) := by decide +kernel
theorem dX8_ends_9 : decode cX8_ends 9 = .ok (.iload_n 0, 1) := by decide +kernel
theorem dX8_ends_10 : decode cX8_ends 10 = .ok (.iconst 5, 1) := by decide +kernel
theorem dX8_ends_11 : decode cX8_ends 11 = .ok (.if_icmp .ne 7, 3) := by decide +kernel
theorem dX8_ends_14 : decode cX8_ends 14 = .ok (.iconst 1, 1) := by decide +kernel
theorem dX8_ends_15 : decode cX8_ends 15 = .ok (.goto 4, 3) := by decide +kernel
theorem dX8_ends_18 : decode cX8_ends 18 = .ok (.iconst 0, 1) := by decide +kernel
theorem dX8_ends_19 : decode cX8_ends 19 = .ok (.ireturn, 1) := by decide +kernel
theorem dX8_dries_0 : decode cX8_dries 0 = .ok (.iload_n 0, 1) := by decide +kernel
theorem dX8_dries_1 : decode cX8_dries 1 = .ok (.ifCond .ne 8, 3) := by decide +kernel
theorem dX8_dries_4 : decode cX8_dries 4 = .ok (.bipush 9, 2) := by decide +kernel
theorem dX8_dries_6 : decode cX8_dries 6 = .ok (.goto 27, 3) := by decide +kernel
theorem dX8_dries_9 : decode cX8_dries 9 = .ok (.iload_n 0, 1) := by decide +kernel
theorem dX8_dries_10 : decode cX8_dries 10 = .ok (.iconst 2, 1) := by decide +kernel
theorem dX8_dries_11 : decode cX8_dries 11 = .ok (.if_icmp .ne 7, 3) := by decide +kernel
theorem dX8_dries_14 : decode cX8_dries 14 = .ok (.iconst 4, 1) := by decide +kernel
theorem dX8_dries_15 : decode cX8_dries 15 = .ok (.goto 18, 3) := by decide +kernel
theorem dX8_dries_18 : decode cX8_dries 18 = .ok (.iload_n 0, 1) := by decide +kernel
theorem dX8_dries_19 : decode cX8_dries 19 = .ok (.iconst 4, 1) := by decide +kernel
theorem dX8_dries_20 : decode cX8_dries 20 = .ok (.if_icmp .eq 8, 3) := by decide +kernel
theorem dX8_dries_23 : decode cX8_dries 23 = .ok (.iload_n 0, 1) := by decide +kernel
theorem dX8_dries_24 : decode cX8_dries 24 = .ok (.iconst 5, 1) := by decide +kernel
theorem dX8_dries_25 : decode cX8_dries 25 = .ok (.if_icmp .ne 7, 3) := by decide +kernel
theorem dX8_dries_28 : decode cX8_dries 28 = .ok (.iconst 5, 1) := by decide +kernel
theorem dX8_dries_29 : decode cX8_dries 29 = .ok (.goto 4, 3) := by decide +kernel
theorem dX8_dries_32 : decode cX8_dries 32 = .ok (.iconst 0, 1) := by decide +kernel
theorem dX8_dries_33 : decode cX8_dries 33 = .ok (.ireturn, 1) := by decide +kernel
theorem dX8_notes_0 : decode cX8_notes 0 = .ok (.aload_n 0, 1) := by decide +kernel
theorem dX8_notes_1 : decode cX8_notes 1 = .ok (.getfield 92, 3) := by decide +kernel
theorem dX8_notes_4 : decode cX8_notes 4 = .ok (.bipush 8, 2) := by decide +kernel
theorem dX8_notes_6 : decode cX8_notes 6 = .ok (.if_icmp .ne 43, 3) := by decide +kernel
theorem dX8_notes_9 : decode cX8_notes 9 = .ok (.iconst 0, 1) := by decide +kernel
theorem dX8_notes_10 : decode cX8_notes 10 = .ok (.istore_n 1, 1) := by decide +kernel
theorem dX8_notes_11 : decode cX8_notes 11 = .ok (.iload_n 1, 1) := by decide +kernel
theorem dX8_notes_12 : decode cX8_notes 12 = .ok (.sipush 182, 3) := by decide +kernel
theorem dX8_notes_15 : decode cX8_notes 15 = .ok (.if_icmp .ge 24, 3) := by decide +kernel
theorem dX8_notes_18 : decode cX8_notes 18 = .ok (.aload_n 0, 1) := by decide +kernel
theorem dX8_notes_19 : decode cX8_notes 19 = .ok (.getfield 38, 3) := by decide +kernel
theorem dX8_notes_22 : decode cX8_notes 22 = .ok (.iload_n 1, 1) := by decide +kernel
theorem dX8_notes_23 : decode cX8_notes 23 = .ok (.aload_n 0, 1) := by decide +kernel
theorem dX8_notes_24 : decode cX8_notes 24 = .ok (.getfield 38, 3) := by decide +kernel
theorem dX8_notes_27 : decode cX8_notes 27 = .ok (.iload_n 1, 1) := by decide +kernel
theorem dX8_notes_28 : decode cX8_notes 28 = .ok (.bipush 26, 2) := by decide +kernel
theorem dX8_notes_30 : decode cX8_notes 30 = .ok (.iadd, 1) := by decide +kernel
theorem dX8_notes_31 : decode cX8_notes 31 = .ok (.iaload, 1) := by decide +kernel
theorem dX8_notes_32 : decode cX8_notes 32 = .ok (.iastore, 1) := by decide +kernel
theorem dX8_notes_33 : decode cX8_notes 33 = .ok (.iinc 1 1, 3) := by decide +kernel
theorem dX8_notes_36 : decode cX8_notes 36 = .ok (.goto (-25), 3) := by decide +kernel
theorem dX8_notes_39 : decode cX8_notes 39 = .ok (.aload_n 0, 1) := by decide +kernel
theorem dX8_notes_40 : decode cX8_notes 40 = .ok (.dup, 1) := by decide +kernel
theorem dX8_notes_41 : decode cX8_notes 41 = .ok (.getfield 92, 3) := by decide +kernel
theorem dX8_notes_44 : decode cX8_notes 44 = .ok (.iconst 1, 1) := by decide +kernel
theorem dX8_notes_45 : decode cX8_notes 45 = .ok (.isub, 1) := by decide +kernel
theorem dX8_notes_46 : decode cX8_notes 46 = .ok (.putfield 92, 3) := by decide +kernel
theorem dX8_notes_49 : decode cX8_notes 49 = .ok (.bipush 26, 2) := by decide +kernel
theorem dX8_notes_51 : decode cX8_notes 51 = .ok (.aload_n 0, 1) := by decide +kernel
theorem dX8_notes_52 : decode cX8_notes 52 = .ok (.getfield 92, 3) := by decide +kernel
theorem dX8_notes_55 : decode cX8_notes 55 = .ok (.imul, 1) := by decide +kernel
theorem dX8_notes_56 : decode cX8_notes 56 = .ok (.istore_n 1, 1) := by decide +kernel
theorem dX8_notes_57 : decode cX8_notes 57 = .ok (.aload_n 0, 1) := by decide +kernel
theorem dX8_notes_58 : decode cX8_notes 58 = .ok (.getfield 38, 3) := by decide +kernel
theorem dX8_notes_61 : decode cX8_notes 61 = .ok (.iload_n 1, 1) := by decide +kernel
theorem dX8_notes_62 : decode cX8_notes 62 = .ok (.aload_n 0, 1) := by decide +kernel
theorem dX8_notes_63 : decode cX8_notes 63 = .ok (.getfield 83, 3) := by decide +kernel
theorem dX8_notes_66 : decode cX8_notes 66 = .ok (.iastore, 1) := by decide +kernel
theorem dX8_notes_67 : decode cX8_notes 67 = .ok (.aload_n 0, 1) := by decide +kernel
theorem dX8_notes_68 : decode cX8_notes 68 = .ok (.getfield 38, 3) := by decide +kernel
theorem dX8_notes_71 : decode cX8_notes 71 = .ok (.iload_n 1, 1) := by decide +kernel
theorem dX8_notes_72 : decode cX8_notes 72 = .ok (.iconst 1, 1) := by decide +kernel
theorem dX8_notes_73 : decode cX8_notes 73 = .ok (.iadd, 1) := by decide +kernel
theorem dX8_notes_74 : decode cX8_notes 74 = .ok (.aload_n 0, 1) := by decide +kernel
theorem dX8_notes_75 : decode cX8_notes 75 = .ok (.getfield 86, 3) := by decide +kernel
theorem dX8_notes_78 : decode cX8_notes 78 = .ok (.iastore, 1) := by decide +kernel
theorem dX8_notes_79 : decode cX8_notes 79 = .ok (.iconst 0, 1) := by decide +kernel
theorem dX8_notes_80 : decode cX8_notes 80 = .ok (.istore_n 2, 1) := by decide +kernel
theorem dX8_notes_81 : decode cX8_notes 81 = .ok (.iload_n 2, 1) := by decide +kernel
theorem dX8_notes_82 : decode cX8_notes 82 = .ok (.bipush 12, 2) := by decide +kernel
theorem dX8_notes_84 : decode cX8_notes 84 = .ok (.if_icmp .ge 42, 3) := by decide +kernel
theorem dX8_notes_87 : decode cX8_notes 87 = .ok (.aload_n 0, 1) := by decide +kernel
theorem dX8_notes_88 : decode cX8_notes 88 = .ok (.getfield 38, 3) := by decide +kernel
theorem dX8_notes_91 : decode cX8_notes 91 = .ok (.iload_n 1, 1) := by decide +kernel
theorem dX8_notes_92 : decode cX8_notes 92 = .ok (.iconst 2, 1) := by decide +kernel
theorem dX8_notes_93 : decode cX8_notes 93 = .ok (.iadd, 1) := by decide +kernel
theorem dX8_notes_94 : decode cX8_notes 94 = .ok (.iload_n 2, 1) := by decide +kernel
theorem dX8_notes_95 : decode cX8_notes 95 = .ok (.iadd, 1) := by decide +kernel
theorem dX8_notes_96 : decode cX8_notes 96 = .ok (.aload_n 0, 1) := by decide +kernel
theorem dX8_notes_97 : decode cX8_notes 97 = .ok (.getfield 23, 3) := by decide +kernel
theorem dX8_notes_100 : decode cX8_notes 100 = .ok (.iload_n 2, 1) := by decide +kernel
theorem dX8_notes_101 : decode cX8_notes 101 = .ok (.iaload, 1) := by decide +kernel
theorem dX8_notes_102 : decode cX8_notes 102 = .ok (.iastore, 1) := by decide +kernel
theorem dX8_notes_103 : decode cX8_notes 103 = .ok (.aload_n 0, 1) := by decide +kernel
theorem dX8_notes_104 : decode cX8_notes 104 = .ok (.getfield 38, 3) := by decide +kernel
theorem dX8_notes_107 : decode cX8_notes 107 = .ok (.iload_n 1, 1) := by decide +kernel
theorem dX8_notes_108 : decode cX8_notes 108 = .ok (.bipush 14, 2) := by decide +kernel
theorem dX8_notes_110 : decode cX8_notes 110 = .ok (.iadd, 1) := by decide +kernel
theorem dX8_notes_111 : decode cX8_notes 111 = .ok (.iload_n 2, 1) := by decide +kernel
theorem dX8_notes_112 : decode cX8_notes 112 = .ok (.iadd, 1) := by decide +kernel
theorem dX8_notes_113 : decode cX8_notes 113 = .ok (.aload_n 0, 1) := by decide +kernel
theorem dX8_notes_114 : decode cX8_notes 114 = .ok (.getfield 26, 3) := by decide +kernel
theorem dX8_notes_117 : decode cX8_notes 117 = .ok (.iload_n 2, 1) := by decide +kernel
theorem dX8_notes_118 : decode cX8_notes 118 = .ok (.iaload, 1) := by decide +kernel
theorem dX8_notes_119 : decode cX8_notes 119 = .ok (.iastore, 1) := by decide +kernel
theorem dX8_notes_120 : decode cX8_notes 120 = .ok (.iinc 2 1, 3) := by decide +kernel
theorem dX8_notes_123 : decode cX8_notes 123 = .ok (.goto (-42), 3) := by decide +kernel
theorem dX8_notes_126 : decode cX8_notes 126 = .ok (.aload_n 0, 1) := by decide +kernel
theorem dX8_notes_127 : decode cX8_notes 127 = .ok (.dup, 1) := by decide +kernel
theorem dX8_notes_128 : decode cX8_notes 128 = .ok (.getfield 92, 3) := by decide +kernel
theorem dX8_notes_131 : decode cX8_notes 131 = .ok (.iconst 1, 1) := by decide +kernel
theorem dX8_notes_132 : decode cX8_notes 132 = .ok (.iadd, 1) := by decide +kernel
theorem dX8_notes_133 : decode cX8_notes 133 = .ok (.putfield 92, 3) := by decide +kernel
theorem dX8_notes_136 : decode cX8_notes 136 = .ok (.return_, 1) := by decide +kernel
theorem dX8_buy_0 : decode cX8_buy 0 = .ok (.aload_n 0, 1) := by decide +kernel
theorem dX8_buy_1 : decode cX8_buy 1 = .ok (.iload_n 1, 1) := by decide +kernel
theorem dX8_buy_2 : decode cX8_buy 2 = .ok (.invokevirtual 114, 3) := by decide +kernel
theorem dX8_buy_5 : decode cX8_buy 5 = .ok (.ifCond .eq 10, 3) := by decide +kernel
theorem dX8_buy_8 : decode cX8_buy 8 = .ok (.iload_n 2, 1) := by decide +kernel
theorem dX8_buy_9 : decode cX8_buy 9 = .ok (.invokestatic 118, 3) := by decide +kernel
theorem dX8_buy_12 : decode cX8_buy 12 = .ok (.ifCond .ne 8, 3) := by decide +kernel
theorem dX8_buy_15 : decode cX8_buy 15 = .ok (.aload_n 0, 1) := by decide +kernel
theorem dX8_buy_16 : decode cX8_buy 16 = .ok (.invokevirtual 103, 3) := by decide +kernel
theorem dX8_buy_19 : decode cX8_buy 19 = .ok (.ireturn, 1) := by decide +kernel
theorem dX8_buy_20 : decode cX8_buy 20 = .ok (.aload_n 0, 1) := by decide +kernel
theorem dX8_buy_21 : decode cX8_buy 21 = .ok (.iload_n 2, 1) := by decide +kernel
theorem dX8_buy_22 : decode cX8_buy 22 = .ok (.invokevirtual 180, 3) := by decide +kernel
theorem dX8_buy_25 : decode cX8_buy 25 = .ok (.istore_n 3, 1) := by decide +kernel
theorem dX8_buy_26 : decode cX8_buy 26 = .ok (.aload_n 0, 1) := by decide +kernel
theorem dX8_buy_27 : decode cX8_buy 27 = .ok (.getfield 23, 3) := by decide +kernel
theorem dX8_buy_30 : decode cX8_buy 30 = .ok (.iload_n 1, 1) := by decide +kernel
theorem dX8_buy_31 : decode cX8_buy 31 = .ok (.iaload, 1) := by decide +kernel
theorem dX8_buy_32 : decode cX8_buy 32 = .ok (.iconst (-1), 1) := by decide +kernel
theorem dX8_buy_33 : decode cX8_buy 33 = .ok (.if_icmp .ne 11, 3) := by decide +kernel
theorem dX8_buy_36 : decode cX8_buy 36 = .ok (.aload_n 0, 1) := by decide +kernel
theorem dX8_buy_37 : decode cX8_buy 37 = .ok (.getfield 83, 3) := by decide +kernel
theorem dX8_buy_40 : decode cX8_buy 40 = .ok (.iload_n 3, 1) := by decide +kernel
theorem dX8_buy_41 : decode cX8_buy 41 = .ok (.if_icmp .ge 8, 3) := by decide +kernel
theorem dX8_buy_44 : decode cX8_buy 44 = .ok (.aload_n 0, 1) := by decide +kernel
theorem dX8_buy_45 : decode cX8_buy 45 = .ok (.invokevirtual 183, 3) := by decide +kernel
theorem dX8_buy_48 : decode cX8_buy 48 = .ok (.ireturn, 1) := by decide +kernel
theorem dX8_buy_49 : decode cX8_buy 49 = .ok (.aload_n 0, 1) := by decide +kernel
theorem dX8_buy_50 : decode cX8_buy 50 = .ok (.invokevirtual 186, 3) := by decide +kernel
theorem dX8_buy_53 : decode cX8_buy 53 = .ok (.aload_n 0, 1) := by decide +kernel
theorem dX8_buy_54 : decode cX8_buy 54 = .ok (.iload_n 1, 1) := by decide +kernel
theorem dX8_buy_55 : decode cX8_buy 55 = .ok (.iload_n 2, 1) := by decide +kernel
theorem dX8_buy_56 : decode cX8_buy 56 = .ok (.invokevirtual 124, 3) := by decide +kernel
theorem dX8_buy_59 : decode cX8_buy 59 = .ok (.aload_n 0, 1) := by decide +kernel
theorem dX8_buy_60 : decode cX8_buy 60 = .ok (.dup, 1) := by decide +kernel
theorem dX8_buy_61 : decode cX8_buy 61 = .ok (.getfield 83, 3) := by decide +kernel
theorem dX8_buy_64 : decode cX8_buy 64 = .ok (.iload_n 3, 1) := by decide +kernel
theorem dX8_buy_65 : decode cX8_buy 65 = .ok (.isub, 1) := by decide +kernel
theorem dX8_buy_66 : decode cX8_buy 66 = .ok (.putfield 83, 3) := by decide +kernel
theorem dX8_buy_69 : decode cX8_buy 69 = .ok (.iload_n 3, 1) := by decide +kernel
theorem dX8_buy_70 : decode cX8_buy 70 = .ok (.ireturn, 1) := by decide +kernel
theorem dX8_sell_0 : decode cX8_sell 0 = .ok (.aload_n 0, 1) := by decide +kernel
theorem dX8_sell_1 : decode cX8_sell 1 = .ok (.iload_n 1, 1) := by decide +kernel
theorem dX8_sell_2 : decode cX8_sell 2 = .ok (.invokevirtual 114, 3) := by decide +kernel
theorem dX8_sell_5 : decode cX8_sell 5 = .ok (.ifCond .ne 8, 3) := by decide +kernel
theorem dX8_sell_8 : decode cX8_sell 8 = .ok (.aload_n 0, 1) := by decide +kernel
theorem dX8_sell_9 : decode cX8_sell 9 = .ok (.invokevirtual 103, 3) := by decide +kernel
theorem dX8_sell_12 : decode cX8_sell 12 = .ok (.ireturn, 1) := by decide +kernel
theorem dX8_sell_13 : decode cX8_sell 13 = .ok (.aload_n 0, 1) := by decide +kernel
theorem dX8_sell_14 : decode cX8_sell 14 = .ok (.getfield 23, 3) := by decide +kernel
theorem dX8_sell_17 : decode cX8_sell 17 = .ok (.iload_n 1, 1) := by decide +kernel
theorem dX8_sell_18 : decode cX8_sell 18 = .ok (.iaload, 1) := by decide +kernel
theorem dX8_sell_19 : decode cX8_sell 19 = .ok (.iconst (-1), 1) := by decide +kernel
theorem dX8_sell_20 : decode cX8_sell 20 = .ok (.if_icmp .ne 8, 3) := by decide +kernel
theorem dX8_sell_23 : decode cX8_sell 23 = .ok (.aload_n 0, 1) := by decide +kernel
theorem dX8_sell_24 : decode cX8_sell 24 = .ok (.invokevirtual 183, 3) := by decide +kernel
theorem dX8_sell_27 : decode cX8_sell 27 = .ok (.ireturn, 1) := by decide +kernel
theorem dX8_sell_28 : decode cX8_sell 28 = .ok (.aload_n 0, 1) := by decide +kernel
theorem dX8_sell_29 : decode cX8_sell 29 = .ok (.invokevirtual 186, 3) := by decide +kernel
theorem dX8_sell_32 : decode cX8_sell 32 = .ok (.aload_n 0, 1) := by decide +kernel
theorem dX8_sell_33 : decode cX8_sell 33 = .ok (.aload_n 0, 1) := by decide +kernel
theorem dX8_sell_34 : decode cX8_sell 34 = .ok (.getfield 23, 3) := by decide +kernel
theorem dX8_sell_37 : decode cX8_sell 37 = .ok (.iload_n 1, 1) := by decide +kernel
theorem dX8_sell_38 : decode cX8_sell 38 = .ok (.iaload, 1) := by decide +kernel
theorem dX8_sell_39 : decode cX8_sell 39 = .ok (.invokevirtual 180, 3) := by decide +kernel
theorem dX8_sell_42 : decode cX8_sell 42 = .ok (.iconst 2, 1) := by decide +kernel
theorem dX8_sell_43 : decode cX8_sell 43 = .ok (.idiv, 1) := by decide +kernel
theorem dX8_sell_44 : decode cX8_sell 44 = .ok (.istore_n 2, 1) := by decide +kernel
theorem dX8_sell_45 : decode cX8_sell 45 = .ok (.aload_n 0, 1) := by decide +kernel
theorem dX8_sell_46 : decode cX8_sell 46 = .ok (.iload_n 1, 1) := by decide +kernel
theorem dX8_sell_47 : decode cX8_sell 47 = .ok (.iconst (-1), 1) := by decide +kernel
theorem dX8_sell_48 : decode cX8_sell 48 = .ok (.invokevirtual 124, 3) := by decide +kernel
theorem dX8_sell_51 : decode cX8_sell 51 = .ok (.aload_n 0, 1) := by decide +kernel
theorem dX8_sell_52 : decode cX8_sell 52 = .ok (.sipush 999, 3) := by decide +kernel
theorem dX8_sell_55 : decode cX8_sell 55 = .ok (.aload_n 0, 1) := by decide +kernel
theorem dX8_sell_56 : decode cX8_sell 56 = .ok (.getfield 83, 3) := by decide +kernel
theorem dX8_sell_59 : decode cX8_sell 59 = .ok (.iload_n 2, 1) := by decide +kernel
theorem dX8_sell_60 : decode cX8_sell 60 = .ok (.iadd, 1) := by decide +kernel
theorem dX8_sell_61 : decode cX8_sell 61 = .ok (.invokestatic 173, 3) := by decide +kernel
theorem dX8_sell_64 : decode cX8_sell 64 = .ok (.putfield 83, 3) := by decide +kernel
theorem dX8_sell_67 : decode cX8_sell 67 = .ok (.iload_n 2, 1) := by decide +kernel
theorem dX8_sell_68 : decode cX8_sell 68 = .ok (.ireturn, 1) := by decide +kernel
theorem dX8_readOut_0 : decode cX8_readOut 0 = .ok (.aload_n 0, 1) := by decide +kernel
theorem dX8_readOut_1 : decode cX8_readOut 1 = .ok (.invokevirtual 186, 3) := by decide +kernel
theorem dX8_readOut_4 : decode cX8_readOut 4 = .ok (.aload_n 0, 1) := by decide +kernel
theorem dX8_readOut_5 : decode cX8_readOut 5 = .ok (.getfield 13, 3) := by decide +kernel
theorem dX8_readOut_8 : decode cX8_readOut 8 = .ok (.istore_n 1, 1) := by decide +kernel
theorem dX8_readOut_9 : decode cX8_readOut 9 = .ok (.iconst 0, 1) := by decide +kernel
theorem dX8_readOut_10 : decode cX8_readOut 10 = .ok (.istore_n 2, 1) := by decide +kernel
theorem dX8_readOut_11 : decode cX8_readOut 11 = .ok (.iload_n 2, 1) := by decide +kernel
theorem dX8_readOut_12 : decode cX8_readOut 12 = .ok (.aload_n 0, 1) := by decide +kernel
theorem dX8_readOut_13 : decode cX8_readOut 13 = .ok (.getfield 80, 3) := by decide +kernel
theorem dX8_readOut_16 : decode cX8_readOut 16 = .ok (.if_icmp .ge 77, 3) := by decide +kernel
theorem dX8_readOut_19 : decode cX8_readOut 19 = .ok (.aload_n 0, 1) := by decide +kernel
theorem dX8_readOut_20 : decode cX8_readOut 20 = .ok (.getfield 20, 3) := by decide +kernel
theorem dX8_readOut_23 : decode cX8_readOut 23 = .ok (.iload_n 2, 1) := by decide +kernel
theorem dX8_readOut_24 : decode cX8_readOut 24 = .ok (.iaload, 1) := by decide +kernel
theorem dX8_readOut_25 : decode cX8_readOut 25 = .ok (.iload_n 1, 1) := by decide +kernel
theorem dX8_readOut_26 : decode cX8_readOut 26 = .ok (.if_icmp .gt 67, 3) := by decide +kernel
theorem dX8_readOut_29 : decode cX8_readOut 29 = .ok (.aload_n 0, 1) := by decide +kernel
theorem dX8_readOut_30 : decode cX8_readOut 30 = .ok (.getfield 23, 3) := by decide +kernel
theorem dX8_readOut_33 : decode cX8_readOut 33 = .ok (.iload_n 2, 1) := by decide +kernel
theorem dX8_readOut_34 : decode cX8_readOut 34 = .ok (.iaload, 1) := by decide +kernel
theorem dX8_readOut_35 : decode cX8_readOut 35 = .ok (.istore_n 3, 1) := by decide +kernel
theorem dX8_readOut_36 : decode cX8_readOut 36 = .ok (.iload_n 3, 1) := by decide +kernel
theorem dX8_readOut_37 : decode cX8_readOut 37 = .ok (.iload_n 1, 1) := by decide +kernel
theorem dX8_readOut_38 : decode cX8_readOut 38 = .ok (.aload_n 0, 1) := by decide +kernel
theorem dX8_readOut_39 : decode cX8_readOut 39 = .ok (.getfield 20, 3) := by decide +kernel
theorem dX8_readOut_42 : decode cX8_readOut 42 = .ok (.iload_n 2, 1) := by decide +kernel
theorem dX8_readOut_43 : decode cX8_readOut 43 = .ok (.iaload, 1) := by decide +kernel
theorem dX8_readOut_44 : decode cX8_readOut 44 = .ok (.isub, 1) := by decide +kernel
theorem dX8_readOut_45 : decode cX8_readOut 45 = .ok (.aload_n 0, 1) := by decide +kernel
theorem dX8_readOut_46 : decode cX8_readOut 46 = .ok (.getfield 13, 3) := by decide +kernel
theorem dX8_readOut_49 : decode cX8_readOut 49 = .ok (.invokestatic 189, 3) := by decide +kernel
theorem dX8_readOut_52 : decode cX8_readOut 52 = .ok (.istore_n 1, 1) := by decide +kernel
theorem dX8_readOut_53 : decode cX8_readOut 53 = .ok (.iload_n 3, 1) := by decide +kernel
theorem dX8_readOut_54 : decode cX8_readOut 54 = .ok (.iconst (-1), 1) := by decide +kernel
theorem dX8_readOut_55 : decode cX8_readOut 55 = .ok (.if_icmp .eq 32, 3) := by decide +kernel
theorem dX8_readOut_58 : decode cX8_readOut 58 = .ok (.aload_n 0, 1) := by decide +kernel
theorem dX8_readOut_59 : decode cX8_readOut 59 = .ok (.getfield 26, 3) := by decide +kernel
theorem dX8_readOut_62 : decode cX8_readOut 62 = .ok (.iload_n 2, 1) := by decide +kernel
theorem dX8_readOut_63 : decode cX8_readOut 63 = .ok (.dup2, 1) := by decide +kernel
theorem dX8_readOut_64 : decode cX8_readOut 64 = .ok (.iaload, 1) := by decide +kernel
theorem dX8_readOut_65 : decode cX8_readOut 65 = .ok (.iconst 1, 1) := by decide +kernel
theorem dX8_readOut_66 : decode cX8_readOut 66 = .ok (.iadd, 1) := by decide +kernel
theorem dX8_readOut_67 : decode cX8_readOut 67 = .ok (.iastore, 1) := by decide +kernel
theorem dX8_readOut_68 : decode cX8_readOut 68 = .ok (.aload_n 0, 1) := by decide +kernel
theorem dX8_readOut_69 : decode cX8_readOut 69 = .ok (.getfield 26, 3) := by decide +kernel
theorem dX8_readOut_72 : decode cX8_readOut 72 = .ok (.iload_n 2, 1) := by decide +kernel
theorem dX8_readOut_73 : decode cX8_readOut 73 = .ok (.iaload, 1) := by decide +kernel
theorem dX8_readOut_74 : decode cX8_readOut 74 = .ok (.iload_n 3, 1) := by decide +kernel
theorem dX8_readOut_75 : decode cX8_readOut 75 = .ok (.invokestatic 193, 3) := by decide +kernel
theorem dX8_readOut_78 : decode cX8_readOut 78 = .ok (.if_icmp .ne 9, 3) := by decide +kernel
theorem dX8_readOut_81 : decode cX8_readOut 81 = .ok (.aload_n 0, 1) := by decide +kernel
theorem dX8_readOut_82 : decode cX8_readOut 82 = .ok (.iload_n 2, 1) := by decide +kernel
theorem dX8_readOut_83 : decode cX8_readOut 83 = .ok (.iconst (-1), 1) := by decide +kernel
theorem dX8_readOut_84 : decode cX8_readOut 84 = .ok (.invokevirtual 124, 3) := by decide +kernel
theorem dX8_readOut_87 : decode cX8_readOut 87 = .ok (.iinc 2 1, 3) := by decide +kernel
theorem dX8_readOut_90 : decode cX8_readOut 90 = .ok (.goto (-79), 3) := by decide +kernel
theorem dX8_readOut_93 : decode cX8_readOut 93 = .ok (.iload_n 2, 1) := by decide +kernel
theorem dX8_readOut_94 : decode cX8_readOut 94 = .ok (.ireturn, 1) := by decide +kernel
theorem dX8_week_0 : decode cX8_week 0 = .ok (.iload_n 1, 1) := by decide +kernel
theorem dX8_week_1 : decode cX8_week 1 = .ok (.iconst 1, 1) := by decide +kernel
theorem dX8_week_2 : decode cX8_week 2 = .ok (.bipush 20, 2) := by decide +kernel
theorem dX8_week_4 : decode cX8_week 4 = .ok (.invokestatic 95, 3) := by decide +kernel
theorem dX8_week_7 : decode cX8_week 7 = .ok (.ifCond .ne 8, 3) := by decide +kernel
theorem dX8_week_10 : decode cX8_week 10 = .ok (.aload_n 0, 1) := by decide +kernel
theorem dX8_week_11 : decode cX8_week 11 = .ok (.invokevirtual 103, 3) := by decide +kernel
theorem dX8_week_14 : decode cX8_week 14 = .ok (.ireturn, 1) := by decide +kernel
theorem dX8_week_15 : decode cX8_week 15 = .ok (.aload_n 0, 1) := by decide +kernel
theorem dX8_week_16 : decode cX8_week 16 = .ok (.invokevirtual 186, 3) := by decide +kernel
theorem dX8_week_19 : decode cX8_week 19 = .ok (.aload_n 0, 1) := by decide +kernel
theorem dX8_week_20 : decode cX8_week 20 = .ok (.dup, 1) := by decide +kernel
theorem dX8_week_21 : decode cX8_week 21 = .ok (.getfield 86, 3) := by decide +kernel
theorem dX8_week_24 : decode cX8_week 24 = .ok (.iload_n 1, 1) := by decide +kernel
theorem dX8_week_25 : decode cX8_week 25 = .ok (.iadd, 1) := by decide +kernel
theorem dX8_week_26 : decode cX8_week 26 = .ok (.putfield 86, 3) := by decide +kernel
theorem dX8_week_29 : decode cX8_week 29 = .ok (.aload_n 0, 1) := by decide +kernel
theorem dX8_week_30 : decode cX8_week 30 = .ok (.getfield 86, 3) := by decide +kernel
theorem dX8_week_33 : decode cX8_week 33 = .ok (.ireturn, 1) := by decide +kernel
theorem dX8_undo_0 : decode cX8_undo 0 = .ok (.aload_n 0, 1) := by decide +kernel
theorem dX8_undo_1 : decode cX8_undo 1 = .ok (.getfield 92, 3) := by decide +kernel
theorem dX8_undo_4 : decode cX8_undo 4 = .ok (.ifCond .ne 8, 3) := by decide +kernel
theorem dX8_undo_7 : decode cX8_undo 7 = .ok (.aload_n 0, 1) := by decide +kernel
theorem dX8_undo_8 : decode cX8_undo 8 = .ok (.invokevirtual 183, 3) := by decide +kernel
theorem dX8_undo_11 : decode cX8_undo 11 = .ok (.ireturn, 1) := by decide +kernel
theorem dX8_undo_12 : decode cX8_undo 12 = .ok (.aload_n 0, 1) := by decide +kernel
theorem dX8_undo_13 : decode cX8_undo 13 = .ok (.dup, 1) := by decide +kernel
theorem dX8_undo_14 : decode cX8_undo 14 = .ok (.getfield 92, 3) := by decide +kernel
theorem dX8_undo_17 : decode cX8_undo 17 = .ok (.iconst 1, 1) := by decide +kernel
theorem dX8_undo_18 : decode cX8_undo 18 = .ok (.isub, 1) := by decide +kernel
theorem dX8_undo_19 : decode cX8_undo 19 = .ok (.putfield 92, 3) := by decide +kernel
theorem dX8_undo_22 : decode cX8_undo 22 = .ok (.bipush 26, 2) := by decide +kernel
theorem dX8_undo_24 : decode cX8_undo 24 = .ok (.aload_n 0, 1) := by decide +kernel
theorem dX8_undo_25 : decode cX8_undo 25 = .ok (.getfield 92, 3) := by decide +kernel
theorem dX8_undo_28 : decode cX8_undo 28 = .ok (.imul, 1) := by decide +kernel
theorem dX8_undo_29 : decode cX8_undo 29 = .ok (.istore_n 1, 1) := by decide +kernel
theorem dX8_undo_30 : decode cX8_undo 30 = .ok (.aload_n 0, 1) := by decide +kernel
theorem dX8_undo_31 : decode cX8_undo 31 = .ok (.aload_n 0, 1) := by decide +kernel
theorem dX8_undo_32 : decode cX8_undo 32 = .ok (.getfield 38, 3) := by decide +kernel
theorem dX8_undo_35 : decode cX8_undo 35 = .ok (.iload_n 1, 1) := by decide +kernel
theorem dX8_undo_36 : decode cX8_undo 36 = .ok (.iaload, 1) := by decide +kernel
theorem dX8_undo_37 : decode cX8_undo 37 = .ok (.putfield 83, 3) := by decide +kernel
theorem dX8_undo_40 : decode cX8_undo 40 = .ok (.aload_n 0, 1) := by decide +kernel
theorem dX8_undo_41 : decode cX8_undo 41 = .ok (.aload_n 0, 1) := by decide +kernel
theorem dX8_undo_42 : decode cX8_undo 42 = .ok (.getfield 38, 3) := by decide +kernel
theorem dX8_undo_45 : decode cX8_undo 45 = .ok (.iload_n 1, 1) := by decide +kernel
theorem dX8_undo_46 : decode cX8_undo 46 = .ok (.iconst 1, 1) := by decide +kernel
theorem dX8_undo_47 : decode cX8_undo 47 = .ok (.iadd, 1) := by decide +kernel
theorem dX8_undo_48 : decode cX8_undo 48 = .ok (.iaload, 1) := by decide +kernel
theorem dX8_undo_49 : decode cX8_undo 49 = .ok (.putfield 86, 3) := by decide +kernel
theorem dX8_undo_52 : decode cX8_undo 52 = .ok (.iconst 0, 1) := by decide +kernel
theorem dX8_undo_53 : decode cX8_undo 53 = .ok (.istore_n 2, 1) := by decide +kernel
theorem dX8_undo_54 : decode cX8_undo 54 = .ok (.iload_n 2, 1) := by decide +kernel
theorem dX8_undo_55 : decode cX8_undo 55 = .ok (.bipush 12, 2) := by decide +kernel
theorem dX8_undo_57 : decode cX8_undo 57 = .ok (.if_icmp .ge 42, 3) := by decide +kernel
theorem dX8_undo_60 : decode cX8_undo 60 = .ok (.aload_n 0, 1) := by decide +kernel
theorem dX8_undo_61 : decode cX8_undo 61 = .ok (.getfield 23, 3) := by decide +kernel
theorem dX8_undo_64 : decode cX8_undo 64 = .ok (.iload_n 2, 1) := by decide +kernel
theorem dX8_undo_65 : decode cX8_undo 65 = .ok (.aload_n 0, 1) := by decide +kernel
theorem dX8_undo_66 : decode cX8_undo 66 = .ok (.getfield 38, 3) := by decide +kernel
theorem dX8_undo_69 : decode cX8_undo 69 = .ok (.iload_n 1, 1) := by decide +kernel
theorem dX8_undo_70 : decode cX8_undo 70 = .ok (.iconst 2, 1) := by decide +kernel
theorem dX8_undo_71 : decode cX8_undo 71 = .ok (.iadd, 1) := by decide +kernel
theorem dX8_undo_72 : decode cX8_undo 72 = .ok (.iload_n 2, 1) := by decide +kernel
theorem dX8_undo_73 : decode cX8_undo 73 = .ok (.iadd, 1) := by decide +kernel
theorem dX8_undo_74 : decode cX8_undo 74 = .ok (.iaload, 1) := by decide +kernel
theorem dX8_undo_75 : decode cX8_undo 75 = .ok (.iastore, 1) := by decide +kernel
theorem dX8_undo_76 : decode cX8_undo 76 = .ok (.aload_n 0, 1) := by decide +kernel
theorem dX8_undo_77 : decode cX8_undo 77 = .ok (.getfield 26, 3) := by decide +kernel
theorem dX8_undo_80 : decode cX8_undo 80 = .ok (.iload_n 2, 1) := by decide +kernel
theorem dX8_undo_81 : decode cX8_undo 81 = .ok (.aload_n 0, 1) := by decide +kernel
theorem dX8_undo_82 : decode cX8_undo 82 = .ok (.getfield 38, 3) := by decide +kernel
theorem dX8_undo_85 : decode cX8_undo 85 = .ok (.iload_n 1, 1) := by decide +kernel
theorem dX8_undo_86 : decode cX8_undo 86 = .ok (.bipush 14, 2) := by decide +kernel
theorem dX8_undo_88 : decode cX8_undo 88 = .ok (.iadd, 1) := by decide +kernel
theorem dX8_undo_89 : decode cX8_undo 89 = .ok (.iload_n 2, 1) := by decide +kernel
theorem dX8_undo_90 : decode cX8_undo 90 = .ok (.iadd, 1) := by decide +kernel
theorem dX8_undo_91 : decode cX8_undo 91 = .ok (.iaload, 1) := by decide +kernel
theorem dX8_undo_92 : decode cX8_undo 92 = .ok (.iastore, 1) := by decide +kernel
theorem dX8_undo_93 : decode cX8_undo 93 = .ok (.iinc 2 1, 3) := by decide +kernel
theorem dX8_undo_96 : decode cX8_undo 96 = .ok (.goto (-42), 3) := by decide +kernel
theorem dX8_undo_99 : decode cX8_undo 99 = .ok (.aload_n 0, 1) := by decide +kernel
theorem dX8_undo_100 : decode cX8_undo 100 = .ok (.getfield 83, 3) := by decide +kernel
theorem dX8_undo_103 : decode cX8_undo 103 = .ok (.ireturn, 1) := by decide +kernel
theorem dX8_of_0 : decode cX8_of 0 = .ok (.aload_n 0, 1) := by decide +kernel
theorem dX8_of_1 : decode cX8_of 1 = .ok (.iload_n 1, 1) := by decide +kernel
theorem dX8_of_2 : decode cX8_of 2 = .ok (.invokevirtual 114, 3) := by decide +kernel
theorem dX8_of_5 : decode cX8_of 5 = .ok (.ifCond .eq 12, 3) := by decide +kernel
theorem dX8_of_8 : decode cX8_of 8 = .ok (.iload_n 2, 1) := by decide +kernel
theorem dX8_of_9 : decode cX8_of 9 = .ok (.iconst 0, 1) := by decide +kernel
theorem dX8_of_10 : decode cX8_of 10 = .ok (.iconst 3, 1) := by decide +kernel
theorem dX8_of_11 : decode cX8_of 11 = .ok (.invokestatic 95, 3) := by decide +kernel
theorem dX8_of_14 : decode cX8_of 14 = .ok (.ifCond .ne 8, 3) := by decide +kernel
theorem dX8_of_17 : decode cX8_of 17 = .ok (.aload_n 0, 1) := by decide +kernel
theorem dX8_of_18 : decode cX8_of 18 = .ok (.invokevirtual 121, 3) := by decide +kernel
theorem dX8_of_21 : decode cX8_of 21 = .ok (.ireturn, 1) := by decide +kernel
theorem dX8_of_22 : decode cX8_of 22 = .ok (.iload_n 2, 1) := by decide +kernel
theorem dX8_of_23 : decode cX8_of 23 = .ok (.tableswitch 46 0 2 #[25, 32, 39], 25) := by decide +kernel
theorem dX8_of_48 : decode cX8_of 48 = .ok (.aload_n 0, 1) := by decide +kernel
theorem dX8_of_49 : decode cX8_of 49 = .ok (.getfield 20, 3) := by decide +kernel
theorem dX8_of_52 : decode cX8_of 52 = .ok (.iload_n 1, 1) := by decide +kernel
theorem dX8_of_53 : decode cX8_of 53 = .ok (.iaload, 1) := by decide +kernel
theorem dX8_of_54 : decode cX8_of 54 = .ok (.ireturn, 1) := by decide +kernel
theorem dX8_of_55 : decode cX8_of 55 = .ok (.aload_n 0, 1) := by decide +kernel
theorem dX8_of_56 : decode cX8_of 56 = .ok (.getfield 23, 3) := by decide +kernel
theorem dX8_of_59 : decode cX8_of 59 = .ok (.iload_n 1, 1) := by decide +kernel
theorem dX8_of_60 : decode cX8_of 60 = .ok (.iaload, 1) := by decide +kernel
theorem dX8_of_61 : decode cX8_of 61 = .ok (.ireturn, 1) := by decide +kernel
theorem dX8_of_62 : decode cX8_of 62 = .ok (.aload_n 0, 1) := by decide +kernel
theorem dX8_of_63 : decode cX8_of 63 = .ok (.getfield 26, 3) := by decide +kernel
theorem dX8_of_66 : decode cX8_of 66 = .ok (.iload_n 1, 1) := by decide +kernel
theorem dX8_of_67 : decode cX8_of 67 = .ok (.iaload, 1) := by decide +kernel
theorem dX8_of_68 : decode cX8_of 68 = .ok (.ireturn, 1) := by decide +kernel
theorem dX8_of_69 : decode cX8_of 69 = .ok (.aload_n 0, 1) := by decide +kernel
theorem dX8_of_70 : decode cX8_of 70 = .ok (.getfield 23, 3) := by decide +kernel
theorem dX8_of_73 : decode cX8_of 73 = .ok (.iload_n 1, 1) := by decide +kernel
theorem dX8_of_74 : decode cX8_of 74 = .ok (.iaload, 1) := by decide +kernel
theorem dX8_of_75 : decode cX8_of 75 = .ok (.iconst (-1), 1) := by decide +kernel
theorem dX8_of_76 : decode cX8_of 76 = .ok (.if_icmp .ne 7, 3) := by decide +kernel
theorem dX8_of_79 : decode cX8_of 79 = .ok (.iconst 0, 1) := by decide +kernel
theorem dX8_of_80 : decode cX8_of 80 = .ok (.goto 13, 3) := by decide +kernel
theorem dX8_of_83 : decode cX8_of 83 = .ok (.aload_n 0, 1) := by decide +kernel
theorem dX8_of_84 : decode cX8_of 84 = .ok (.aload_n 0, 1) := by decide +kernel
theorem dX8_of_85 : decode cX8_of 85 = .ok (.getfield 23, 3) := by decide +kernel
theorem dX8_of_88 : decode cX8_of 88 = .ok (.iload_n 1, 1) := by decide +kernel
theorem dX8_of_89 : decode cX8_of 89 = .ok (.iaload, 1) := by decide +kernel
theorem dX8_of_90 : decode cX8_of 90 = .ok (.invokevirtual 180, 3) := by decide +kernel
theorem dX8_of_93 : decode cX8_of 93 = .ok (.ireturn, 1) := by decide +kernel
theorem dX8_costs_0 : decode cX8_costs 0 = .ok (.iload_n 1, 1) := by decide +kernel
theorem dX8_costs_1 : decode cX8_costs 1 = .ok (.invokestatic 118, 3) := by decide +kernel
theorem dX8_costs_4 : decode cX8_costs 4 = .ok (.ifCond .eq 11, 3) := by decide +kernel
theorem dX8_costs_7 : decode cX8_costs 7 = .ok (.aload_n 0, 1) := by decide +kernel
theorem dX8_costs_8 : decode cX8_costs 8 = .ok (.iload_n 1, 1) := by decide +kernel
theorem dX8_costs_9 : decode cX8_costs 9 = .ok (.invokevirtual 180, 3) := by decide +kernel
theorem dX8_costs_12 : decode cX8_costs 12 = .ok (.goto 7, 3) := by decide +kernel
theorem dX8_costs_15 : decode cX8_costs 15 = .ok (.aload_n 0, 1) := by decide +kernel
theorem dX8_costs_16 : decode cX8_costs 16 = .ok (.invokevirtual 103, 3) := by decide +kernel
theorem dX8_costs_19 : decode cX8_costs 19 = .ok (.ireturn, 1) := by decide +kernel
theorem dX8_gives_0 : decode cX8_gives 0 = .ok (.iload_n 1, 1) := by decide +kernel
theorem dX8_gives_1 : decode cX8_gives 1 = .ok (.invokestatic 118, 3) := by decide +kernel
theorem dX8_gives_4 : decode cX8_gives 4 = .ok (.ifCond .eq 27, 3) := by decide +kernel
theorem dX8_gives_7 : decode cX8_gives 7 = .ok (.iload_n 2, 1) := by decide +kernel
theorem dX8_gives_8 : decode cX8_gives 8 = .ok (.iconst 0, 1) := by decide +kernel
theorem dX8_gives_9 : decode cX8_gives 9 = .ok (.aload_n 0, 1) := by decide +kernel
theorem dX8_gives_10 : decode cX8_gives 10 = .ok (.getfield 13, 3) := by decide +kernel
theorem dX8_gives_13 : decode cX8_gives 13 = .ok (.invokestatic 95, 3) := by decide +kernel
theorem dX8_gives_16 : decode cX8_gives 16 = .ok (.ifCond .eq 15, 3) := by decide +kernel
theorem dX8_gives_19 : decode cX8_gives 19 = .ok (.iload_n 1, 1) := by decide +kernel
theorem dX8_gives_20 : decode cX8_gives 20 = .ok (.iload_n 2, 1) := by decide +kernel
theorem dX8_gives_21 : decode cX8_gives 21 = .ok (.aload_n 0, 1) := by decide +kernel
theorem dX8_gives_22 : decode cX8_gives 22 = .ok (.getfield 13, 3) := by decide +kernel
theorem dX8_gives_25 : decode cX8_gives 25 = .ok (.invokestatic 189, 3) := by decide +kernel
theorem dX8_gives_28 : decode cX8_gives 28 = .ok (.goto 7, 3) := by decide +kernel
theorem dX8_gives_31 : decode cX8_gives 31 = .ok (.aload_n 0, 1) := by decide +kernel
theorem dX8_gives_32 : decode cX8_gives 32 = .ok (.invokevirtual 103, 3) := by decide +kernel
theorem dX8_gives_35 : decode cX8_gives 35 = .ok (.ireturn, 1) := by decide +kernel
theorem dX8_stuckBy_0 : decode cX8_stuckBy 0 = .ok (.iload_n 1, 1) := by decide +kernel
theorem dX8_stuckBy_1 : decode cX8_stuckBy 1 = .ok (.istore_n 3, 1) := by decide +kernel
theorem dX8_stuckBy_2 : decode cX8_stuckBy 2 = .ok (.iconst 0, 1) := by decide +kernel
theorem dX8_stuckBy_3 : decode cX8_stuckBy 3 = .ok (.istore 4, 2) := by decide +kernel
theorem dX8_stuckBy_5 : decode cX8_stuckBy 5 = .ok (.iload 4, 2) := by decide +kernel
theorem dX8_stuckBy_7 : decode cX8_stuckBy 7 = .ok (.aload_n 0, 1) := by decide +kernel
theorem dX8_stuckBy_8 : decode cX8_stuckBy 8 = .ok (.getfield 80, 3) := by decide +kernel
theorem dX8_stuckBy_11 : decode cX8_stuckBy 11 = .ok (.if_icmp .ge 50, 3) := by decide +kernel
theorem dX8_stuckBy_14 : decode cX8_stuckBy 14 = .ok (.iload 4, 2) := by decide +kernel
theorem dX8_stuckBy_16 : decode cX8_stuckBy 16 = .ok (.iload_n 2, 1) := by decide +kernel
theorem dX8_stuckBy_17 : decode cX8_stuckBy 17 = .ok (.if_icmp .eq 38, 3) := by decide +kernel
theorem dX8_stuckBy_20 : decode cX8_stuckBy 20 = .ok (.aload_n 0, 1) := by decide +kernel
theorem dX8_stuckBy_21 : decode cX8_stuckBy 21 = .ok (.getfield 20, 3) := by decide +kernel
theorem dX8_stuckBy_24 : decode cX8_stuckBy 24 = .ok (.iload 4, 2) := by decide +kernel
theorem dX8_stuckBy_26 : decode cX8_stuckBy 26 = .ok (.iaload, 1) := by decide +kernel
theorem dX8_stuckBy_27 : decode cX8_stuckBy 27 = .ok (.iload_n 3, 1) := by decide +kernel
theorem dX8_stuckBy_28 : decode cX8_stuckBy 28 = .ok (.if_icmp .le 6, 3) := by decide +kernel
theorem dX8_stuckBy_31 : decode cX8_stuckBy 31 = .ok (.iload 4, 2) := by decide +kernel
theorem dX8_stuckBy_33 : decode cX8_stuckBy 33 = .ok (.ireturn, 1) := by decide +kernel
theorem dX8_stuckBy_34 : decode cX8_stuckBy 34 = .ok (.aload_n 0, 1) := by decide +kernel
theorem dX8_stuckBy_35 : decode cX8_stuckBy 35 = .ok (.getfield 23, 3) := by decide +kernel
theorem dX8_stuckBy_38 : decode cX8_stuckBy 38 = .ok (.iload 4, 2) := by decide +kernel
theorem dX8_stuckBy_40 : decode cX8_stuckBy 40 = .ok (.iaload, 1) := by decide +kernel
theorem dX8_stuckBy_41 : decode cX8_stuckBy 41 = .ok (.iload_n 3, 1) := by decide +kernel
theorem dX8_stuckBy_42 : decode cX8_stuckBy 42 = .ok (.aload_n 0, 1) := by decide +kernel
theorem dX8_stuckBy_43 : decode cX8_stuckBy 43 = .ok (.getfield 20, 3) := by decide +kernel
theorem dX8_stuckBy_46 : decode cX8_stuckBy 46 = .ok (.iload 4, 2) := by decide +kernel
theorem dX8_stuckBy_48 : decode cX8_stuckBy 48 = .ok (.iaload, 1) := by decide +kernel
theorem dX8_stuckBy_49 : decode cX8_stuckBy 49 = .ok (.isub, 1) := by decide +kernel
theorem dX8_stuckBy_50 : decode cX8_stuckBy 50 = .ok (.iload_n 1, 1) := by decide +kernel
theorem dX8_stuckBy_51 : decode cX8_stuckBy 51 = .ok (.invokestatic 189, 3) := by decide +kernel
theorem dX8_stuckBy_54 : decode cX8_stuckBy 54 = .ok (.istore_n 3, 1) := by decide +kernel
theorem dX8_stuckBy_55 : decode cX8_stuckBy 55 = .ok (.iinc 4 1, 3) := by decide +kernel
theorem dX8_stuckBy_58 : decode cX8_stuckBy 58 = .ok (.goto (-53), 3) := by decide +kernel
theorem dX8_stuckBy_61 : decode cX8_stuckBy 61 = .ok (.aload_n 0, 1) := by decide +kernel
theorem dX8_stuckBy_62 : decode cX8_stuckBy 62 = .ok (.getfield 80, 3) := by decide +kernel
theorem dX8_stuckBy_65 : decode cX8_stuckBy 65 = .ok (.ireturn, 1) := by decide +kernel
theorem dX8_stuck_0 : decode cX8_stuck 0 = .ok (.aload_n 0, 1) := by decide +kernel
theorem dX8_stuck_1 : decode cX8_stuck 1 = .ok (.aload_n 0, 1) := by decide +kernel
theorem dX8_stuck_2 : decode cX8_stuck 2 = .ok (.getfield 13, 3) := by decide +kernel
theorem dX8_stuck_5 : decode cX8_stuck 5 = .ok (.iconst (-1), 1) := by decide +kernel
theorem dX8_stuck_6 : decode cX8_stuck 6 = .ok (.invokevirtual 196, 3) := by decide +kernel
theorem dX8_stuck_9 : decode cX8_stuck 9 = .ok (.istore_n 1, 1) := by decide +kernel
theorem dX8_stuck_10 : decode cX8_stuck 10 = .ok (.iload_n 1, 1) := by decide +kernel
theorem dX8_stuck_11 : decode cX8_stuck 11 = .ok (.aload_n 0, 1) := by decide +kernel
theorem dX8_stuck_12 : decode cX8_stuck 12 = .ok (.getfield 80, 3) := by decide +kernel
theorem dX8_stuck_15 : decode cX8_stuck 15 = .ok (.if_icmp .ne 7, 3) := by decide +kernel
theorem dX8_stuck_18 : decode cX8_stuck 18 = .ok (.iconst (-1), 1) := by decide +kernel
theorem dX8_stuck_19 : decode cX8_stuck 19 = .ok (.goto 4, 3) := by decide +kernel
theorem dX8_stuck_22 : decode cX8_stuck 22 = .ok (.iload_n 1, 1) := by decide +kernel
theorem dX8_stuck_23 : decode cX8_stuck 23 = .ok (.ireturn, 1) := by decide +kernel
theorem dX8_sentences_0 : decode cX8_sentences 0 = .ok (.iload_n 1, 1) := by decide +kernel
theorem dX8_sentences_1 : decode cX8_sentences 1 = .ok (.iconst 0, 1) := by decide +kernel
theorem dX8_sentences_2 : decode cX8_sentences 2 = .ok (.iconst 3, 1) := by decide +kernel
theorem dX8_sentences_3 : decode cX8_sentences 3 = .ok (.invokestatic 95, 3) := by decide +kernel
theorem dX8_sentences_6 : decode cX8_sentences 6 = .ok (.ifCond .ne 8, 3) := by decide +kernel
theorem dX8_sentences_9 : decode cX8_sentences 9 = .ok (.aload_n 0, 1) := by decide +kernel
theorem dX8_sentences_10 : decode cX8_sentences 10 = .ok (.invokevirtual 103, 3) := by decide +kernel
theorem dX8_sentences_13 : decode cX8_sentences 13 = .ok (.ireturn, 1) := by decide +kernel
theorem dX8_sentences_14 : decode cX8_sentences 14 = .ok (.iconst 0, 1) := by decide +kernel
theorem dX8_sentences_15 : decode cX8_sentences 15 = .ok (.istore_n 2, 1) := by decide +kernel
theorem dX8_sentences_16 : decode cX8_sentences 16 = .ok (.iconst 0, 1) := by decide +kernel
theorem dX8_sentences_17 : decode cX8_sentences 17 = .ok (.istore_n 3, 1) := by decide +kernel
theorem dX8_sentences_18 : decode cX8_sentences 18 = .ok (.iconst 0, 1) := by decide +kernel
theorem dX8_sentences_19 : decode cX8_sentences 19 = .ok (.istore 4, 2) := by decide +kernel
theorem dX8_sentences_21 : decode cX8_sentences 21 = .ok (.iconst (-1), 1) := by decide +kernel
theorem dX8_sentences_22 : decode cX8_sentences 22 = .ok (.istore 5, 2) := by decide +kernel
theorem dX8_sentences_24 : decode cX8_sentences 24 = .ok (.iconst 0, 1) := by decide +kernel
theorem dX8_sentences_25 : decode cX8_sentences 25 = .ok (.istore 6, 2) := by decide +kernel
theorem dX8_sentences_27 : decode cX8_sentences 27 = .ok (.iload 6, 2) := by decide +kernel
theorem dX8_sentences_29 : decode cX8_sentences 29 = .ok (.aload_n 0, 1) := by decide +kernel
theorem dX8_sentences_30 : decode cX8_sentences 30 = .ok (.getfield 80, 3) := by decide +kernel
theorem dX8_sentences_33 : decode cX8_sentences 33 = .ok (.if_icmp .ge 73, 3) := by decide +kernel
theorem dX8_sentences_36 : decode cX8_sentences 36 = .ok (.aload_n 0, 1) := by decide +kernel
theorem dX8_sentences_37 : decode cX8_sentences 37 = .ok (.getfield 23, 3) := by decide +kernel
theorem dX8_sentences_40 : decode cX8_sentences 40 = .ok (.iload 6, 2) := by decide +kernel
theorem dX8_sentences_42 : decode cX8_sentences 42 = .ok (.iaload, 1) := by decide +kernel
theorem dX8_sentences_43 : decode cX8_sentences 43 = .ok (.invokestatic 199, 3) := by decide +kernel
theorem dX8_sentences_46 : decode cX8_sentences 46 = .ok (.ifCond .ne 14, 3) := by decide +kernel
theorem dX8_sentences_49 : decode cX8_sentences 49 = .ok (.iload 6, 2) := by decide +kernel
theorem dX8_sentences_51 : decode cX8_sentences 51 = .ok (.aload_n 0, 1) := by decide +kernel
theorem dX8_sentences_52 : decode cX8_sentences 52 = .ok (.getfield 80, 3) := by decide +kernel
theorem dX8_sentences_55 : decode cX8_sentences 55 = .ok (.iconst 1, 1) := by decide +kernel
theorem dX8_sentences_56 : decode cX8_sentences 56 = .ok (.isub, 1) := by decide +kernel
theorem dX8_sentences_57 : decode cX8_sentences 57 = .ok (.if_icmp .ne 43, 3) := by decide +kernel
theorem dX8_sentences_60 : decode cX8_sentences 60 = .ok (.iload 6, 2) := by decide +kernel
theorem dX8_sentences_62 : decode cX8_sentences 62 = .ok (.iconst 1, 1) := by decide +kernel
theorem dX8_sentences_63 : decode cX8_sentences 63 = .ok (.iadd, 1) := by decide +kernel
theorem dX8_sentences_64 : decode cX8_sentences 64 = .ok (.iload_n 3, 1) := by decide +kernel
theorem dX8_sentences_65 : decode cX8_sentences 65 = .ok (.isub, 1) := by decide +kernel
theorem dX8_sentences_66 : decode cX8_sentences 66 = .ok (.istore 7, 2) := by decide +kernel
theorem dX8_sentences_68 : decode cX8_sentences 68 = .ok (.iload 7, 2) := by decide +kernel
theorem dX8_sentences_70 : decode cX8_sentences 70 = .ok (.iload 4, 2) := by decide +kernel
theorem dX8_sentences_72 : decode cX8_sentences 72 = .ok (.if_icmp .le 7, 3) := by decide +kernel
theorem dX8_sentences_75 : decode cX8_sentences 75 = .ok (.iload_n 2, 1) := by decide +kernel
theorem dX8_sentences_76 : decode cX8_sentences 76 = .ok (.goto 5, 3) := by decide +kernel
theorem dX8_sentences_79 : decode cX8_sentences 79 = .ok (.iload 5, 2) := by decide +kernel
theorem dX8_sentences_81 : decode cX8_sentences 81 = .ok (.istore 5, 2) := by decide +kernel
theorem dX8_sentences_83 : decode cX8_sentences 83 = .ok (.iload 4, 2) := by decide +kernel
theorem dX8_sentences_85 : decode cX8_sentences 85 = .ok (.iload 7, 2) := by decide +kernel
theorem dX8_sentences_87 : decode cX8_sentences 87 = .ok (.invokestatic 177, 3) := by decide +kernel
theorem dX8_sentences_90 : decode cX8_sentences 90 = .ok (.istore 4, 2) := by decide +kernel
theorem dX8_sentences_92 : decode cX8_sentences 92 = .ok (.iload 6, 2) := by decide +kernel
theorem dX8_sentences_94 : decode cX8_sentences 94 = .ok (.iconst 1, 1) := by decide +kernel
theorem dX8_sentences_95 : decode cX8_sentences 95 = .ok (.iadd, 1) := by decide +kernel
theorem dX8_sentences_96 : decode cX8_sentences 96 = .ok (.istore_n 3, 1) := by decide +kernel
theorem dX8_sentences_97 : decode cX8_sentences 97 = .ok (.iinc 2 1, 3) := by decide +kernel
theorem dX8_sentences_100 : decode cX8_sentences 100 = .ok (.iinc 6 1, 3) := by decide +kernel
theorem dX8_sentences_103 : decode cX8_sentences 103 = .ok (.goto (-76), 3) := by decide +kernel
theorem dX8_sentences_106 : decode cX8_sentences 106 = .ok (.aload_n 0, 1) := by decide +kernel
theorem dX8_sentences_107 : decode cX8_sentences 107 = .ok (.getfield 80, 3) := by decide +kernel
theorem dX8_sentences_110 : decode cX8_sentences 110 = .ok (.ifCond .le 24, 3) := by decide +kernel
theorem dX8_sentences_113 : decode cX8_sentences 113 = .ok (.aload_n 0, 1) := by decide +kernel
theorem dX8_sentences_114 : decode cX8_sentences 114 = .ok (.getfield 23, 3) := by decide +kernel
theorem dX8_sentences_117 : decode cX8_sentences 117 = .ok (.aload_n 0, 1) := by decide +kernel
theorem dX8_sentences_118 : decode cX8_sentences 118 = .ok (.getfield 80, 3) := by decide +kernel
theorem dX8_sentences_121 : decode cX8_sentences 121 = .ok (.iconst 1, 1) := by decide +kernel
theorem dX8_sentences_122 : decode cX8_sentences 122 = .ok (.isub, 1) := by decide +kernel
theorem dX8_sentences_123 : decode cX8_sentences 123 = .ok (.iaload, 1) := by decide +kernel
theorem dX8_sentences_124 : decode cX8_sentences 124 = .ok (.invokestatic 199, 3) := by decide +kernel
theorem dX8_sentences_127 : decode cX8_sentences 127 = .ok (.ifCond .eq 7, 3) := by decide +kernel
theorem dX8_sentences_130 : decode cX8_sentences 130 = .ok (.iconst 1, 1) := by decide +kernel
theorem dX8_sentences_131 : decode cX8_sentences 131 = .ok (.goto 4, 3) := by decide +kernel
theorem dX8_sentences_134 : decode cX8_sentences 134 = .ok (.iconst 0, 1) := by decide +kernel
theorem dX8_sentences_135 : decode cX8_sentences 135 = .ok (.istore 6, 2) := by decide +kernel
theorem dX8_sentences_137 : decode cX8_sentences 137 = .ok (.iload_n 1, 1) := by decide +kernel
theorem dX8_sentences_138 : decode cX8_sentences 138 = .ok (.ifCond .ne 7, 3) := by decide +kernel
theorem dX8_sentences_141 : decode cX8_sentences 141 = .ok (.iload_n 2, 1) := by decide +kernel
theorem dX8_sentences_142 : decode cX8_sentences 142 = .ok (.goto 33, 3) := by decide +kernel
theorem dX8_sentences_145 : decode cX8_sentences 145 = .ok (.iload_n 1, 1) := by decide +kernel
theorem dX8_sentences_146 : decode cX8_sentences 146 = .ok (.iconst 1, 1) := by decide +kernel
theorem dX8_sentences_147 : decode cX8_sentences 147 = .ok (.if_icmp .ne 16, 3) := by decide +kernel
theorem dX8_sentences_150 : decode cX8_sentences 150 = .ok (.iload 6, 2) := by decide +kernel
theorem dX8_sentences_152 : decode cX8_sentences 152 = .ok (.ifCond .eq 7, 3) := by decide +kernel
theorem dX8_sentences_155 : decode cX8_sentences 155 = .ok (.iconst 1, 1) := by decide +kernel
theorem dX8_sentences_156 : decode cX8_sentences 156 = .ok (.goto 19, 3) := by decide +kernel
theorem dX8_sentences_159 : decode cX8_sentences 159 = .ok (.iconst 0, 1) := by decide +kernel
theorem dX8_sentences_160 : decode cX8_sentences 160 = .ok (.goto 15, 3) := by decide +kernel
theorem dX8_sentences_163 : decode cX8_sentences 163 = .ok (.iload_n 1, 1) := by decide +kernel
theorem dX8_sentences_164 : decode cX8_sentences 164 = .ok (.iconst 2, 1) := by decide +kernel
theorem dX8_sentences_165 : decode cX8_sentences 165 = .ok (.if_icmp .ne 8, 3) := by decide +kernel
theorem dX8_sentences_168 : decode cX8_sentences 168 = .ok (.iload 4, 2) := by decide +kernel
theorem dX8_sentences_170 : decode cX8_sentences 170 = .ok (.goto 5, 3) := by decide +kernel
theorem dX8_sentences_173 : decode cX8_sentences 173 = .ok (.iload 5, 2) := by decide +kernel
theorem dX8_sentences_175 : decode cX8_sentences 175 = .ok (.ireturn, 1) := by decide +kernel
theorem dX8_cellOf_0 : decode cX8_cellOf 0 = .ok (.bipush 31, 2) := by decide +kernel
theorem dX8_cellOf_2 : decode cX8_cellOf 2 = .ok (.iload_n 0, 1) := by decide +kernel
theorem dX8_cellOf_3 : decode cX8_cellOf 3 = .ok (.imul, 1) := by decide +kernel
theorem dX8_cellOf_4 : decode cX8_cellOf 4 = .ok (.iload_n 1, 1) := by decide +kernel
theorem dX8_cellOf_5 : decode cX8_cellOf 5 = .ok (.iadd, 1) := by decide +kernel
theorem dX8_cellOf_6 : decode cX8_cellOf 6 = .ok (.ireturn, 1) := by decide +kernel
theorem dX8_costBy_0 : decode cX8_costBy 0 = .ok (.aload_n 0, 1) := by decide +kernel
theorem dX8_costBy_1 : decode cX8_costBy 1 = .ok (.getfield 20, 3) := by decide +kernel
theorem dX8_costBy_4 : decode cX8_costBy 4 = .ok (.iload_n 1, 1) := by decide +kernel
theorem dX8_costBy_5 : decode cX8_costBy 5 = .ok (.iaload, 1) := by decide +kernel
theorem dX8_costBy_6 : decode cX8_costBy 6 = .ok (.iload_n 2, 1) := by decide +kernel
theorem dX8_costBy_7 : decode cX8_costBy 7 = .ok (.if_icmp .le 6, 3) := by decide +kernel
theorem dX8_costBy_10 : decode cX8_costBy 10 = .ok (.ldc 202, 2) := by decide +kernel
theorem dX8_costBy_12 : decode cX8_costBy 12 = .ok (.ireturn, 1) := by decide +kernel
theorem dX8_costBy_13 : decode cX8_costBy 13 = .ok (.aload_n 0, 1) := by decide +kernel
theorem dX8_costBy_14 : decode cX8_costBy 14 = .ok (.getfield 23, 3) := by decide +kernel
theorem dX8_costBy_17 : decode cX8_costBy 17 = .ok (.iload_n 1, 1) := by decide +kernel
theorem dX8_costBy_18 : decode cX8_costBy 18 = .ok (.iaload, 1) := by decide +kernel
theorem dX8_costBy_19 : decode cX8_costBy 19 = .ok (.iconst (-1), 1) := by decide +kernel
theorem dX8_costBy_20 : decode cX8_costBy 20 = .ok (.if_icmp .eq 12, 3) := by decide +kernel
theorem dX8_costBy_23 : decode cX8_costBy 23 = .ok (.aload_n 0, 1) := by decide +kernel
theorem dX8_costBy_24 : decode cX8_costBy 24 = .ok (.getfield 23, 3) := by decide +kernel
theorem dX8_costBy_27 : decode cX8_costBy 27 = .ok (.iload_n 1, 1) := by decide +kernel
theorem dX8_costBy_28 : decode cX8_costBy 28 = .ok (.iaload, 1) := by decide +kernel
theorem dX8_costBy_29 : decode cX8_costBy 29 = .ok (.goto 4, 3) := by decide +kernel
theorem dX8_costBy_32 : decode cX8_costBy 32 = .ok (.iload_n 3, 1) := by decide +kernel
theorem dX8_costBy_33 : decode cX8_costBy 33 = .ok (.istore 6, 2) := by decide +kernel
theorem dX8_costBy_35 : decode cX8_costBy 35 = .ok (.iload 5, 2) := by decide +kernel
theorem dX8_costBy_37 : decode cX8_costBy 37 = .ok (.ifCond .eq 24, 3) := by decide +kernel
theorem dX8_costBy_40 : decode cX8_costBy 40 = .ok (.iload_n 1, 1) := by decide +kernel
theorem dX8_costBy_41 : decode cX8_costBy 41 = .ok (.aload_n 0, 1) := by decide +kernel
theorem dX8_costBy_42 : decode cX8_costBy 42 = .ok (.getfield 80, 3) := by decide +kernel
theorem dX8_costBy_45 : decode cX8_costBy 45 = .ok (.iconst 1, 1) := by decide +kernel
theorem dX8_costBy_46 : decode cX8_costBy 46 = .ok (.isub, 1) := by decide +kernel
theorem dX8_costBy_47 : decode cX8_costBy 47 = .ok (.if_icmp .ne 14, 3) := by decide +kernel
theorem dX8_costBy_50 : decode cX8_costBy 50 = .ok (.iload 6, 2) := by decide +kernel
theorem dX8_costBy_52 : decode cX8_costBy 52 = .ok (.invokestatic 199, 3) := by decide +kernel
theorem dX8_costBy_55 : decode cX8_costBy 55 = .ok (.ifCond .ne 6, 3) := by decide +kernel
theorem dX8_costBy_58 : decode cX8_costBy 58 = .ok (.ldc 202, 2) := by decide +kernel
theorem dX8_costBy_60 : decode cX8_costBy 60 = .ok (.ireturn, 1) := by decide +kernel
theorem dX8_costBy_61 : decode cX8_costBy 61 = .ok (.aload_n 0, 1) := by decide +kernel
theorem dX8_costBy_62 : decode cX8_costBy 62 = .ok (.getfield 41, 3) := by decide +kernel
theorem dX8_costBy_65 : decode cX8_costBy 65 = .ok (.iload_n 1, 1) := by decide +kernel
theorem dX8_costBy_66 : decode cX8_costBy 66 = .ok (.iconst 1, 1) := by decide +kernel
theorem dX8_costBy_67 : decode cX8_costBy 67 = .ok (.iadd, 1) := by decide +kernel
theorem dX8_costBy_68 : decode cX8_costBy 68 = .ok (.iload 6, 2) := by decide +kernel
theorem dX8_costBy_70 : decode cX8_costBy 70 = .ok (.iload_n 2, 1) := by decide +kernel
theorem dX8_costBy_71 : decode cX8_costBy 71 = .ok (.aload_n 0, 1) := by decide +kernel
theorem dX8_costBy_72 : decode cX8_costBy 72 = .ok (.getfield 20, 3) := by decide +kernel
theorem dX8_costBy_75 : decode cX8_costBy 75 = .ok (.iload_n 1, 1) := by decide +kernel
theorem dX8_costBy_76 : decode cX8_costBy 76 = .ok (.iaload, 1) := by decide +kernel
theorem dX8_costBy_77 : decode cX8_costBy 77 = .ok (.isub, 1) := by decide +kernel
theorem dX8_costBy_78 : decode cX8_costBy 78 = .ok (.iload 4, 2) := by decide +kernel
theorem dX8_costBy_80 : decode cX8_costBy 80 = .ok (.invokestatic 189, 3) := by decide +kernel
theorem dX8_costBy_83 : decode cX8_costBy 83 = .ok (.invokestatic 203, 3) := by decide +kernel
theorem dX8_costBy_86 : decode cX8_costBy 86 = .ok (.iaload, 1) := by decide +kernel
theorem dX8_costBy_87 : decode cX8_costBy 87 = .ok (.istore 7, 2) := by decide +kernel
theorem dX8_costBy_89 : decode cX8_costBy 89 = .ok (.iload_n 3, 1) := by decide +kernel
theorem dX8_costBy_90 : decode cX8_costBy 90 = .ok (.iconst (-1), 1) := by decide +kernel
theorem dX8_costBy_91 : decode cX8_costBy 91 = .ok (.if_icmp .eq 10, 3) := by decide +kernel
theorem dX8_costBy_94 : decode cX8_costBy 94 = .ok (.iload 7, 2) := by decide +kernel
theorem dX8_costBy_96 : decode cX8_costBy 96 = .ok (.ldc 202, 2) := by decide +kernel
theorem dX8_costBy_98 : decode cX8_costBy 98 = .ok (.if_icmp .lt 8, 3) := by decide +kernel
theorem dX8_costBy_101 : decode cX8_costBy 101 = .ok (.iload 7, 2) := by decide +kernel
theorem dX8_costBy_103 : decode cX8_costBy 103 = .ok (.goto 16, 3) := by decide +kernel
theorem dX8_costBy_106 : decode cX8_costBy 106 = .ok (.iload 7, 2) := by decide +kernel
theorem dX8_costBy_108 : decode cX8_costBy 108 = .ok (.bipush 100, 2) := by decide +kernel
theorem dX8_costBy_110 : decode cX8_costBy 110 = .ok (.aload_n 0, 1) := by decide +kernel
theorem dX8_costBy_111 : decode cX8_costBy 111 = .ok (.iload_n 3, 1) := by decide +kernel
theorem dX8_costBy_112 : decode cX8_costBy 112 = .ok (.invokevirtual 180, 3) := by decide +kernel
theorem dX8_costBy_115 : decode cX8_costBy 115 = .ok (.imul, 1) := by decide +kernel
theorem dX8_costBy_116 : decode cX8_costBy 116 = .ok (.iadd, 1) := by decide +kernel
theorem dX8_costBy_117 : decode cX8_costBy 117 = .ok (.iconst 1, 1) := by decide +kernel
theorem dX8_costBy_118 : decode cX8_costBy 118 = .ok (.iadd, 1) := by decide +kernel
theorem dX8_costBy_119 : decode cX8_costBy 119 = .ok (.ireturn, 1) := by decide +kernel
theorem dX8_optionsAt_0 : decode cX8_optionsAt 0 = .ok (.aload_n 0, 1) := by decide +kernel
theorem dX8_optionsAt_1 : decode cX8_optionsAt 1 = .ok (.getfield 23, 3) := by decide +kernel
theorem dX8_optionsAt_4 : decode cX8_optionsAt 4 = .ok (.iload_n 1, 1) := by decide +kernel
theorem dX8_optionsAt_5 : decode cX8_optionsAt 5 = .ok (.iaload, 1) := by decide +kernel
theorem dX8_optionsAt_6 : decode cX8_optionsAt 6 = .ok (.iconst (-1), 1) := by decide +kernel
theorem dX8_optionsAt_7 : decode cX8_optionsAt 7 = .ok (.if_icmp .ne 8, 3) := by decide +kernel
theorem dX8_optionsAt_10 : decode cX8_optionsAt 10 = .ok (.bipush 6, 2) := by decide +kernel
theorem dX8_optionsAt_12 : decode cX8_optionsAt 12 = .ok (.goto 4, 3) := by decide +kernel
theorem dX8_optionsAt_15 : decode cX8_optionsAt 15 = .ok (.iconst 0, 1) := by decide +kernel
theorem dX8_optionsAt_16 : decode cX8_optionsAt 16 = .ok (.ireturn, 1) := by decide +kernel
theorem dX8_setLeast_0 : decode cX8_setLeast 0 = .ok (.iconst 0, 1) := by decide +kernel
theorem dX8_setLeast_1 : decode cX8_setLeast 1 = .ok (.istore_n 3, 1) := by decide +kernel
theorem dX8_setLeast_2 : decode cX8_setLeast 2 = .ok (.iload_n 3, 1) := by decide +kernel
theorem dX8_setLeast_3 : decode cX8_setLeast 3 = .ok (.bipush 30, 2) := by decide +kernel
theorem dX8_setLeast_5 : decode cX8_setLeast 5 = .ok (.if_icmp .gt 23, 3) := by decide +kernel
theorem dX8_setLeast_8 : decode cX8_setLeast 8 = .ok (.aload_n 0, 1) := by decide +kernel
theorem dX8_setLeast_9 : decode cX8_setLeast 9 = .ok (.getfield 41, 3) := by decide +kernel
theorem dX8_setLeast_12 : decode cX8_setLeast 12 = .ok (.aload_n 0, 1) := by decide +kernel
theorem dX8_setLeast_13 : decode cX8_setLeast 13 = .ok (.getfield 80, 3) := by decide +kernel
theorem dX8_setLeast_16 : decode cX8_setLeast 16 = .ok (.iload_n 3, 1) := by decide +kernel
theorem dX8_setLeast_17 : decode cX8_setLeast 17 = .ok (.invokestatic 203, 3) := by decide +kernel
theorem dX8_setLeast_20 : decode cX8_setLeast 20 = .ok (.iconst 0, 1) := by decide +kernel
theorem dX8_setLeast_21 : decode cX8_setLeast 21 = .ok (.iastore, 1) := by decide +kernel
theorem dX8_setLeast_22 : decode cX8_setLeast 22 = .ok (.iinc 3 1, 3) := by decide +kernel
theorem dX8_setLeast_25 : decode cX8_setLeast 25 = .ok (.goto (-23), 3) := by decide +kernel
theorem dX8_setLeast_28 : decode cX8_setLeast 28 = .ok (.aload_n 0, 1) := by decide +kernel
theorem dX8_setLeast_29 : decode cX8_setLeast 29 = .ok (.getfield 80, 3) := by decide +kernel
theorem dX8_setLeast_32 : decode cX8_setLeast 32 = .ok (.iconst 1, 1) := by decide +kernel
theorem dX8_setLeast_33 : decode cX8_setLeast 33 = .ok (.isub, 1) := by decide +kernel
theorem dX8_setLeast_34 : decode cX8_setLeast 34 = .ok (.istore_n 3, 1) := by decide +kernel
theorem dX8_setLeast_35 : decode cX8_setLeast 35 = .ok (.iload_n 3, 1) := by decide +kernel
theorem dX8_setLeast_36 : decode cX8_setLeast 36 = .ok (.ifCond .lt 78, 3) := by decide +kernel
theorem dX8_setLeast_39 : decode cX8_setLeast 39 = .ok (.iconst 0, 1) := by decide +kernel
theorem dX8_setLeast_40 : decode cX8_setLeast 40 = .ok (.istore 4, 2) := by decide +kernel
theorem dX8_setLeast_42 : decode cX8_setLeast 42 = .ok (.iload 4, 2) := by decide +kernel
theorem dX8_setLeast_44 : decode cX8_setLeast 44 = .ok (.iload_n 1, 1) := by decide +kernel
theorem dX8_setLeast_45 : decode cX8_setLeast 45 = .ok (.if_icmp .gt 63, 3) := by decide +kernel
theorem dX8_setLeast_48 : decode cX8_setLeast 48 = .ok (.ldc 202, 2) := by decide +kernel
theorem dX8_setLeast_50 : decode cX8_setLeast 50 = .ok (.istore 5, 2) := by decide +kernel
theorem dX8_setLeast_52 : decode cX8_setLeast 52 = .ok (.iconst (-1), 1) := by decide +kernel
theorem dX8_setLeast_53 : decode cX8_setLeast 53 = .ok (.istore 6, 2) := by decide +kernel
theorem dX8_setLeast_55 : decode cX8_setLeast 55 = .ok (.iload 6, 2) := by decide +kernel
theorem dX8_setLeast_57 : decode cX8_setLeast 57 = .ok (.aload_n 0, 1) := by decide +kernel
theorem dX8_setLeast_58 : decode cX8_setLeast 58 = .ok (.iload_n 3, 1) := by decide +kernel
theorem dX8_setLeast_59 : decode cX8_setLeast 59 = .ok (.invokevirtual 206, 3) := by decide +kernel
theorem dX8_setLeast_62 : decode cX8_setLeast 62 = .ok (.if_icmp .ge 27, 3) := by decide +kernel
theorem dX8_setLeast_65 : decode cX8_setLeast 65 = .ok (.iload 5, 2) := by decide +kernel
theorem dX8_setLeast_67 : decode cX8_setLeast 67 = .ok (.aload_n 0, 1) := by decide +kernel
theorem dX8_setLeast_68 : decode cX8_setLeast 68 = .ok (.iload_n 3, 1) := by decide +kernel
theorem dX8_setLeast_69 : decode cX8_setLeast 69 = .ok (.iload 4, 2) := by decide +kernel
theorem dX8_setLeast_71 : decode cX8_setLeast 71 = .ok (.iload 6, 2) := by decide +kernel
theorem dX8_setLeast_73 : decode cX8_setLeast 73 = .ok (.iload_n 1, 1) := by decide +kernel
theorem dX8_setLeast_74 : decode cX8_setLeast 74 = .ok (.iload_n 2, 1) := by decide +kernel
theorem dX8_setLeast_75 : decode cX8_setLeast 75 = .ok (.invokevirtual 209, 3) := by decide +kernel
theorem dX8_setLeast_78 : decode cX8_setLeast 78 = .ok (.invokestatic 173, 3) := by decide +kernel
theorem dX8_setLeast_81 : decode cX8_setLeast 81 = .ok (.istore 5, 2) := by decide +kernel
theorem dX8_setLeast_83 : decode cX8_setLeast 83 = .ok (.iinc 6 1, 3) := by decide +kernel
theorem dX8_setLeast_86 : decode cX8_setLeast 86 = .ok (.goto (-31), 3) := by decide +kernel
theorem dX8_setLeast_89 : decode cX8_setLeast 89 = .ok (.aload_n 0, 1) := by decide +kernel
theorem dX8_setLeast_90 : decode cX8_setLeast 90 = .ok (.getfield 41, 3) := by decide +kernel
theorem dX8_setLeast_93 : decode cX8_setLeast 93 = .ok (.iload_n 3, 1) := by decide +kernel
theorem dX8_setLeast_94 : decode cX8_setLeast 94 = .ok (.iload 4, 2) := by decide +kernel
theorem dX8_setLeast_96 : decode cX8_setLeast 96 = .ok (.invokestatic 203, 3) := by decide +kernel
theorem dX8_setLeast_99 : decode cX8_setLeast 99 = .ok (.iload 5, 2) := by decide +kernel
theorem dX8_setLeast_101 : decode cX8_setLeast 101 = .ok (.iastore, 1) := by decide +kernel
theorem dX8_setLeast_102 : decode cX8_setLeast 102 = .ok (.iinc 4 1, 3) := by decide +kernel
theorem dX8_setLeast_105 : decode cX8_setLeast 105 = .ok (.goto (-63), 3) := by decide +kernel
theorem dX8_setLeast_108 : decode cX8_setLeast 108 = .ok (.iinc 3 (-1), 3) := by decide +kernel
theorem dX8_setLeast_111 : decode cX8_setLeast 111 = .ok (.goto (-76), 3) := by decide +kernel
theorem dX8_setLeast_114 : decode cX8_setLeast 114 = .ok (.return_, 1) := by decide +kernel
theorem dX8_cheapest_0 : decode cX8_cheapest 0 = .ok (.iload_n 1, 1) := by decide +kernel
theorem dX8_cheapest_1 : decode cX8_cheapest 1 = .ok (.iconst 1, 1) := by decide +kernel
theorem dX8_cheapest_2 : decode cX8_cheapest 2 = .ok (.bipush 30, 2) := by decide +kernel
theorem dX8_cheapest_4 : decode cX8_cheapest 4 = .ok (.invokestatic 95, 3) := by decide +kernel
theorem dX8_cheapest_7 : decode cX8_cheapest 7 = .ok (.ifCond .eq 17, 3) := by decide +kernel
theorem dX8_cheapest_10 : decode cX8_cheapest 10 = .ok (.iload_n 2, 1) := by decide +kernel
theorem dX8_cheapest_11 : decode cX8_cheapest 11 = .ok (.iconst 0, 1) := by decide +kernel
theorem dX8_cheapest_12 : decode cX8_cheapest 12 = .ok (.iconst 1, 1) := by decide +kernel
theorem dX8_cheapest_13 : decode cX8_cheapest 13 = .ok (.invokestatic 95, 3) := by decide +kernel
theorem dX8_cheapest_16 : decode cX8_cheapest 16 = .ok (.ifCond .eq 8, 3) := by decide +kernel
theorem dX8_cheapest_19 : decode cX8_cheapest 19 = .ok (.iload_n 3, 1) := by decide +kernel
theorem dX8_cheapest_20 : decode cX8_cheapest 20 = .ok (.iconst (-1), 1) := by decide +kernel
theorem dX8_cheapest_21 : decode cX8_cheapest 21 = .ok (.if_icmp .ge 8, 3) := by decide +kernel
theorem dX8_cheapest_24 : decode cX8_cheapest 24 = .ok (.aload_n 0, 1) := by decide +kernel
theorem dX8_cheapest_25 : decode cX8_cheapest 25 = .ok (.invokevirtual 121, 3) := by decide +kernel
theorem dX8_cheapest_28 : decode cX8_cheapest 28 = .ok (.ireturn, 1) := by decide +kernel
theorem dX8_cheapest_29 : decode cX8_cheapest 29 = .ok (.iload_n 2, 1) := by decide +kernel
theorem dX8_cheapest_30 : decode cX8_cheapest 30 = .ok (.iconst 1, 1) := by decide +kernel
theorem dX8_cheapest_31 : decode cX8_cheapest 31 = .ok (.if_icmp .ne 7, 3) := by decide +kernel
theorem dX8_cheapest_34 : decode cX8_cheapest 34 = .ok (.iconst 1, 1) := by decide +kernel
theorem dX8_cheapest_35 : decode cX8_cheapest 35 = .ok (.goto 4, 3) := by decide +kernel
theorem dX8_cheapest_38 : decode cX8_cheapest 38 = .ok (.iconst 0, 1) := by decide +kernel
theorem dX8_cheapest_39 : decode cX8_cheapest 39 = .ok (.istore 4, 2) := by decide +kernel
theorem dX8_cheapest_41 : decode cX8_cheapest 41 = .ok (.aload_n 0, 1) := by decide +kernel
theorem dX8_cheapest_42 : decode cX8_cheapest 42 = .ok (.iload_n 1, 1) := by decide +kernel
theorem dX8_cheapest_43 : decode cX8_cheapest 43 = .ok (.iload 4, 2) := by decide +kernel
theorem dX8_cheapest_45 : decode cX8_cheapest 45 = .ok (.invokevirtual 213, 3) := by decide +kernel
theorem dX8_cheapest_48 : decode cX8_cheapest 48 = .ok (.aload_n 0, 1) := by decide +kernel
theorem dX8_cheapest_49 : decode cX8_cheapest 49 = .ok (.getfield 41, 3) := by decide +kernel
theorem dX8_cheapest_52 : decode cX8_cheapest 52 = .ok (.iconst 0, 1) := by decide +kernel
theorem dX8_cheapest_53 : decode cX8_cheapest 53 = .ok (.iload_n 1, 1) := by decide +kernel
theorem dX8_cheapest_54 : decode cX8_cheapest 54 = .ok (.invokestatic 203, 3) := by decide +kernel
theorem dX8_cheapest_57 : decode cX8_cheapest 57 = .ok (.iaload, 1) := by decide +kernel
theorem dX8_cheapest_58 : decode cX8_cheapest 58 = .ok (.istore 5, 2) := by decide +kernel
theorem dX8_cheapest_60 : decode cX8_cheapest 60 = .ok (.iload 5, 2) := by decide +kernel
theorem dX8_cheapest_62 : decode cX8_cheapest 62 = .ok (.ldc 202, 2) := by decide +kernel
theorem dX8_cheapest_64 : decode cX8_cheapest 64 = .ok (.if_icmp .ge 11, 3) := by decide +kernel
theorem dX8_cheapest_67 : decode cX8_cheapest 67 = .ok (.iload_n 3, 1) := by decide +kernel
theorem dX8_cheapest_68 : decode cX8_cheapest 68 = .ok (.aload_n 0, 1) := by decide +kernel
theorem dX8_cheapest_69 : decode cX8_cheapest 69 = .ok (.getfield 80, 3) := by decide +kernel
theorem dX8_cheapest_72 : decode cX8_cheapest 72 = .ok (.if_icmp .lt 6, 3) := by decide +kernel
theorem dX8_cheapest_75 : decode cX8_cheapest 75 = .ok (.bipush (-5), 2) := by decide +kernel
theorem dX8_cheapest_77 : decode cX8_cheapest 77 = .ok (.ireturn, 1) := by decide +kernel
theorem dX8_cheapest_78 : decode cX8_cheapest 78 = .ok (.iload_n 1, 1) := by decide +kernel
theorem dX8_cheapest_79 : decode cX8_cheapest 79 = .ok (.istore 6, 2) := by decide +kernel
theorem dX8_cheapest_81 : decode cX8_cheapest 81 = .ok (.iconst 0, 1) := by decide +kernel
theorem dX8_cheapest_82 : decode cX8_cheapest 82 = .ok (.istore 7, 2) := by decide +kernel
theorem dX8_cheapest_84 : decode cX8_cheapest 84 = .ok (.iload 7, 2) := by decide +kernel
theorem dX8_cheapest_86 : decode cX8_cheapest 86 = .ok (.aload_n 0, 1) := by decide +kernel
theorem dX8_cheapest_87 : decode cX8_cheapest 87 = .ok (.getfield 80, 3) := by decide +kernel
theorem dX8_cheapest_90 : decode cX8_cheapest 90 = .ok (.if_icmp .ge 94, 3) := by decide +kernel
theorem dX8_cheapest_93 : decode cX8_cheapest 93 = .ok (.iconst (-1), 1) := by decide +kernel
theorem dX8_cheapest_94 : decode cX8_cheapest 94 = .ok (.istore 8, 2) := by decide +kernel
theorem dX8_cheapest_96 : decode cX8_cheapest 96 = .ok (.aload_n 0, 1) := by decide +kernel
theorem dX8_cheapest_97 : decode cX8_cheapest 97 = .ok (.iload 7, 2) := by decide +kernel
theorem dX8_cheapest_99 : decode cX8_cheapest 99 = .ok (.iload 6, 2) := by decide +kernel
theorem dX8_cheapest_101 : decode cX8_cheapest 101 = .ok (.iload 8, 2) := by decide +kernel
theorem dX8_cheapest_103 : decode cX8_cheapest 103 = .ok (.iload_n 1, 1) := by decide +kernel
theorem dX8_cheapest_104 : decode cX8_cheapest 104 = .ok (.iload 4, 2) := by decide +kernel
theorem dX8_cheapest_106 : decode cX8_cheapest 106 = .ok (.invokevirtual 209, 3) := by decide +kernel
theorem dX8_cheapest_109 : decode cX8_cheapest 109 = .ok (.aload_n 0, 1) := by decide +kernel
theorem dX8_cheapest_110 : decode cX8_cheapest 110 = .ok (.getfield 41, 3) := by decide +kernel
theorem dX8_cheapest_113 : decode cX8_cheapest 113 = .ok (.iload 7, 2) := by decide +kernel
theorem dX8_cheapest_115 : decode cX8_cheapest 115 = .ok (.iload 6, 2) := by decide +kernel
theorem dX8_cheapest_117 : decode cX8_cheapest 117 = .ok (.invokestatic 203, 3) := by decide +kernel
theorem dX8_cheapest_120 : decode cX8_cheapest 120 = .ok (.iaload, 1) := by decide +kernel
theorem dX8_cheapest_121 : decode cX8_cheapest 121 = .ok (.if_icmp .eq 9, 3) := by decide +kernel
theorem dX8_cheapest_124 : decode cX8_cheapest 124 = .ok (.iinc 8 1, 3) := by decide +kernel
theorem dX8_cheapest_127 : decode cX8_cheapest 127 = .ok (.goto (-31), 3) := by decide +kernel
theorem dX8_cheapest_130 : decode cX8_cheapest 130 = .ok (.aload_n 0, 1) := by decide +kernel
theorem dX8_cheapest_131 : decode cX8_cheapest 131 = .ok (.getfield 44, 3) := by decide +kernel
theorem dX8_cheapest_134 : decode cX8_cheapest 134 = .ok (.iload 7, 2) := by decide +kernel
theorem dX8_cheapest_136 : decode cX8_cheapest 136 = .ok (.iload 8, 2) := by decide +kernel
theorem dX8_cheapest_138 : decode cX8_cheapest 138 = .ok (.iastore, 1) := by decide +kernel
theorem dX8_cheapest_139 : decode cX8_cheapest 139 = .ok (.aload_n 0, 1) := by decide +kernel
theorem dX8_cheapest_140 : decode cX8_cheapest 140 = .ok (.getfield 23, 3) := by decide +kernel
theorem dX8_cheapest_143 : decode cX8_cheapest 143 = .ok (.iload 7, 2) := by decide +kernel
theorem dX8_cheapest_145 : decode cX8_cheapest 145 = .ok (.iaload, 1) := by decide +kernel
theorem dX8_cheapest_146 : decode cX8_cheapest 146 = .ok (.iconst (-1), 1) := by decide +kernel
theorem dX8_cheapest_147 : decode cX8_cheapest 147 = .ok (.if_icmp .eq 13, 3) := by decide +kernel
theorem dX8_cheapest_150 : decode cX8_cheapest 150 = .ok (.aload_n 0, 1) := by decide +kernel
theorem dX8_cheapest_151 : decode cX8_cheapest 151 = .ok (.getfield 23, 3) := by decide +kernel
theorem dX8_cheapest_154 : decode cX8_cheapest 154 = .ok (.iload 7, 2) := by decide +kernel
theorem dX8_cheapest_156 : decode cX8_cheapest 156 = .ok (.iaload, 1) := by decide +kernel
theorem dX8_cheapest_157 : decode cX8_cheapest 157 = .ok (.goto 5, 3) := by decide +kernel
theorem dX8_cheapest_160 : decode cX8_cheapest 160 = .ok (.iload 8, 2) := by decide +kernel
theorem dX8_cheapest_162 : decode cX8_cheapest 162 = .ok (.iload 6, 2) := by decide +kernel
theorem dX8_cheapest_164 : decode cX8_cheapest 164 = .ok (.aload_n 0, 1) := by decide +kernel
theorem dX8_cheapest_165 : decode cX8_cheapest 165 = .ok (.getfield 20, 3) := by decide +kernel
theorem dX8_cheapest_168 : decode cX8_cheapest 168 = .ok (.iload 7, 2) := by decide +kernel
theorem dX8_cheapest_170 : decode cX8_cheapest 170 = .ok (.iaload, 1) := by decide +kernel
theorem dX8_cheapest_171 : decode cX8_cheapest 171 = .ok (.isub, 1) := by decide +kernel
theorem dX8_cheapest_172 : decode cX8_cheapest 172 = .ok (.iload_n 1, 1) := by decide +kernel
theorem dX8_cheapest_173 : decode cX8_cheapest 173 = .ok (.invokestatic 189, 3) := by decide +kernel
theorem dX8_cheapest_176 : decode cX8_cheapest 176 = .ok (.istore 6, 2) := by decide +kernel
theorem dX8_cheapest_178 : decode cX8_cheapest 178 = .ok (.iinc 7 1, 3) := by decide +kernel
theorem dX8_cheapest_181 : decode cX8_cheapest 181 = .ok (.goto (-97), 3) := by decide +kernel
theorem dX8_cheapest_184 : decode cX8_cheapest 184 = .ok (.iload_n 3, 1) := by decide +kernel
theorem dX8_cheapest_185 : decode cX8_cheapest 185 = .ok (.iconst (-1), 1) := by decide +kernel
theorem dX8_cheapest_186 : decode cX8_cheapest 186 = .ok (.if_icmp .ne 11, 3) := by decide +kernel
theorem dX8_cheapest_189 : decode cX8_cheapest 189 = .ok (.iload 5, 2) := by decide +kernel
theorem dX8_cheapest_191 : decode cX8_cheapest 191 = .ok (.bipush 100, 2) := by decide +kernel
theorem dX8_cheapest_193 : decode cX8_cheapest 193 = .ok (.idiv, 1) := by decide +kernel
theorem dX8_cheapest_194 : decode cX8_cheapest 194 = .ok (.goto 9, 3) := by decide +kernel
theorem dX8_cheapest_197 : decode cX8_cheapest 197 = .ok (.aload_n 0, 1) := by decide +kernel
theorem dX8_cheapest_198 : decode cX8_cheapest 198 = .ok (.getfield 44, 3) := by decide +kernel
theorem dX8_cheapest_201 : decode cX8_cheapest 201 = .ok (.iload_n 3, 1) := by decide +kernel
theorem dX8_cheapest_202 : decode cX8_cheapest 202 = .ok (.iaload, 1) := by decide +kernel
theorem dX8_cheapest_203 : decode cX8_cheapest 203 = .ok (.ireturn, 1) := by decide +kernel
theorem dX8_reach_0 : decode cX8_reach 0 = .ok (.iload_n 1, 1) := by decide +kernel
theorem dX8_reach_1 : decode cX8_reach 1 = .ok (.iconst 0, 1) := by decide +kernel
theorem dX8_reach_2 : decode cX8_reach 2 = .ok (.sipush 999, 3) := by decide +kernel
theorem dX8_reach_5 : decode cX8_reach 5 = .ok (.invokestatic 95, 3) := by decide +kernel
theorem dX8_reach_8 : decode cX8_reach 8 = .ok (.ifCond .ne 8, 3) := by decide +kernel
theorem dX8_reach_11 : decode cX8_reach 11 = .ok (.aload_n 0, 1) := by decide +kernel
theorem dX8_reach_12 : decode cX8_reach 12 = .ok (.invokevirtual 103, 3) := by decide +kernel
theorem dX8_reach_15 : decode cX8_reach 15 = .ok (.ireturn, 1) := by decide +kernel
theorem dX8_reach_16 : decode cX8_reach 16 = .ok (.iconst 0, 1) := by decide +kernel
theorem dX8_reach_17 : decode cX8_reach 17 = .ok (.istore_n 2, 1) := by decide +kernel
theorem dX8_reach_18 : decode cX8_reach 18 = .ok (.iload_n 2, 1) := by decide +kernel
theorem dX8_reach_19 : decode cX8_reach 19 = .ok (.bipush 30, 2) := by decide +kernel
theorem dX8_reach_21 : decode cX8_reach 21 = .ok (.if_icmp .gt 29, 3) := by decide +kernel
theorem dX8_reach_24 : decode cX8_reach 24 = .ok (.aload_n 0, 1) := by decide +kernel
theorem dX8_reach_25 : decode cX8_reach 25 = .ok (.getfield 47, 3) := by decide +kernel
theorem dX8_reach_28 : decode cX8_reach 28 = .ok (.iload_n 2, 1) := by decide +kernel
theorem dX8_reach_29 : decode cX8_reach 29 = .ok (.iload_n 2, 1) := by decide +kernel
theorem dX8_reach_30 : decode cX8_reach 30 = .ok (.aload_n 0, 1) := by decide +kernel
theorem dX8_reach_31 : decode cX8_reach 31 = .ok (.getfield 13, 3) := by decide +kernel
theorem dX8_reach_34 : decode cX8_reach 34 = .ok (.if_icmp .ne 7, 3) := by decide +kernel
theorem dX8_reach_37 : decode cX8_reach 37 = .ok (.iconst 0, 1) := by decide +kernel
theorem dX8_reach_38 : decode cX8_reach 38 = .ok (.goto 5, 3) := by decide +kernel
theorem dX8_reach_41 : decode cX8_reach 41 = .ok (.ldc 202, 2) := by decide +kernel
theorem dX8_reach_43 : decode cX8_reach 43 = .ok (.iastore, 1) := by decide +kernel
theorem dX8_reach_44 : decode cX8_reach 44 = .ok (.iinc 2 1, 3) := by decide +kernel
theorem dX8_reach_47 : decode cX8_reach 47 = .ok (.goto (-29), 3) := by decide +kernel
theorem dX8_reach_50 : decode cX8_reach 50 = .ok (.iconst 0, 1) := by decide +kernel
theorem dX8_reach_51 : decode cX8_reach 51 = .ok (.istore_n 2, 1) := by decide +kernel
theorem dX8_reach_52 : decode cX8_reach 52 = .ok (.iload_n 2, 1) := by decide +kernel
theorem dX8_reach_53 : decode cX8_reach 53 = .ok (.aload_n 0, 1) := by decide +kernel
theorem dX8_reach_54 : decode cX8_reach 54 = .ok (.getfield 80, 3) := by decide +kernel
theorem dX8_reach_57 : decode cX8_reach 57 = .ok (.if_icmp .ge 207, 3) := by decide +kernel
theorem dX8_reach_60 : decode cX8_reach 60 = .ok (.iconst 0, 1) := by decide +kernel
theorem dX8_reach_61 : decode cX8_reach 61 = .ok (.istore_n 3, 1) := by decide +kernel
theorem dX8_reach_62 : decode cX8_reach 62 = .ok (.iconst 0, 1) := by decide +kernel
theorem dX8_reach_63 : decode cX8_reach 63 = .ok (.istore 4, 2) := by decide +kernel
theorem dX8_reach_65 : decode cX8_reach 65 = .ok (.iload 4, 2) := by decide +kernel
theorem dX8_reach_67 : decode cX8_reach 67 = .ok (.bipush 30, 2) := by decide +kernel
theorem dX8_reach_69 : decode cX8_reach 69 = .ok (.if_icmp .gt 18, 3) := by decide +kernel
theorem dX8_reach_72 : decode cX8_reach 72 = .ok (.aload_n 0, 1) := by decide +kernel
theorem dX8_reach_73 : decode cX8_reach 73 = .ok (.getfield 50, 3) := by decide +kernel
theorem dX8_reach_76 : decode cX8_reach 76 = .ok (.iload 4, 2) := by decide +kernel
theorem dX8_reach_78 : decode cX8_reach 78 = .ok (.ldc 202, 2) := by decide +kernel
theorem dX8_reach_80 : decode cX8_reach 80 = .ok (.iastore, 1) := by decide +kernel
theorem dX8_reach_81 : decode cX8_reach 81 = .ok (.iinc 4 1, 3) := by decide +kernel
theorem dX8_reach_84 : decode cX8_reach 84 = .ok (.goto (-19), 3) := by decide +kernel
theorem dX8_reach_87 : decode cX8_reach 87 = .ok (.aload_n 0, 1) := by decide +kernel
theorem dX8_reach_88 : decode cX8_reach 88 = .ok (.getfield 20, 3) := by decide +kernel
theorem dX8_reach_91 : decode cX8_reach 91 = .ok (.iload_n 2, 1) := by decide +kernel
theorem dX8_reach_92 : decode cX8_reach 92 = .ok (.iaload, 1) := by decide +kernel
theorem dX8_reach_93 : decode cX8_reach 93 = .ok (.istore 4, 2) := by decide +kernel
theorem dX8_reach_95 : decode cX8_reach 95 = .ok (.iload 4, 2) := by decide +kernel
theorem dX8_reach_97 : decode cX8_reach 97 = .ok (.aload_n 0, 1) := by decide +kernel
theorem dX8_reach_98 : decode cX8_reach 98 = .ok (.getfield 13, 3) := by decide +kernel
theorem dX8_reach_101 : decode cX8_reach 101 = .ok (.if_icmp .gt 121, 3) := by decide +kernel
theorem dX8_reach_104 : decode cX8_reach 104 = .ok (.aload_n 0, 1) := by decide +kernel
theorem dX8_reach_105 : decode cX8_reach 105 = .ok (.getfield 47, 3) := by decide +kernel
theorem dX8_reach_108 : decode cX8_reach 108 = .ok (.iload 4, 2) := by decide +kernel
theorem dX8_reach_110 : decode cX8_reach 110 = .ok (.iaload, 1) := by decide +kernel
theorem dX8_reach_111 : decode cX8_reach 111 = .ok (.iload_n 1, 1) := by decide +kernel
theorem dX8_reach_112 : decode cX8_reach 112 = .ok (.if_icmp .gt 104, 3) := by decide +kernel
theorem dX8_reach_115 : decode cX8_reach 115 = .ok (.iconst 1, 1) := by decide +kernel
theorem dX8_reach_116 : decode cX8_reach 116 = .ok (.istore_n 3, 1) := by decide +kernel
theorem dX8_reach_117 : decode cX8_reach 117 = .ok (.iconst (-1), 1) := by decide +kernel
theorem dX8_reach_118 : decode cX8_reach 118 = .ok (.istore 5, 2) := by decide +kernel
theorem dX8_reach_120 : decode cX8_reach 120 = .ok (.iload 5, 2) := by decide +kernel
theorem dX8_reach_122 : decode cX8_reach 122 = .ok (.aload_n 0, 1) := by decide +kernel
theorem dX8_reach_123 : decode cX8_reach 123 = .ok (.iload_n 2, 1) := by decide +kernel
theorem dX8_reach_124 : decode cX8_reach 124 = .ok (.invokevirtual 206, 3) := by decide +kernel
theorem dX8_reach_127 : decode cX8_reach 127 = .ok (.if_icmp .ge 89, 3) := by decide +kernel
theorem dX8_reach_130 : decode cX8_reach 130 = .ok (.aload_n 0, 1) := by decide +kernel
theorem dX8_reach_131 : decode cX8_reach 131 = .ok (.getfield 23, 3) := by decide +kernel
theorem dX8_reach_134 : decode cX8_reach 134 = .ok (.iload_n 2, 1) := by decide +kernel
theorem dX8_reach_135 : decode cX8_reach 135 = .ok (.iaload, 1) := by decide +kernel
theorem dX8_reach_136 : decode cX8_reach 136 = .ok (.iconst (-1), 1) := by decide +kernel
theorem dX8_reach_137 : decode cX8_reach 137 = .ok (.if_icmp .eq 12, 3) := by decide +kernel
theorem dX8_reach_140 : decode cX8_reach 140 = .ok (.aload_n 0, 1) := by decide +kernel
theorem dX8_reach_141 : decode cX8_reach 141 = .ok (.getfield 23, 3) := by decide +kernel
theorem dX8_reach_144 : decode cX8_reach 144 = .ok (.iload_n 2, 1) := by decide +kernel
theorem dX8_reach_145 : decode cX8_reach 145 = .ok (.iaload, 1) := by decide +kernel
theorem dX8_reach_146 : decode cX8_reach 146 = .ok (.goto 5, 3) := by decide +kernel
theorem dX8_reach_149 : decode cX8_reach 149 = .ok (.iload 5, 2) := by decide +kernel
theorem dX8_reach_151 : decode cX8_reach 151 = .ok (.iload 4, 2) := by decide +kernel
theorem dX8_reach_153 : decode cX8_reach 153 = .ok (.aload_n 0, 1) := by decide +kernel
theorem dX8_reach_154 : decode cX8_reach 154 = .ok (.getfield 20, 3) := by decide +kernel
theorem dX8_reach_157 : decode cX8_reach 157 = .ok (.iload_n 2, 1) := by decide +kernel
theorem dX8_reach_158 : decode cX8_reach 158 = .ok (.iaload, 1) := by decide +kernel
theorem dX8_reach_159 : decode cX8_reach 159 = .ok (.isub, 1) := by decide +kernel
theorem dX8_reach_160 : decode cX8_reach 160 = .ok (.aload_n 0, 1) := by decide +kernel
theorem dX8_reach_161 : decode cX8_reach 161 = .ok (.getfield 13, 3) := by decide +kernel
theorem dX8_reach_164 : decode cX8_reach 164 = .ok (.invokestatic 189, 3) := by decide +kernel
theorem dX8_reach_167 : decode cX8_reach 167 = .ok (.istore 6, 2) := by decide +kernel
theorem dX8_reach_169 : decode cX8_reach 169 = .ok (.aload_n 0, 1) := by decide +kernel
theorem dX8_reach_170 : decode cX8_reach 170 = .ok (.getfield 50, 3) := by decide +kernel
theorem dX8_reach_173 : decode cX8_reach 173 = .ok (.iload 6, 2) := by decide +kernel
theorem dX8_reach_175 : decode cX8_reach 175 = .ok (.aload_n 0, 1) := by decide +kernel
theorem dX8_reach_176 : decode cX8_reach 176 = .ok (.getfield 50, 3) := by decide +kernel
theorem dX8_reach_179 : decode cX8_reach 179 = .ok (.iload 6, 2) := by decide +kernel
theorem dX8_reach_181 : decode cX8_reach 181 = .ok (.iaload, 1) := by decide +kernel
theorem dX8_reach_182 : decode cX8_reach 182 = .ok (.aload_n 0, 1) := by decide +kernel
theorem dX8_reach_183 : decode cX8_reach 183 = .ok (.getfield 47, 3) := by decide +kernel
theorem dX8_reach_186 : decode cX8_reach 186 = .ok (.iload 4, 2) := by decide +kernel
theorem dX8_reach_188 : decode cX8_reach 188 = .ok (.iaload, 1) := by decide +kernel
theorem dX8_reach_189 : decode cX8_reach 189 = .ok (.iload 5, 2) := by decide +kernel
theorem dX8_reach_191 : decode cX8_reach 191 = .ok (.iconst (-1), 1) := by decide +kernel
theorem dX8_reach_192 : decode cX8_reach 192 = .ok (.if_icmp .ne 7, 3) := by decide +kernel
theorem dX8_reach_195 : decode cX8_reach 195 = .ok (.iconst 0, 1) := by decide +kernel
theorem dX8_reach_196 : decode cX8_reach 196 = .ok (.goto 9, 3) := by decide +kernel
theorem dX8_reach_199 : decode cX8_reach 199 = .ok (.aload_n 0, 1) := by decide +kernel
theorem dX8_reach_200 : decode cX8_reach 200 = .ok (.iload 5, 2) := by decide +kernel
theorem dX8_reach_202 : decode cX8_reach 202 = .ok (.invokevirtual 180, 3) := by decide +kernel
theorem dX8_reach_205 : decode cX8_reach 205 = .ok (.iadd, 1) := by decide +kernel
theorem dX8_reach_206 : decode cX8_reach 206 = .ok (.invokestatic 173, 3) := by decide +kernel
theorem dX8_reach_209 : decode cX8_reach 209 = .ok (.iastore, 1) := by decide +kernel
theorem dX8_reach_210 : decode cX8_reach 210 = .ok (.iinc 5 1, 3) := by decide +kernel
theorem dX8_reach_213 : decode cX8_reach 213 = .ok (.goto (-93), 3) := by decide +kernel
theorem dX8_reach_216 : decode cX8_reach 216 = .ok (.iinc 4 1, 3) := by decide +kernel
theorem dX8_reach_219 : decode cX8_reach 219 = .ok (.goto (-124), 3) := by decide +kernel
theorem dX8_reach_222 : decode cX8_reach 222 = .ok (.iload_n 3, 1) := by decide +kernel
theorem dX8_reach_223 : decode cX8_reach 223 = .ok (.ifCond .ne 5, 3) := by decide +kernel
theorem dX8_reach_226 : decode cX8_reach 226 = .ok (.iload_n 2, 1) := by decide +kernel
theorem dX8_reach_227 : decode cX8_reach 227 = .ok (.ireturn, 1) := by decide +kernel
theorem dX8_reach_228 : decode cX8_reach 228 = .ok (.iconst 0, 1) := by decide +kernel
theorem dX8_reach_229 : decode cX8_reach 229 = .ok (.istore 4, 2) := by decide +kernel
theorem dX8_reach_231 : decode cX8_reach 231 = .ok (.iload 4, 2) := by decide +kernel
theorem dX8_reach_233 : decode cX8_reach 233 = .ok (.bipush 30, 2) := by decide +kernel
theorem dX8_reach_235 : decode cX8_reach 235 = .ok (.if_icmp .gt 23, 3) := by decide +kernel
theorem dX8_reach_238 : decode cX8_reach 238 = .ok (.aload_n 0, 1) := by decide +kernel
theorem dX8_reach_239 : decode cX8_reach 239 = .ok (.getfield 47, 3) := by decide +kernel
theorem dX8_reach_242 : decode cX8_reach 242 = .ok (.iload 4, 2) := by decide +kernel
theorem dX8_reach_244 : decode cX8_reach 244 = .ok (.aload_n 0, 1) := by decide +kernel
theorem dX8_reach_245 : decode cX8_reach 245 = .ok (.getfield 50, 3) := by decide +kernel
theorem dX8_reach_248 : decode cX8_reach 248 = .ok (.iload 4, 2) := by decide +kernel
theorem dX8_reach_250 : decode cX8_reach 250 = .ok (.iaload, 1) := by decide +kernel
theorem dX8_reach_251 : decode cX8_reach 251 = .ok (.iastore, 1) := by decide +kernel
theorem dX8_reach_252 : decode cX8_reach 252 = .ok (.iinc 4 1, 3) := by decide +kernel
theorem dX8_reach_255 : decode cX8_reach 255 = .ok (.goto (-24), 3) := by decide +kernel
theorem dX8_reach_258 : decode cX8_reach 258 = .ok (.iinc 2 1, 3) := by decide +kernel
theorem dX8_reach_261 : decode cX8_reach 261 = .ok (.goto (-209), 3) := by decide +kernel
theorem dX8_reach_264 : decode cX8_reach 264 = .ok (.aload_n 0, 1) := by decide +kernel
theorem dX8_reach_265 : decode cX8_reach 265 = .ok (.getfield 80, 3) := by decide +kernel
theorem dX8_reach_268 : decode cX8_reach 268 = .ok (.ireturn, 1) := by decide +kernel
theorem dX8_readBy_0 : decode cX8_readBy 0 = .ok (.aload_n 0, 1) := by decide +kernel
theorem dX8_readBy_1 : decode cX8_readBy 1 = .ok (.getfield 13, 3) := by decide +kernel
theorem dX8_readBy_4 : decode cX8_readBy 4 = .ok (.istore_n 1, 1) := by decide +kernel
theorem dX8_readBy_5 : decode cX8_readBy 5 = .ok (.iconst 0, 1) := by decide +kernel
theorem dX8_readBy_6 : decode cX8_readBy 6 = .ok (.istore_n 2, 1) := by decide +kernel
theorem dX8_readBy_7 : decode cX8_readBy 7 = .ok (.iload_n 2, 1) := by decide +kernel
theorem dX8_readBy_8 : decode cX8_readBy 8 = .ok (.aload_n 0, 1) := by decide +kernel
theorem dX8_readBy_9 : decode cX8_readBy 9 = .ok (.getfield 80, 3) := by decide +kernel
theorem dX8_readBy_12 : decode cX8_readBy 12 = .ok (.if_icmp .ge 45, 3) := by decide +kernel
theorem dX8_readBy_15 : decode cX8_readBy 15 = .ok (.aload_n 0, 1) := by decide +kernel
theorem dX8_readBy_16 : decode cX8_readBy 16 = .ok (.getfield 20, 3) := by decide +kernel
theorem dX8_readBy_19 : decode cX8_readBy 19 = .ok (.aload_n 0, 1) := by decide +kernel
theorem dX8_readBy_20 : decode cX8_readBy 20 = .ok (.getfield 53, 3) := by decide +kernel
theorem dX8_readBy_23 : decode cX8_readBy 23 = .ok (.iload_n 2, 1) := by decide +kernel
theorem dX8_readBy_24 : decode cX8_readBy 24 = .ok (.iaload, 1) := by decide +kernel
theorem dX8_readBy_25 : decode cX8_readBy 25 = .ok (.iaload, 1) := by decide +kernel
theorem dX8_readBy_26 : decode cX8_readBy 26 = .ok (.istore_n 3, 1) := by decide +kernel
theorem dX8_readBy_27 : decode cX8_readBy 27 = .ok (.iload_n 3, 1) := by decide +kernel
theorem dX8_readBy_28 : decode cX8_readBy 28 = .ok (.iload_n 1, 1) := by decide +kernel
theorem dX8_readBy_29 : decode cX8_readBy 29 = .ok (.if_icmp .le 5, 3) := by decide +kernel
theorem dX8_readBy_32 : decode cX8_readBy 32 = .ok (.iload_n 2, 1) := by decide +kernel
theorem dX8_readBy_33 : decode cX8_readBy 33 = .ok (.ireturn, 1) := by decide +kernel
theorem dX8_readBy_34 : decode cX8_readBy 34 = .ok (.aload_n 0, 1) := by decide +kernel
theorem dX8_readBy_35 : decode cX8_readBy 35 = .ok (.getfield 23, 3) := by decide +kernel
theorem dX8_readBy_38 : decode cX8_readBy 38 = .ok (.iload_n 2, 1) := by decide +kernel
theorem dX8_readBy_39 : decode cX8_readBy 39 = .ok (.iaload, 1) := by decide +kernel
theorem dX8_readBy_40 : decode cX8_readBy 40 = .ok (.iload_n 1, 1) := by decide +kernel
theorem dX8_readBy_41 : decode cX8_readBy 41 = .ok (.iload_n 3, 1) := by decide +kernel
theorem dX8_readBy_42 : decode cX8_readBy 42 = .ok (.isub, 1) := by decide +kernel
theorem dX8_readBy_43 : decode cX8_readBy 43 = .ok (.aload_n 0, 1) := by decide +kernel
theorem dX8_readBy_44 : decode cX8_readBy 44 = .ok (.getfield 13, 3) := by decide +kernel
theorem dX8_readBy_47 : decode cX8_readBy 47 = .ok (.invokestatic 189, 3) := by decide +kernel
theorem dX8_readBy_50 : decode cX8_readBy 50 = .ok (.istore_n 1, 1) := by decide +kernel
theorem dX8_readBy_51 : decode cX8_readBy 51 = .ok (.iinc 2 1, 3) := by decide +kernel
theorem dX8_readBy_54 : decode cX8_readBy 54 = .ok (.goto (-47), 3) := by decide +kernel
theorem dX8_readBy_57 : decode cX8_readBy 57 = .ok (.aload_n 0, 1) := by decide +kernel
theorem dX8_readBy_58 : decode cX8_readBy 58 = .ok (.getfield 80, 3) := by decide +kernel
theorem dX8_readBy_61 : decode cX8_readBy 61 = .ok (.ireturn, 1) := by decide +kernel
theorem dX8_nextLine_0 : decode cX8_nextLine 0 = .ok (.aload_n 0, 1) := by decide +kernel
theorem dX8_nextLine_1 : decode cX8_nextLine 1 = .ok (.getfield 80, 3) := by decide +kernel
theorem dX8_nextLine_4 : decode cX8_nextLine 4 = .ok (.iconst 2, 1) := by decide +kernel
theorem dX8_nextLine_5 : decode cX8_nextLine 5 = .ok (.isub, 1) := by decide +kernel
theorem dX8_nextLine_6 : decode cX8_nextLine 6 = .ok (.istore_n 1, 1) := by decide +kernel
theorem dX8_nextLine_7 : decode cX8_nextLine 7 = .ok (.iload_n 1, 1) := by decide +kernel
theorem dX8_nextLine_8 : decode cX8_nextLine 8 = .ok (.ifCond .lt 26, 3) := by decide +kernel
theorem dX8_nextLine_11 : decode cX8_nextLine 11 = .ok (.aload_n 0, 1) := by decide +kernel
theorem dX8_nextLine_12 : decode cX8_nextLine 12 = .ok (.getfield 53, 3) := by decide +kernel
theorem dX8_nextLine_15 : decode cX8_nextLine 15 = .ok (.iload_n 1, 1) := by decide +kernel
theorem dX8_nextLine_16 : decode cX8_nextLine 16 = .ok (.iaload, 1) := by decide +kernel
theorem dX8_nextLine_17 : decode cX8_nextLine 17 = .ok (.aload_n 0, 1) := by decide +kernel
theorem dX8_nextLine_18 : decode cX8_nextLine 18 = .ok (.getfield 53, 3) := by decide +kernel
theorem dX8_nextLine_21 : decode cX8_nextLine 21 = .ok (.iload_n 1, 1) := by decide +kernel
theorem dX8_nextLine_22 : decode cX8_nextLine 22 = .ok (.iconst 1, 1) := by decide +kernel
theorem dX8_nextLine_23 : decode cX8_nextLine 23 = .ok (.iadd, 1) := by decide +kernel
theorem dX8_nextLine_24 : decode cX8_nextLine 24 = .ok (.iaload, 1) := by decide +kernel
theorem dX8_nextLine_25 : decode cX8_nextLine 25 = .ok (.if_icmp .le 9, 3) := by decide +kernel
theorem dX8_nextLine_28 : decode cX8_nextLine 28 = .ok (.iinc 1 (-1), 3) := by decide +kernel
theorem dX8_nextLine_31 : decode cX8_nextLine 31 = .ok (.goto (-24), 3) := by decide +kernel
theorem dX8_nextLine_34 : decode cX8_nextLine 34 = .ok (.iload_n 1, 1) := by decide +kernel
theorem dX8_nextLine_35 : decode cX8_nextLine 35 = .ok (.ifCond .ge 5, 3) := by decide +kernel
theorem dX8_nextLine_38 : decode cX8_nextLine 38 = .ok (.iconst 0, 1) := by decide +kernel
theorem dX8_nextLine_39 : decode cX8_nextLine 39 = .ok (.ireturn, 1) := by decide +kernel
theorem dX8_nextLine_40 : decode cX8_nextLine 40 = .ok (.aload_n 0, 1) := by decide +kernel
theorem dX8_nextLine_41 : decode cX8_nextLine 41 = .ok (.getfield 80, 3) := by decide +kernel
theorem dX8_nextLine_44 : decode cX8_nextLine 44 = .ok (.iconst 1, 1) := by decide +kernel
theorem dX8_nextLine_45 : decode cX8_nextLine 45 = .ok (.isub, 1) := by decide +kernel
theorem dX8_nextLine_46 : decode cX8_nextLine 46 = .ok (.istore_n 2, 1) := by decide +kernel
theorem dX8_nextLine_47 : decode cX8_nextLine 47 = .ok (.aload_n 0, 1) := by decide +kernel
theorem dX8_nextLine_48 : decode cX8_nextLine 48 = .ok (.getfield 53, 3) := by decide +kernel
theorem dX8_nextLine_51 : decode cX8_nextLine 51 = .ok (.iload_n 2, 1) := by decide +kernel
theorem dX8_nextLine_52 : decode cX8_nextLine 52 = .ok (.iaload, 1) := by decide +kernel
theorem dX8_nextLine_53 : decode cX8_nextLine 53 = .ok (.aload_n 0, 1) := by decide +kernel
theorem dX8_nextLine_54 : decode cX8_nextLine 54 = .ok (.getfield 53, 3) := by decide +kernel
theorem dX8_nextLine_57 : decode cX8_nextLine 57 = .ok (.iload_n 1, 1) := by decide +kernel
theorem dX8_nextLine_58 : decode cX8_nextLine 58 = .ok (.iaload, 1) := by decide +kernel
theorem dX8_nextLine_59 : decode cX8_nextLine 59 = .ok (.if_icmp .ge 9, 3) := by decide +kernel
theorem dX8_nextLine_62 : decode cX8_nextLine 62 = .ok (.iinc 2 (-1), 3) := by decide +kernel
theorem dX8_nextLine_65 : decode cX8_nextLine 65 = .ok (.goto (-18), 3) := by decide +kernel
theorem dX8_nextLine_68 : decode cX8_nextLine 68 = .ok (.aload_n 0, 1) := by decide +kernel
theorem dX8_nextLine_69 : decode cX8_nextLine 69 = .ok (.getfield 53, 3) := by decide +kernel
theorem dX8_nextLine_72 : decode cX8_nextLine 72 = .ok (.iload_n 1, 1) := by decide +kernel
theorem dX8_nextLine_73 : decode cX8_nextLine 73 = .ok (.iaload, 1) := by decide +kernel
theorem dX8_nextLine_74 : decode cX8_nextLine 74 = .ok (.istore_n 3, 1) := by decide +kernel
theorem dX8_nextLine_75 : decode cX8_nextLine 75 = .ok (.aload_n 0, 1) := by decide +kernel
theorem dX8_nextLine_76 : decode cX8_nextLine 76 = .ok (.getfield 53, 3) := by decide +kernel
theorem dX8_nextLine_79 : decode cX8_nextLine 79 = .ok (.iload_n 1, 1) := by decide +kernel
theorem dX8_nextLine_80 : decode cX8_nextLine 80 = .ok (.aload_n 0, 1) := by decide +kernel
theorem dX8_nextLine_81 : decode cX8_nextLine 81 = .ok (.getfield 53, 3) := by decide +kernel
theorem dX8_nextLine_84 : decode cX8_nextLine 84 = .ok (.iload_n 2, 1) := by decide +kernel
theorem dX8_nextLine_85 : decode cX8_nextLine 85 = .ok (.iaload, 1) := by decide +kernel
theorem dX8_nextLine_86 : decode cX8_nextLine 86 = .ok (.iastore, 1) := by decide +kernel
theorem dX8_nextLine_87 : decode cX8_nextLine 87 = .ok (.aload_n 0, 1) := by decide +kernel
theorem dX8_nextLine_88 : decode cX8_nextLine 88 = .ok (.getfield 53, 3) := by decide +kernel
theorem dX8_nextLine_91 : decode cX8_nextLine 91 = .ok (.iload_n 2, 1) := by decide +kernel
theorem dX8_nextLine_92 : decode cX8_nextLine 92 = .ok (.iload_n 3, 1) := by decide +kernel
theorem dX8_nextLine_93 : decode cX8_nextLine 93 = .ok (.iastore, 1) := by decide +kernel
theorem dX8_nextLine_94 : decode cX8_nextLine 94 = .ok (.iload_n 1, 1) := by decide +kernel
theorem dX8_nextLine_95 : decode cX8_nextLine 95 = .ok (.iconst 1, 1) := by decide +kernel
theorem dX8_nextLine_96 : decode cX8_nextLine 96 = .ok (.iadd, 1) := by decide +kernel
theorem dX8_nextLine_97 : decode cX8_nextLine 97 = .ok (.istore 4, 2) := by decide +kernel
theorem dX8_nextLine_99 : decode cX8_nextLine 99 = .ok (.aload_n 0, 1) := by decide +kernel
theorem dX8_nextLine_100 : decode cX8_nextLine 100 = .ok (.getfield 80, 3) := by decide +kernel
theorem dX8_nextLine_103 : decode cX8_nextLine 103 = .ok (.iconst 1, 1) := by decide +kernel
theorem dX8_nextLine_104 : decode cX8_nextLine 104 = .ok (.isub, 1) := by decide +kernel
theorem dX8_nextLine_105 : decode cX8_nextLine 105 = .ok (.istore 5, 2) := by decide +kernel
theorem dX8_nextLine_107 : decode cX8_nextLine 107 = .ok (.iload 4, 2) := by decide +kernel
theorem dX8_nextLine_109 : decode cX8_nextLine 109 = .ok (.iload 5, 2) := by decide +kernel
theorem dX8_nextLine_111 : decode cX8_nextLine 111 = .ok (.if_icmp .ge 42, 3) := by decide +kernel
theorem dX8_nextLine_114 : decode cX8_nextLine 114 = .ok (.aload_n 0, 1) := by decide +kernel
theorem dX8_nextLine_115 : decode cX8_nextLine 115 = .ok (.getfield 53, 3) := by decide +kernel
theorem dX8_nextLine_118 : decode cX8_nextLine 118 = .ok (.iload 4, 2) := by decide +kernel
theorem dX8_nextLine_120 : decode cX8_nextLine 120 = .ok (.iaload, 1) := by decide +kernel
theorem dX8_nextLine_121 : decode cX8_nextLine 121 = .ok (.istore_n 3, 1) := by decide +kernel
theorem dX8_nextLine_122 : decode cX8_nextLine 122 = .ok (.aload_n 0, 1) := by decide +kernel
theorem dX8_nextLine_123 : decode cX8_nextLine 123 = .ok (.getfield 53, 3) := by decide +kernel
theorem dX8_nextLine_126 : decode cX8_nextLine 126 = .ok (.iload 4, 2) := by decide +kernel
theorem dX8_nextLine_128 : decode cX8_nextLine 128 = .ok (.aload_n 0, 1) := by decide +kernel
theorem dX8_nextLine_129 : decode cX8_nextLine 129 = .ok (.getfield 53, 3) := by decide +kernel
theorem dX8_nextLine_132 : decode cX8_nextLine 132 = .ok (.iload 5, 2) := by decide +kernel
theorem dX8_nextLine_134 : decode cX8_nextLine 134 = .ok (.iaload, 1) := by decide +kernel
theorem dX8_nextLine_135 : decode cX8_nextLine 135 = .ok (.iastore, 1) := by decide +kernel
theorem dX8_nextLine_136 : decode cX8_nextLine 136 = .ok (.aload_n 0, 1) := by decide +kernel
theorem dX8_nextLine_137 : decode cX8_nextLine 137 = .ok (.getfield 53, 3) := by decide +kernel
theorem dX8_nextLine_140 : decode cX8_nextLine 140 = .ok (.iload 5, 2) := by decide +kernel
theorem dX8_nextLine_142 : decode cX8_nextLine 142 = .ok (.iload_n 3, 1) := by decide +kernel
theorem dX8_nextLine_143 : decode cX8_nextLine 143 = .ok (.iastore, 1) := by decide +kernel
theorem dX8_nextLine_144 : decode cX8_nextLine 144 = .ok (.iinc 4 1, 3) := by decide +kernel
theorem dX8_nextLine_147 : decode cX8_nextLine 147 = .ok (.iinc 5 (-1), 3) := by decide +kernel
theorem dX8_nextLine_150 : decode cX8_nextLine 150 = .ok (.goto (-43), 3) := by decide +kernel
theorem dX8_nextLine_153 : decode cX8_nextLine 153 = .ok (.iconst 1, 1) := by decide +kernel
theorem dX8_nextLine_154 : decode cX8_nextLine 154 = .ok (.ireturn, 1) := by decide +kernel
theorem dX8_order_0 : decode cX8_order 0 = .ok (.iload_n 1, 1) := by decide +kernel
theorem dX8_order_1 : decode cX8_order 1 = .ok (.iconst (-1), 1) := by decide +kernel
theorem dX8_order_2 : decode cX8_order 2 = .ok (.if_icmp .ge 8, 3) := by decide +kernel
theorem dX8_order_5 : decode cX8_order 5 = .ok (.aload_n 0, 1) := by decide +kernel
theorem dX8_order_6 : decode cX8_order 6 = .ok (.invokevirtual 121, 3) := by decide +kernel
theorem dX8_order_9 : decode cX8_order 9 = .ok (.ireturn, 1) := by decide +kernel
theorem dX8_order_10 : decode cX8_order 10 = .ok (.aload_n 0, 1) := by decide +kernel
theorem dX8_order_11 : decode cX8_order 11 = .ok (.getfield 80, 3) := by decide +kernel
theorem dX8_order_14 : decode cX8_order 14 = .ok (.bipush 7, 2) := by decide +kernel
theorem dX8_order_16 : decode cX8_order 16 = .ok (.if_icmp .le 8, 3) := by decide +kernel
theorem dX8_order_19 : decode cX8_order 19 = .ok (.aload_n 0, 1) := by decide +kernel
theorem dX8_order_20 : decode cX8_order 20 = .ok (.invokevirtual 217, 3) := by decide +kernel
theorem dX8_order_23 : decode cX8_order 23 = .ok (.ireturn, 1) := by decide +kernel
theorem dX8_order_24 : decode cX8_order 24 = .ok (.iload_n 1, 1) := by decide +kernel
theorem dX8_order_25 : decode cX8_order 25 = .ok (.aload_n 0, 1) := by decide +kernel
theorem dX8_order_26 : decode cX8_order 26 = .ok (.getfield 80, 3) := by decide +kernel
theorem dX8_order_29 : decode cX8_order 29 = .ok (.if_icmp .lt 6, 3) := by decide +kernel
theorem dX8_order_32 : decode cX8_order 32 = .ok (.bipush (-5), 2) := by decide +kernel
theorem dX8_order_34 : decode cX8_order 34 = .ok (.ireturn, 1) := by decide +kernel
theorem dX8_order_35 : decode cX8_order 35 = .ok (.iconst 0, 1) := by decide +kernel
theorem dX8_order_36 : decode cX8_order 36 = .ok (.istore_n 2, 1) := by decide +kernel
theorem dX8_order_37 : decode cX8_order 37 = .ok (.iload_n 2, 1) := by decide +kernel
theorem dX8_order_38 : decode cX8_order 38 = .ok (.aload_n 0, 1) := by decide +kernel
theorem dX8_order_39 : decode cX8_order 39 = .ok (.getfield 80, 3) := by decide +kernel
theorem dX8_order_42 : decode cX8_order 42 = .ok (.if_icmp .ge 16, 3) := by decide +kernel
theorem dX8_order_45 : decode cX8_order 45 = .ok (.aload_n 0, 1) := by decide +kernel
theorem dX8_order_46 : decode cX8_order 46 = .ok (.getfield 53, 3) := by decide +kernel
theorem dX8_order_49 : decode cX8_order 49 = .ok (.iload_n 2, 1) := by decide +kernel
theorem dX8_order_50 : decode cX8_order 50 = .ok (.iload_n 2, 1) := by decide +kernel
theorem dX8_order_51 : decode cX8_order 51 = .ok (.iastore, 1) := by decide +kernel
theorem dX8_order_52 : decode cX8_order 52 = .ok (.iinc 2 1, 3) := by decide +kernel
theorem dX8_order_55 : decode cX8_order 55 = .ok (.goto (-18), 3) := by decide +kernel
theorem dX8_order_58 : decode cX8_order 58 = .ok (.iconst (-1), 1) := by decide +kernel
theorem dX8_order_59 : decode cX8_order 59 = .ok (.istore_n 2, 1) := by decide +kernel
theorem dX8_order_60 : decode cX8_order 60 = .ok (.iconst 1, 1) := by decide +kernel
theorem dX8_order_61 : decode cX8_order 61 = .ok (.istore_n 3, 1) := by decide +kernel
theorem dX8_order_62 : decode cX8_order 62 = .ok (.iload_n 3, 1) := by decide +kernel
theorem dX8_order_63 : decode cX8_order 63 = .ok (.ifCond .eq 62, 3) := by decide +kernel
theorem dX8_order_66 : decode cX8_order 66 = .ok (.aload_n 0, 1) := by decide +kernel
theorem dX8_order_67 : decode cX8_order 67 = .ok (.invokevirtual 220, 3) := by decide +kernel
theorem dX8_order_70 : decode cX8_order 70 = .ok (.istore 4, 2) := by decide +kernel
theorem dX8_order_72 : decode cX8_order 72 = .ok (.iconst 0, 1) := by decide +kernel
theorem dX8_order_73 : decode cX8_order 73 = .ok (.istore 5, 2) := by decide +kernel
theorem dX8_order_75 : decode cX8_order 75 = .ok (.iload 5, 2) := by decide +kernel
theorem dX8_order_77 : decode cX8_order 77 = .ok (.aload_n 0, 1) := by decide +kernel
theorem dX8_order_78 : decode cX8_order 78 = .ok (.getfield 80, 3) := by decide +kernel
theorem dX8_order_81 : decode cX8_order 81 = .ok (.if_icmp .ge 29, 3) := by decide +kernel
theorem dX8_order_84 : decode cX8_order 84 = .ok (.iload 4, 2) := by decide +kernel
theorem dX8_order_86 : decode cX8_order 86 = .ok (.iload_n 2, 1) := by decide +kernel
theorem dX8_order_87 : decode cX8_order 87 = .ok (.if_icmp .le 23, 3) := by decide +kernel
theorem dX8_order_90 : decode cX8_order 90 = .ok (.aload_n 0, 1) := by decide +kernel
theorem dX8_order_91 : decode cX8_order 91 = .ok (.getfield 56, 3) := by decide +kernel
theorem dX8_order_94 : decode cX8_order 94 = .ok (.iload 5, 2) := by decide +kernel
theorem dX8_order_96 : decode cX8_order 96 = .ok (.aload_n 0, 1) := by decide +kernel
theorem dX8_order_97 : decode cX8_order 97 = .ok (.getfield 53, 3) := by decide +kernel
theorem dX8_order_100 : decode cX8_order 100 = .ok (.iload 5, 2) := by decide +kernel
theorem dX8_order_102 : decode cX8_order 102 = .ok (.iaload, 1) := by decide +kernel
theorem dX8_order_103 : decode cX8_order 103 = .ok (.iastore, 1) := by decide +kernel
theorem dX8_order_104 : decode cX8_order 104 = .ok (.iinc 5 1, 3) := by decide +kernel
theorem dX8_order_107 : decode cX8_order 107 = .ok (.goto (-32), 3) := by decide +kernel
theorem dX8_order_110 : decode cX8_order 110 = .ok (.iload_n 2, 1) := by decide +kernel
theorem dX8_order_111 : decode cX8_order 111 = .ok (.iload 4, 2) := by decide +kernel
theorem dX8_order_113 : decode cX8_order 113 = .ok (.invokestatic 177, 3) := by decide +kernel
theorem dX8_order_116 : decode cX8_order 116 = .ok (.istore_n 2, 1) := by decide +kernel
theorem dX8_order_117 : decode cX8_order 117 = .ok (.aload_n 0, 1) := by decide +kernel
theorem dX8_order_118 : decode cX8_order 118 = .ok (.invokevirtual 223, 3) := by decide +kernel
theorem dX8_order_121 : decode cX8_order 121 = .ok (.istore_n 3, 1) := by decide +kernel
theorem dX8_order_122 : decode cX8_order 122 = .ok (.goto (-60), 3) := by decide +kernel
theorem dX8_order_125 : decode cX8_order 125 = .ok (.iload_n 1, 1) := by decide +kernel
theorem dX8_order_126 : decode cX8_order 126 = .ok (.iconst (-1), 1) := by decide +kernel
theorem dX8_order_127 : decode cX8_order 127 = .ok (.if_icmp .ne 7, 3) := by decide +kernel
theorem dX8_order_130 : decode cX8_order 130 = .ok (.iload_n 2, 1) := by decide +kernel
theorem dX8_order_131 : decode cX8_order 131 = .ok (.goto 9, 3) := by decide +kernel
theorem dX8_order_134 : decode cX8_order 134 = .ok (.aload_n 0, 1) := by decide +kernel
theorem dX8_order_135 : decode cX8_order 135 = .ok (.getfield 56, 3) := by decide +kernel
theorem dX8_order_138 : decode cX8_order 138 = .ok (.iload_n 1, 1) := by decide +kernel
theorem dX8_order_139 : decode cX8_order 139 = .ok (.iaload, 1) := by decide +kernel
theorem dX8_order_140 : decode cX8_order 140 = .ok (.ireturn, 1) := by decide +kernel
theorem dX8_heard_0 : decode cX8_heard 0 = .ok (.iload_n 1, 1) := by decide +kernel
theorem dX8_heard_1 : decode cX8_heard 1 = .ok (.iconst (-1), 1) := by decide +kernel
theorem dX8_heard_2 : decode cX8_heard 2 = .ok (.if_icmp .eq 16, 3) := by decide +kernel
theorem dX8_heard_5 : decode cX8_heard 5 = .ok (.aload_n 0, 1) := by decide +kernel
theorem dX8_heard_6 : decode cX8_heard 6 = .ok (.iload_n 1, 1) := by decide +kernel
theorem dX8_heard_7 : decode cX8_heard 7 = .ok (.invokevirtual 114, 3) := by decide +kernel
theorem dX8_heard_10 : decode cX8_heard 10 = .ok (.ifCond .ne 8, 3) := by decide +kernel
theorem dX8_heard_13 : decode cX8_heard 13 = .ok (.aload_n 0, 1) := by decide +kernel
theorem dX8_heard_14 : decode cX8_heard 14 = .ok (.invokevirtual 103, 3) := by decide +kernel
theorem dX8_heard_17 : decode cX8_heard 17 = .ok (.ireturn, 1) := by decide +kernel
theorem dX8_heard_18 : decode cX8_heard 18 = .ok (.aload_n 0, 1) := by decide +kernel
theorem dX8_heard_19 : decode cX8_heard 19 = .ok (.getfield 89, 3) := by decide +kernel
theorem dX8_heard_22 : decode cX8_heard 22 = .ok (.bipush 6, 2) := by decide +kernel
theorem dX8_heard_24 : decode cX8_heard 24 = .ok (.if_icmp .ne 8, 3) := by decide +kernel
theorem dX8_heard_27 : decode cX8_heard 27 = .ok (.aload_n 0, 1) := by decide +kernel
theorem dX8_heard_28 : decode cX8_heard 28 = .ok (.invokevirtual 107, 3) := by decide +kernel
theorem dX8_heard_31 : decode cX8_heard 31 = .ok (.ireturn, 1) := by decide +kernel
theorem dX8_heard_32 : decode cX8_heard 32 = .ok (.iconst 0, 1) := by decide +kernel
theorem dX8_heard_33 : decode cX8_heard 33 = .ok (.istore_n 2, 1) := by decide +kernel
theorem dX8_heard_34 : decode cX8_heard 34 = .ok (.iconst 1, 1) := by decide +kernel
theorem dX8_heard_35 : decode cX8_heard 35 = .ok (.istore_n 3, 1) := by decide +kernel
theorem dX8_heard_36 : decode cX8_heard 36 = .ok (.iload_n 3, 1) := by decide +kernel
theorem dX8_heard_37 : decode cX8_heard 37 = .ok (.bipush 30, 2) := by decide +kernel
theorem dX8_heard_39 : decode cX8_heard 39 = .ok (.if_icmp .gt 41, 3) := by decide +kernel
theorem dX8_heard_42 : decode cX8_heard 42 = .ok (.iload_n 2, 1) := by decide +kernel
theorem dX8_heard_43 : decode cX8_heard 43 = .ok (.aload_n 0, 1) := by decide +kernel
theorem dX8_heard_44 : decode cX8_heard 44 = .ok (.iload_n 3, 1) := by decide +kernel
theorem dX8_heard_45 : decode cX8_heard 45 = .ok (.iconst (-1), 1) := by decide +kernel
theorem dX8_heard_46 : decode cX8_heard 46 = .ok (.invokevirtual 196, 3) := by decide +kernel
theorem dX8_heard_49 : decode cX8_heard 49 = .ok (.iload_n 1, 1) := by decide +kernel
theorem dX8_heard_50 : decode cX8_heard 50 = .ok (.iconst (-1), 1) := by decide +kernel
theorem dX8_heard_51 : decode cX8_heard 51 = .ok (.if_icmp .ne 10, 3) := by decide +kernel
theorem dX8_heard_54 : decode cX8_heard 54 = .ok (.aload_n 0, 1) := by decide +kernel
theorem dX8_heard_55 : decode cX8_heard 55 = .ok (.getfield 80, 3) := by decide +kernel
theorem dX8_heard_58 : decode cX8_heard 58 = .ok (.goto 4, 3) := by decide +kernel
theorem dX8_heard_61 : decode cX8_heard 61 = .ok (.iload_n 1, 1) := by decide +kernel
theorem dX8_heard_62 : decode cX8_heard 62 = .ok (.if_icmp .ne 9, 3) := by decide +kernel
theorem dX8_heard_65 : decode cX8_heard 65 = .ok (.iconst 1, 1) := by decide +kernel
theorem dX8_heard_66 : decode cX8_heard 66 = .ok (.iload_n 3, 1) := by decide +kernel
theorem dX8_heard_67 : decode cX8_heard 67 = .ok (.ishl, 1) := by decide +kernel
theorem dX8_heard_68 : decode cX8_heard 68 = .ok (.goto 4, 3) := by decide +kernel
theorem dX8_heard_71 : decode cX8_heard 71 = .ok (.iconst 0, 1) := by decide +kernel
theorem dX8_heard_72 : decode cX8_heard 72 = .ok (.ior, 1) := by decide +kernel
theorem dX8_heard_73 : decode cX8_heard 73 = .ok (.istore_n 2, 1) := by decide +kernel
theorem dX8_heard_74 : decode cX8_heard 74 = .ok (.iinc 3 1, 3) := by decide +kernel
theorem dX8_heard_77 : decode cX8_heard 77 = .ok (.goto (-41), 3) := by decide +kernel
theorem dX8_heard_80 : decode cX8_heard 80 = .ok (.aload_n 0, 1) := by decide +kernel
theorem dX8_heard_81 : decode cX8_heard 81 = .ok (.getfield 29, 3) := by decide +kernel
theorem dX8_heard_84 : decode cX8_heard 84 = .ok (.aload_n 0, 1) := by decide +kernel
theorem dX8_heard_85 : decode cX8_heard 85 = .ok (.getfield 89, 3) := by decide +kernel
theorem dX8_heard_88 : decode cX8_heard 88 = .ok (.iload_n 2, 1) := by decide +kernel
theorem dX8_heard_89 : decode cX8_heard 89 = .ok (.iastore, 1) := by decide +kernel
theorem dX8_heard_90 : decode cX8_heard 90 = .ok (.aload_n 0, 1) := by decide +kernel
theorem dX8_heard_91 : decode cX8_heard 91 = .ok (.dup, 1) := by decide +kernel
theorem dX8_heard_92 : decode cX8_heard 92 = .ok (.getfield 89, 3) := by decide +kernel
theorem dX8_heard_95 : decode cX8_heard 95 = .ok (.iconst 1, 1) := by decide +kernel
theorem dX8_heard_96 : decode cX8_heard 96 = .ok (.iadd, 1) := by decide +kernel
theorem dX8_heard_97 : decode cX8_heard 97 = .ok (.putfield 89, 3) := by decide +kernel
theorem dX8_heard_100 : decode cX8_heard 100 = .ok (.aload_n 0, 1) := by decide +kernel
theorem dX8_heard_101 : decode cX8_heard 101 = .ok (.getfield 89, 3) := by decide +kernel
theorem dX8_heard_104 : decode cX8_heard 104 = .ok (.ireturn, 1) := by decide +kernel
theorem dX8_forget_0 : decode cX8_forget 0 = .ok (.aload_n 0, 1) := by decide +kernel
theorem dX8_forget_1 : decode cX8_forget 1 = .ok (.getfield 89, 3) := by decide +kernel
theorem dX8_forget_4 : decode cX8_forget 4 = .ok (.istore_n 1, 1) := by decide +kernel
theorem dX8_forget_5 : decode cX8_forget 5 = .ok (.aload_n 0, 1) := by decide +kernel
theorem dX8_forget_6 : decode cX8_forget 6 = .ok (.iconst 0, 1) := by decide +kernel
theorem dX8_forget_7 : decode cX8_forget 7 = .ok (.putfield 89, 3) := by decide +kernel
theorem dX8_forget_10 : decode cX8_forget 10 = .ok (.iload_n 1, 1) := by decide +kernel
theorem dX8_forget_11 : decode cX8_forget 11 = .ok (.ireturn, 1) := by decide +kernel
theorem dX8_breathSet_0 : decode cX8_breathSet 0 = .ok (.ldc 226, 2) := by decide +kernel
theorem dX8_breathSet_2 : decode cX8_breathSet 2 = .ok (.istore_n 1, 1) := by decide +kernel
theorem dX8_breathSet_3 : decode cX8_breathSet 3 = .ok (.iconst 0, 1) := by decide +kernel
theorem dX8_breathSet_4 : decode cX8_breathSet 4 = .ok (.istore_n 2, 1) := by decide +kernel
theorem dX8_breathSet_5 : decode cX8_breathSet 5 = .ok (.iload_n 2, 1) := by decide +kernel
theorem dX8_breathSet_6 : decode cX8_breathSet 6 = .ok (.aload_n 0, 1) := by decide +kernel
theorem dX8_breathSet_7 : decode cX8_breathSet 7 = .ok (.getfield 89, 3) := by decide +kernel
theorem dX8_breathSet_10 : decode cX8_breathSet 10 = .ok (.if_icmp .ge 18, 3) := by decide +kernel
theorem dX8_breathSet_13 : decode cX8_breathSet 13 = .ok (.iload_n 1, 1) := by decide +kernel
theorem dX8_breathSet_14 : decode cX8_breathSet 14 = .ok (.aload_n 0, 1) := by decide +kernel
theorem dX8_breathSet_15 : decode cX8_breathSet 15 = .ok (.getfield 29, 3) := by decide +kernel
theorem dX8_breathSet_18 : decode cX8_breathSet 18 = .ok (.iload_n 2, 1) := by decide +kernel
theorem dX8_breathSet_19 : decode cX8_breathSet 19 = .ok (.iaload, 1) := by decide +kernel
theorem dX8_breathSet_20 : decode cX8_breathSet 20 = .ok (.iand, 1) := by decide +kernel
theorem dX8_breathSet_21 : decode cX8_breathSet 21 = .ok (.istore_n 1, 1) := by decide +kernel
theorem dX8_breathSet_22 : decode cX8_breathSet 22 = .ok (.iinc 2 1, 3) := by decide +kernel
theorem dX8_breathSet_25 : decode cX8_breathSet 25 = .ok (.goto (-20), 3) := by decide +kernel
theorem dX8_breathSet_28 : decode cX8_breathSet 28 = .ok (.iload_n 1, 1) := by decide +kernel
theorem dX8_breathSet_29 : decode cX8_breathSet 29 = .ok (.ireturn, 1) := by decide +kernel
theorem dX8_breaths_0 : decode cX8_breaths 0 = .ok (.aload_n 0, 1) := by decide +kernel
theorem dX8_breaths_1 : decode cX8_breaths 1 = .ok (.invokevirtual 227, 3) := by decide +kernel
theorem dX8_breaths_4 : decode cX8_breaths 4 = .ok (.ireturn, 1) := by decide +kernel
theorem dX8_alike_0 : decode cX8_alike 0 = .ok (.iconst 0, 1) := by decide +kernel
theorem dX8_alike_1 : decode cX8_alike 1 = .ok (.istore_n 3, 1) := by decide +kernel
theorem dX8_alike_2 : decode cX8_alike 2 = .ok (.iconst 0, 1) := by decide +kernel
theorem dX8_alike_3 : decode cX8_alike 3 = .ok (.istore 4, 2) := by decide +kernel
theorem dX8_alike_5 : decode cX8_alike 5 = .ok (.iload 4, 2) := by decide +kernel
theorem dX8_alike_7 : decode cX8_alike 7 = .ok (.aload_n 0, 1) := by decide +kernel
theorem dX8_alike_8 : decode cX8_alike 8 = .ok (.getfield 80, 3) := by decide +kernel
theorem dX8_alike_11 : decode cX8_alike 11 = .ok (.if_icmp .gt 17, 3) := by decide +kernel
theorem dX8_alike_14 : decode cX8_alike 14 = .ok (.aload_n 0, 1) := by decide +kernel
theorem dX8_alike_15 : decode cX8_alike 15 = .ok (.getfield 59, 3) := by decide +kernel
theorem dX8_alike_18 : decode cX8_alike 18 = .ok (.iload 4, 2) := by decide +kernel
theorem dX8_alike_20 : decode cX8_alike 20 = .ok (.iconst 0, 1) := by decide +kernel
theorem dX8_alike_21 : decode cX8_alike 21 = .ok (.iastore, 1) := by decide +kernel
theorem dX8_alike_22 : decode cX8_alike 22 = .ok (.iinc 4 1, 3) := by decide +kernel
theorem dX8_alike_25 : decode cX8_alike 25 = .ok (.goto (-20), 3) := by decide +kernel
theorem dX8_alike_28 : decode cX8_alike 28 = .ok (.iconst 1, 1) := by decide +kernel
theorem dX8_alike_29 : decode cX8_alike 29 = .ok (.istore 4, 2) := by decide +kernel
theorem dX8_alike_31 : decode cX8_alike 31 = .ok (.iload 4, 2) := by decide +kernel
theorem dX8_alike_33 : decode cX8_alike 33 = .ok (.bipush 30, 2) := by decide +kernel
theorem dX8_alike_35 : decode cX8_alike 35 = .ok (.if_icmp .gt 51, 3) := by decide +kernel
theorem dX8_alike_38 : decode cX8_alike 38 = .ok (.iload_n 1, 1) := by decide +kernel
theorem dX8_alike_39 : decode cX8_alike 39 = .ok (.iload 4, 2) := by decide +kernel
theorem dX8_alike_41 : decode cX8_alike 41 = .ok (.ishr, 1) := by decide +kernel
theorem dX8_alike_42 : decode cX8_alike 42 = .ok (.iconst 1, 1) := by decide +kernel
theorem dX8_alike_43 : decode cX8_alike 43 = .ok (.iand, 1) := by decide +kernel
theorem dX8_alike_44 : decode cX8_alike 44 = .ok (.iconst 1, 1) := by decide +kernel
theorem dX8_alike_45 : decode cX8_alike 45 = .ok (.if_icmp .ne 35, 3) := by decide +kernel
theorem dX8_alike_48 : decode cX8_alike 48 = .ok (.aload_n 0, 1) := by decide +kernel
theorem dX8_alike_49 : decode cX8_alike 49 = .ok (.iload 4, 2) := by decide +kernel
theorem dX8_alike_51 : decode cX8_alike 51 = .ok (.iload_n 2, 1) := by decide +kernel
theorem dX8_alike_52 : decode cX8_alike 52 = .ok (.invokevirtual 196, 3) := by decide +kernel
theorem dX8_alike_55 : decode cX8_alike 55 = .ok (.istore 5, 2) := by decide +kernel
theorem dX8_alike_57 : decode cX8_alike 57 = .ok (.aload_n 0, 1) := by decide +kernel
theorem dX8_alike_58 : decode cX8_alike 58 = .ok (.getfield 59, 3) := by decide +kernel
theorem dX8_alike_61 : decode cX8_alike 61 = .ok (.iload 5, 2) := by decide +kernel
theorem dX8_alike_63 : decode cX8_alike 63 = .ok (.dup2, 1) := by decide +kernel
theorem dX8_alike_64 : decode cX8_alike 64 = .ok (.iaload, 1) := by decide +kernel
theorem dX8_alike_65 : decode cX8_alike 65 = .ok (.iconst 1, 1) := by decide +kernel
theorem dX8_alike_66 : decode cX8_alike 66 = .ok (.iadd, 1) := by decide +kernel
theorem dX8_alike_67 : decode cX8_alike 67 = .ok (.iastore, 1) := by decide +kernel
theorem dX8_alike_68 : decode cX8_alike 68 = .ok (.iload_n 3, 1) := by decide +kernel
theorem dX8_alike_69 : decode cX8_alike 69 = .ok (.aload_n 0, 1) := by decide +kernel
theorem dX8_alike_70 : decode cX8_alike 70 = .ok (.getfield 59, 3) := by decide +kernel
theorem dX8_alike_73 : decode cX8_alike 73 = .ok (.iload 5, 2) := by decide +kernel
theorem dX8_alike_75 : decode cX8_alike 75 = .ok (.iaload, 1) := by decide +kernel
theorem dX8_alike_76 : decode cX8_alike 76 = .ok (.invokestatic 177, 3) := by decide +kernel
theorem dX8_alike_79 : decode cX8_alike 79 = .ok (.istore_n 3, 1) := by decide +kernel
theorem dX8_alike_80 : decode cX8_alike 80 = .ok (.iinc 4 1, 3) := by decide +kernel
theorem dX8_alike_83 : decode cX8_alike 83 = .ok (.goto (-52), 3) := by decide +kernel
theorem dX8_alike_86 : decode cX8_alike 86 = .ok (.iload_n 3, 1) := by decide +kernel
theorem dX8_alike_87 : decode cX8_alike 87 = .ok (.ireturn, 1) := by decide +kernel
theorem dX8_shorter_0 : decode cX8_shorter 0 = .ok (.aload_n 0, 1) := by decide +kernel
theorem dX8_shorter_1 : decode cX8_shorter 1 = .ok (.invokevirtual 227, 3) := by decide +kernel
theorem dX8_shorter_4 : decode cX8_shorter 4 = .ok (.istore_n 1, 1) := by decide +kernel
theorem dX8_shorter_5 : decode cX8_shorter 5 = .ok (.iconst (-1), 1) := by decide +kernel
theorem dX8_shorter_6 : decode cX8_shorter 6 = .ok (.istore_n 2, 1) := by decide +kernel
theorem dX8_shorter_7 : decode cX8_shorter 7 = .ok (.ldc 202, 2) := by decide +kernel
theorem dX8_shorter_9 : decode cX8_shorter 9 = .ok (.istore_n 3, 1) := by decide +kernel
theorem dX8_shorter_10 : decode cX8_shorter 10 = .ok (.iconst 0, 1) := by decide +kernel
theorem dX8_shorter_11 : decode cX8_shorter 11 = .ok (.istore 4, 2) := by decide +kernel
theorem dX8_shorter_13 : decode cX8_shorter 13 = .ok (.iload 4, 2) := by decide +kernel
theorem dX8_shorter_15 : decode cX8_shorter 15 = .ok (.aload_n 0, 1) := by decide +kernel
theorem dX8_shorter_16 : decode cX8_shorter 16 = .ok (.getfield 80, 3) := by decide +kernel
theorem dX8_shorter_19 : decode cX8_shorter 19 = .ok (.if_icmp .ge 42, 3) := by decide +kernel
theorem dX8_shorter_22 : decode cX8_shorter 22 = .ok (.iload_n 1, 1) := by decide +kernel
theorem dX8_shorter_23 : decode cX8_shorter 23 = .ok (.ifCond .eq 38, 3) := by decide +kernel
theorem dX8_shorter_26 : decode cX8_shorter 26 = .ok (.aload_n 0, 1) := by decide +kernel
theorem dX8_shorter_27 : decode cX8_shorter 27 = .ok (.iload_n 1, 1) := by decide +kernel
theorem dX8_shorter_28 : decode cX8_shorter 28 = .ok (.iload 4, 2) := by decide +kernel
theorem dX8_shorter_30 : decode cX8_shorter 30 = .ok (.invokevirtual 230, 3) := by decide +kernel
theorem dX8_shorter_33 : decode cX8_shorter 33 = .ok (.istore 5, 2) := by decide +kernel
theorem dX8_shorter_35 : decode cX8_shorter 35 = .ok (.iload 5, 2) := by decide +kernel
theorem dX8_shorter_37 : decode cX8_shorter 37 = .ok (.iload_n 3, 1) := by decide +kernel
theorem dX8_shorter_38 : decode cX8_shorter 38 = .ok (.if_icmp .ge 8, 3) := by decide +kernel
theorem dX8_shorter_41 : decode cX8_shorter 41 = .ok (.iload 4, 2) := by decide +kernel
theorem dX8_shorter_43 : decode cX8_shorter 43 = .ok (.goto 4, 3) := by decide +kernel
theorem dX8_shorter_46 : decode cX8_shorter 46 = .ok (.iload_n 2, 1) := by decide +kernel
theorem dX8_shorter_47 : decode cX8_shorter 47 = .ok (.istore_n 2, 1) := by decide +kernel
theorem dX8_shorter_48 : decode cX8_shorter 48 = .ok (.iload_n 3, 1) := by decide +kernel
theorem dX8_shorter_49 : decode cX8_shorter 49 = .ok (.iload 5, 2) := by decide +kernel
theorem dX8_shorter_51 : decode cX8_shorter 51 = .ok (.invokestatic 173, 3) := by decide +kernel
theorem dX8_shorter_54 : decode cX8_shorter 54 = .ok (.istore_n 3, 1) := by decide +kernel
theorem dX8_shorter_55 : decode cX8_shorter 55 = .ok (.iinc 4 1, 3) := by decide +kernel
theorem dX8_shorter_58 : decode cX8_shorter 58 = .ok (.goto (-45), 3) := by decide +kernel
theorem dX8_shorter_61 : decode cX8_shorter 61 = .ok (.iload_n 2, 1) := by decide +kernel
theorem dX8_shorter_62 : decode cX8_shorter 62 = .ok (.ireturn, 1) := by decide +kernel
theorem dX8_gain_0 : decode cX8_gain 0 = .ok (.iload_n 0, 1) := by decide +kernel
theorem dX8_gain_1 : decode cX8_gain 1 = .ok (.iload_n 1, 1) := by decide +kernel
theorem dX8_gain_2 : decode cX8_gain 2 = .ok (.if_icmp .le 14, 3) := by decide +kernel
theorem dX8_gain_5 : decode cX8_gain 5 = .ok (.iload_n 0, 1) := by decide +kernel
theorem dX8_gain_6 : decode cX8_gain 6 = .ok (.iload_n 3, 1) := by decide +kernel
theorem dX8_gain_7 : decode cX8_gain 7 = .ok (.if_icmp .lt 9, 3) := by decide +kernel
theorem dX8_gain_10 : decode cX8_gain 10 = .ok (.iload_n 2, 1) := by decide +kernel
theorem dX8_gain_11 : decode cX8_gain 11 = .ok (.iload_n 0, 1) := by decide +kernel
theorem dX8_gain_12 : decode cX8_gain 12 = .ok (.isub, 1) := by decide +kernel
theorem dX8_gain_13 : decode cX8_gain 13 = .ok (.goto 4, 3) := by decide +kernel
theorem dX8_gain_16 : decode cX8_gain 16 = .ok (.iconst 0, 1) := by decide +kernel
theorem dX8_gain_17 : decode cX8_gain 17 = .ok (.ireturn, 1) := by decide +kernel
theorem dX8_rests_0 : decode cX8_rests 0 = .ok (.iconst 1, 1) := by decide +kernel
theorem dX8_rests_1 : decode cX8_rests 1 = .ok (.istore 5, 2) := by decide +kernel
theorem dX8_rests_3 : decode cX8_rests 3 = .ok (.iconst 0, 1) := by decide +kernel
theorem dX8_rests_4 : decode cX8_rests 4 = .ok (.istore 6, 2) := by decide +kernel
theorem dX8_rests_6 : decode cX8_rests 6 = .ok (.iload 6, 2) := by decide +kernel
theorem dX8_rests_8 : decode cX8_rests 8 = .ok (.iload 4, 2) := by decide +kernel
theorem dX8_rests_10 : decode cX8_rests 10 = .ok (.if_icmp .gt 39, 3) := by decide +kernel
theorem dX8_rests_13 : decode cX8_rests 13 = .ok (.iload 5, 2) := by decide +kernel
theorem dX8_rests_15 : decode cX8_rests 15 = .ok (.ifCond .eq 25, 3) := by decide +kernel
theorem dX8_rests_18 : decode cX8_rests 18 = .ok (.iload 6, 2) := by decide +kernel
theorem dX8_rests_20 : decode cX8_rests 20 = .ok (.iload_n 1, 1) := by decide +kernel
theorem dX8_rests_21 : decode cX8_rests 21 = .ok (.iload_n 2, 1) := by decide +kernel
theorem dX8_rests_22 : decode cX8_rests 22 = .ok (.iload_n 3, 1) := by decide +kernel
theorem dX8_rests_23 : decode cX8_rests 23 = .ok (.invokestatic 233, 3) := by decide +kernel
theorem dX8_rests_26 : decode cX8_rests 26 = .ok (.iload_n 0, 1) := by decide +kernel
theorem dX8_rests_27 : decode cX8_rests 27 = .ok (.iload_n 1, 1) := by decide +kernel
theorem dX8_rests_28 : decode cX8_rests 28 = .ok (.iload_n 2, 1) := by decide +kernel
theorem dX8_rests_29 : decode cX8_rests 29 = .ok (.iload_n 3, 1) := by decide +kernel
theorem dX8_rests_30 : decode cX8_rests 30 = .ok (.invokestatic 233, 3) := by decide +kernel
theorem dX8_rests_33 : decode cX8_rests 33 = .ok (.if_icmp .gt 7, 3) := by decide +kernel
theorem dX8_rests_36 : decode cX8_rests 36 = .ok (.iconst 1, 1) := by decide +kernel
theorem dX8_rests_37 : decode cX8_rests 37 = .ok (.goto 4, 3) := by decide +kernel
theorem dX8_rests_40 : decode cX8_rests 40 = .ok (.iconst 0, 1) := by decide +kernel
theorem dX8_rests_41 : decode cX8_rests 41 = .ok (.istore 5, 2) := by decide +kernel
theorem dX8_rests_43 : decode cX8_rests 43 = .ok (.iinc 6 1, 3) := by decide +kernel
theorem dX8_rests_46 : decode cX8_rests 46 = .ok (.goto (-40), 3) := by decide +kernel
theorem dX8_rests_49 : decode cX8_rests 49 = .ok (.iload 5, 2) := by decide +kernel
theorem dX8_rests_51 : decode cX8_rests 51 = .ok (.ireturn, 1) := by decide +kernel
theorem dX8_bid_0 : decode cX8_bid 0 = .ok (.iload_n 1, 1) := by decide +kernel
theorem dX8_bid_1 : decode cX8_bid 1 = .ok (.invokestatic 118, 3) := by decide +kernel
theorem dX8_bid_4 : decode cX8_bid 4 = .ok (.ifCond .eq 59, 3) := by decide +kernel
theorem dX8_bid_7 : decode cX8_bid 7 = .ok (.iload_n 2, 1) := by decide +kernel
theorem dX8_bid_8 : decode cX8_bid 8 = .ok (.iconst 0, 1) := by decide +kernel
theorem dX8_bid_9 : decode cX8_bid 9 = .ok (.bipush 20, 2) := by decide +kernel
theorem dX8_bid_11 : decode cX8_bid 11 = .ok (.invokestatic 95, 3) := by decide +kernel
theorem dX8_bid_14 : decode cX8_bid 14 = .ok (.ifCond .eq 49, 3) := by decide +kernel
theorem dX8_bid_17 : decode cX8_bid 17 = .ok (.iload_n 3, 1) := by decide +kernel
theorem dX8_bid_18 : decode cX8_bid 18 = .ok (.iconst 0, 1) := by decide +kernel
theorem dX8_bid_19 : decode cX8_bid 19 = .ok (.bipush 20, 2) := by decide +kernel
theorem dX8_bid_21 : decode cX8_bid 21 = .ok (.invokestatic 95, 3) := by decide +kernel
theorem dX8_bid_24 : decode cX8_bid 24 = .ok (.ifCond .eq 39, 3) := by decide +kernel
theorem dX8_bid_27 : decode cX8_bid 27 = .ok (.iload 4, 2) := by decide +kernel
theorem dX8_bid_29 : decode cX8_bid 29 = .ok (.iconst 0, 1) := by decide +kernel
theorem dX8_bid_30 : decode cX8_bid 30 = .ok (.bipush 20, 2) := by decide +kernel
theorem dX8_bid_32 : decode cX8_bid 32 = .ok (.invokestatic 95, 3) := by decide +kernel
theorem dX8_bid_35 : decode cX8_bid 35 = .ok (.ifCond .eq 28, 3) := by decide +kernel
theorem dX8_bid_38 : decode cX8_bid 38 = .ok (.iload 5, 2) := by decide +kernel
theorem dX8_bid_40 : decode cX8_bid 40 = .ok (.iconst 0, 1) := by decide +kernel
theorem dX8_bid_41 : decode cX8_bid 41 = .ok (.bipush 20, 2) := by decide +kernel
theorem dX8_bid_43 : decode cX8_bid 43 = .ok (.invokestatic 95, 3) := by decide +kernel
theorem dX8_bid_46 : decode cX8_bid 46 = .ok (.ifCond .eq 17, 3) := by decide +kernel
theorem dX8_bid_49 : decode cX8_bid 49 = .ok (.iload 6, 2) := by decide +kernel
theorem dX8_bid_51 : decode cX8_bid 51 = .ok (.iconst 0, 1) := by decide +kernel
theorem dX8_bid_52 : decode cX8_bid 52 = .ok (.iconst 1, 1) := by decide +kernel
theorem dX8_bid_53 : decode cX8_bid 53 = .ok (.invokestatic 95, 3) := by decide +kernel
theorem dX8_bid_56 : decode cX8_bid 56 = .ok (.ifCond .eq 7, 3) := by decide +kernel
theorem dX8_bid_59 : decode cX8_bid 59 = .ok (.iconst 1, 1) := by decide +kernel
theorem dX8_bid_60 : decode cX8_bid 60 = .ok (.goto 4, 3) := by decide +kernel
theorem dX8_bid_63 : decode cX8_bid 63 = .ok (.iconst 0, 1) := by decide +kernel
theorem dX8_bid_64 : decode cX8_bid 64 = .ok (.istore 7, 2) := by decide +kernel
theorem dX8_bid_66 : decode cX8_bid 66 = .ok (.iload 7, 2) := by decide +kernel
theorem dX8_bid_68 : decode cX8_bid 68 = .ok (.ifCond .ne 8, 3) := by decide +kernel
theorem dX8_bid_71 : decode cX8_bid 71 = .ok (.aload_n 0, 1) := by decide +kernel
theorem dX8_bid_72 : decode cX8_bid 72 = .ok (.invokevirtual 121, 3) := by decide +kernel
theorem dX8_bid_75 : decode cX8_bid 75 = .ok (.ireturn, 1) := by decide +kernel
theorem dX8_bid_76 : decode cX8_bid 76 = .ok (.aload_n 0, 1) := by decide +kernel
theorem dX8_bid_77 : decode cX8_bid 77 = .ok (.iload_n 1, 1) := by decide +kernel
theorem dX8_bid_78 : decode cX8_bid 78 = .ok (.invokevirtual 180, 3) := by decide +kernel
theorem dX8_bid_81 : decode cX8_bid 81 = .ok (.istore 8, 2) := by decide +kernel
theorem dX8_bid_83 : decode cX8_bid 83 = .ok (.iconst 0, 1) := by decide +kernel
theorem dX8_bid_84 : decode cX8_bid 84 = .ok (.istore 9, 2) := by decide +kernel
theorem dX8_bid_86 : decode cX8_bid 86 = .ok (.iconst (-1), 1) := by decide +kernel
theorem dX8_bid_87 : decode cX8_bid 87 = .ok (.istore 10, 2) := by decide +kernel
theorem dX8_bid_89 : decode cX8_bid 89 = .ok (.iconst 0, 1) := by decide +kernel
theorem dX8_bid_90 : decode cX8_bid 90 = .ok (.istore 11, 2) := by decide +kernel
theorem dX8_bid_92 : decode cX8_bid 92 = .ok (.iload 11, 2) := by decide +kernel
theorem dX8_bid_94 : decode cX8_bid 94 = .ok (.iload_n 2, 1) := by decide +kernel
theorem dX8_bid_95 : decode cX8_bid 95 = .ok (.if_icmp .gt 77, 3) := by decide +kernel
theorem dX8_bid_98 : decode cX8_bid 98 = .ok (.iconst 0, 1) := by decide +kernel
theorem dX8_bid_99 : decode cX8_bid 99 = .ok (.istore 12, 2) := by decide +kernel
theorem dX8_bid_101 : decode cX8_bid 101 = .ok (.iload 12, 2) := by decide +kernel
theorem dX8_bid_103 : decode cX8_bid 103 = .ok (.iload_n 3, 1) := by decide +kernel
theorem dX8_bid_104 : decode cX8_bid 104 = .ok (.if_icmp .gt 62, 3) := by decide +kernel
theorem dX8_bid_107 : decode cX8_bid 107 = .ok (.iload 11, 2) := by decide +kernel
theorem dX8_bid_109 : decode cX8_bid 109 = .ok (.iload 12, 2) := by decide +kernel
theorem dX8_bid_111 : decode cX8_bid 111 = .ok (.iload 4, 2) := by decide +kernel
theorem dX8_bid_113 : decode cX8_bid 113 = .ok (.iload 8, 2) := by decide +kernel
theorem dX8_bid_115 : decode cX8_bid 115 = .ok (.iload_n 2, 1) := by decide +kernel
theorem dX8_bid_116 : decode cX8_bid 116 = .ok (.invokestatic 237, 3) := by decide +kernel
theorem dX8_bid_119 : decode cX8_bid 119 = .ok (.ifCond .eq 41, 3) := by decide +kernel
theorem dX8_bid_122 : decode cX8_bid 122 = .ok (.iload 12, 2) := by decide +kernel
theorem dX8_bid_124 : decode cX8_bid 124 = .ok (.iload 11, 2) := by decide +kernel
theorem dX8_bid_126 : decode cX8_bid 126 = .ok (.iload 5, 2) := by decide +kernel
theorem dX8_bid_128 : decode cX8_bid 128 = .ok (.iload 8, 2) := by decide +kernel
theorem dX8_bid_130 : decode cX8_bid 130 = .ok (.iload_n 3, 1) := by decide +kernel
theorem dX8_bid_131 : decode cX8_bid 131 = .ok (.invokestatic 237, 3) := by decide +kernel
theorem dX8_bid_134 : decode cX8_bid 134 = .ok (.ifCond .eq 26, 3) := by decide +kernel
theorem dX8_bid_137 : decode cX8_bid 137 = .ok (.iload 9, 2) := by decide +kernel
theorem dX8_bid_139 : decode cX8_bid 139 = .ok (.ifCond .ne 14, 3) := by decide +kernel
theorem dX8_bid_142 : decode cX8_bid 142 = .ok (.bipush 100, 2) := by decide +kernel
theorem dX8_bid_144 : decode cX8_bid 144 = .ok (.iload 11, 2) := by decide +kernel
theorem dX8_bid_146 : decode cX8_bid 146 = .ok (.imul, 1) := by decide +kernel
theorem dX8_bid_147 : decode cX8_bid 147 = .ok (.iload 12, 2) := by decide +kernel
theorem dX8_bid_149 : decode cX8_bid 149 = .ok (.iadd, 1) := by decide +kernel
theorem dX8_bid_150 : decode cX8_bid 150 = .ok (.goto 5, 3) := by decide +kernel
theorem dX8_bid_153 : decode cX8_bid 153 = .ok (.iload 10, 2) := by decide +kernel
theorem dX8_bid_155 : decode cX8_bid 155 = .ok (.istore 10, 2) := by decide +kernel
theorem dX8_bid_157 : decode cX8_bid 157 = .ok (.iinc 9 1, 3) := by decide +kernel
theorem dX8_bid_160 : decode cX8_bid 160 = .ok (.iinc 12 1, 3) := by decide +kernel
theorem dX8_bid_163 : decode cX8_bid 163 = .ok (.goto (-62), 3) := by decide +kernel
theorem dX8_bid_166 : decode cX8_bid 166 = .ok (.iinc 11 1, 3) := by decide +kernel
theorem dX8_bid_169 : decode cX8_bid 169 = .ok (.goto (-77), 3) := by decide +kernel
theorem dX8_bid_172 : decode cX8_bid 172 = .ok (.iload 6, 2) := by decide +kernel
theorem dX8_bid_174 : decode cX8_bid 174 = .ok (.ifCond .ne 8, 3) := by decide +kernel
theorem dX8_bid_177 : decode cX8_bid 177 = .ok (.iload 9, 2) := by decide +kernel
theorem dX8_bid_179 : decode cX8_bid 179 = .ok (.goto 5, 3) := by decide +kernel
theorem dX8_bid_182 : decode cX8_bid 182 = .ok (.iload 10, 2) := by decide +kernel
theorem dX8_bid_184 : decode cX8_bid 184 = .ok (.ireturn, 1) := by decide +kernel
theorem dX8_lay_0 : decode cX8_lay 0 = .ok (.lload_n 1, 1) := by decide +kernel
theorem dX8_lay_1 : decode cX8_lay 1 = .ok (.lstore 5, 2) := by decide +kernel
theorem dX8_lay_3 : decode cX8_lay 3 = .ok (.lload_n 3, 1) := by decide +kernel
theorem dX8_lay_4 : decode cX8_lay 4 = .ok (.lstore 7, 2) := by decide +kernel
theorem dX8_lay_6 : decode cX8_lay 6 = .ok (.lload 7, 2) := by decide +kernel
theorem dX8_lay_8 : decode cX8_lay 8 = .ok (.lconst 0, 1) := by decide +kernel
theorem dX8_lay_9 : decode cX8_lay 9 = .ok (.lcmp, 1) := by decide +kernel
theorem dX8_lay_10 : decode cX8_lay 10 = .ok (.ifCond .eq 21, 3) := by decide +kernel
theorem dX8_lay_13 : decode cX8_lay 13 = .ok (.lload 5, 2) := by decide +kernel
theorem dX8_lay_15 : decode cX8_lay 15 = .ok (.lload 7, 2) := by decide +kernel
theorem dX8_lay_17 : decode cX8_lay 17 = .ok (.lrem, 1) := by decide +kernel
theorem dX8_lay_18 : decode cX8_lay 18 = .ok (.lstore 9, 2) := by decide +kernel
theorem dX8_lay_20 : decode cX8_lay 20 = .ok (.lload 7, 2) := by decide +kernel
theorem dX8_lay_22 : decode cX8_lay 22 = .ok (.lstore 5, 2) := by decide +kernel
theorem dX8_lay_24 : decode cX8_lay 24 = .ok (.lload 9, 2) := by decide +kernel
theorem dX8_lay_26 : decode cX8_lay 26 = .ok (.lstore 7, 2) := by decide +kernel
theorem dX8_lay_28 : decode cX8_lay 28 = .ok (.goto (-22), 3) := by decide +kernel
theorem dX8_lay_31 : decode cX8_lay 31 = .ok (.aload_n 0, 1) := by decide +kernel
theorem dX8_lay_32 : decode cX8_lay 32 = .ok (.lload_n 1, 1) := by decide +kernel
theorem dX8_lay_33 : decode cX8_lay 33 = .ok (.lload 5, 2) := by decide +kernel
theorem dX8_lay_35 : decode cX8_lay 35 = .ok (.ldiv, 1) := by decide +kernel
theorem dX8_lay_36 : decode cX8_lay 36 = .ok (.putfield 241, 3) := by decide +kernel
theorem dX8_lay_39 : decode cX8_lay 39 = .ok (.aload_n 0, 1) := by decide +kernel
theorem dX8_lay_40 : decode cX8_lay 40 = .ok (.lload_n 3, 1) := by decide +kernel
theorem dX8_lay_41 : decode cX8_lay 41 = .ok (.lload 5, 2) := by decide +kernel
theorem dX8_lay_43 : decode cX8_lay 43 = .ok (.ldiv, 1) := by decide +kernel
theorem dX8_lay_44 : decode cX8_lay 44 = .ok (.putfield 62, 3) := by decide +kernel
theorem dX8_lay_47 : decode cX8_lay 47 = .ok (.return_, 1) := by decide +kernel
theorem dX8_odds_0 : decode cX8_odds 0 = .ok (.iload_n 1, 1) := by decide +kernel
theorem dX8_odds_1 : decode cX8_odds 1 = .ok (.iconst 0, 1) := by decide +kernel
theorem dX8_odds_2 : decode cX8_odds 2 = .ok (.bipush 10, 2) := by decide +kernel
theorem dX8_odds_4 : decode cX8_odds 4 = .ok (.invokestatic 95, 3) := by decide +kernel
theorem dX8_odds_7 : decode cX8_odds 7 = .ok (.ifCond .ne 8, 3) := by decide +kernel
theorem dX8_odds_10 : decode cX8_odds 10 = .ok (.aload_n 0, 1) := by decide +kernel
theorem dX8_odds_11 : decode cX8_odds 11 = .ok (.invokevirtual 103, 3) := by decide +kernel
theorem dX8_odds_14 : decode cX8_odds 14 = .ok (.ireturn, 1) := by decide +kernel
theorem dX8_odds_15 : decode cX8_odds 15 = .ok (.iconst 0, 1) := by decide +kernel
theorem dX8_odds_16 : decode cX8_odds 16 = .ok (.istore_n 2, 1) := by decide +kernel
theorem dX8_odds_17 : decode cX8_odds 17 = .ok (.iload_n 2, 1) := by decide +kernel
theorem dX8_odds_18 : decode cX8_odds 18 = .ok (.bipush 30, 2) := by decide +kernel
theorem dX8_odds_20 : decode cX8_odds 20 = .ok (.if_icmp .gt 28, 3) := by decide +kernel
theorem dX8_odds_23 : decode cX8_odds 23 = .ok (.aload_n 0, 1) := by decide +kernel
theorem dX8_odds_24 : decode cX8_odds 24 = .ok (.getfield 66, 3) := by decide +kernel
theorem dX8_odds_27 : decode cX8_odds 27 = .ok (.iload_n 2, 1) := by decide +kernel
theorem dX8_odds_28 : decode cX8_odds 28 = .ok (.iload_n 2, 1) := by decide +kernel
theorem dX8_odds_29 : decode cX8_odds 29 = .ok (.aload_n 0, 1) := by decide +kernel
theorem dX8_odds_30 : decode cX8_odds 30 = .ok (.getfield 13, 3) := by decide +kernel
theorem dX8_odds_33 : decode cX8_odds 33 = .ok (.if_icmp .ne 7, 3) := by decide +kernel
theorem dX8_odds_36 : decode cX8_odds 36 = .ok (.lconst 1, 1) := by decide +kernel
theorem dX8_odds_37 : decode cX8_odds 37 = .ok (.goto 4, 3) := by decide +kernel
theorem dX8_odds_40 : decode cX8_odds 40 = .ok (.lconst 0, 1) := by decide +kernel
theorem dX8_odds_41 : decode cX8_odds 41 = .ok (.lastore, 1) := by decide +kernel
theorem dX8_odds_42 : decode cX8_odds 42 = .ok (.iinc 2 1, 3) := by decide +kernel
theorem dX8_odds_45 : decode cX8_odds 45 = .ok (.goto (-28), 3) := by decide +kernel
theorem dX8_odds_48 : decode cX8_odds 48 = .ok (.lconst 1, 1) := by decide +kernel
theorem dX8_odds_49 : decode cX8_odds 49 = .ok (.lstore_n 2, 1) := by decide +kernel
theorem dX8_odds_50 : decode cX8_odds 50 = .ok (.iconst 0, 1) := by decide +kernel
theorem dX8_odds_51 : decode cX8_odds 51 = .ok (.istore 4, 2) := by decide +kernel
theorem dX8_odds_53 : decode cX8_odds 53 = .ok (.iload 4, 2) := by decide +kernel
theorem dX8_odds_55 : decode cX8_odds 55 = .ok (.aload_n 0, 1) := by decide +kernel
theorem dX8_odds_56 : decode cX8_odds 56 = .ok (.getfield 80, 3) := by decide +kernel
theorem dX8_odds_59 : decode cX8_odds 59 = .ok (.if_icmp .ge 217, 3) := by decide +kernel
theorem dX8_odds_62 : decode cX8_odds 62 = .ok (.iconst 0, 1) := by decide +kernel
theorem dX8_odds_63 : decode cX8_odds 63 = .ok (.istore 5, 2) := by decide +kernel
theorem dX8_odds_65 : decode cX8_odds 65 = .ok (.iload 5, 2) := by decide +kernel
theorem dX8_odds_67 : decode cX8_odds 67 = .ok (.bipush 30, 2) := by decide +kernel
theorem dX8_odds_69 : decode cX8_odds 69 = .ok (.if_icmp .gt 17, 3) := by decide +kernel
theorem dX8_odds_72 : decode cX8_odds 72 = .ok (.aload_n 0, 1) := by decide +kernel
theorem dX8_odds_73 : decode cX8_odds 73 = .ok (.getfield 70, 3) := by decide +kernel
theorem dX8_odds_76 : decode cX8_odds 76 = .ok (.iload 5, 2) := by decide +kernel
theorem dX8_odds_78 : decode cX8_odds 78 = .ok (.lconst 0, 1) := by decide +kernel
theorem dX8_odds_79 : decode cX8_odds 79 = .ok (.lastore, 1) := by decide +kernel
theorem dX8_odds_80 : decode cX8_odds 80 = .ok (.iinc 5 1, 3) := by decide +kernel
theorem dX8_odds_83 : decode cX8_odds 83 = .ok (.goto (-18), 3) := by decide +kernel
theorem dX8_odds_86 : decode cX8_odds 86 = .ok (.aload_n 0, 1) := by decide +kernel
theorem dX8_odds_87 : decode cX8_odds 87 = .ok (.getfield 23, 3) := by decide +kernel
theorem dX8_odds_90 : decode cX8_odds 90 = .ok (.iload 4, 2) := by decide +kernel
theorem dX8_odds_92 : decode cX8_odds 92 = .ok (.iaload, 1) := by decide +kernel
theorem dX8_odds_93 : decode cX8_odds 93 = .ok (.iconst (-1), 1) := by decide +kernel
theorem dX8_odds_94 : decode cX8_odds 94 = .ok (.if_icmp .eq 7, 3) := by decide +kernel
theorem dX8_odds_97 : decode cX8_odds 97 = .ok (.iconst 1, 1) := by decide +kernel
theorem dX8_odds_98 : decode cX8_odds 98 = .ok (.goto 4, 3) := by decide +kernel
theorem dX8_odds_101 : decode cX8_odds 101 = .ok (.iconst 0, 1) := by decide +kernel
theorem dX8_odds_102 : decode cX8_odds 102 = .ok (.istore 5, 2) := by decide +kernel
theorem dX8_odds_104 : decode cX8_odds 104 = .ok (.aload_n 0, 1) := by decide +kernel
theorem dX8_odds_105 : decode cX8_odds 105 = .ok (.getfield 20, 3) := by decide +kernel
theorem dX8_odds_108 : decode cX8_odds 108 = .ok (.iload 4, 2) := by decide +kernel
theorem dX8_odds_110 : decode cX8_odds 110 = .ok (.iaload, 1) := by decide +kernel
theorem dX8_odds_111 : decode cX8_odds 111 = .ok (.istore 6, 2) := by decide +kernel
theorem dX8_odds_113 : decode cX8_odds 113 = .ok (.iload 6, 2) := by decide +kernel
theorem dX8_odds_115 : decode cX8_odds 115 = .ok (.aload_n 0, 1) := by decide +kernel
theorem dX8_odds_116 : decode cX8_odds 116 = .ok (.getfield 13, 3) := by decide +kernel
theorem dX8_odds_119 : decode cX8_odds 119 = .ok (.if_icmp .gt 106, 3) := by decide +kernel
theorem dX8_odds_122 : decode cX8_odds 122 = .ok (.iload 6, 2) := by decide +kernel
theorem dX8_odds_124 : decode cX8_odds 124 = .ok (.aload_n 0, 1) := by decide +kernel
theorem dX8_odds_125 : decode cX8_odds 125 = .ok (.getfield 20, 3) := by decide +kernel
theorem dX8_odds_128 : decode cX8_odds 128 = .ok (.iload 4, 2) := by decide +kernel
theorem dX8_odds_130 : decode cX8_odds 130 = .ok (.iaload, 1) := by decide +kernel
theorem dX8_odds_131 : decode cX8_odds 131 = .ok (.isub, 1) := by decide +kernel
theorem dX8_odds_132 : decode cX8_odds 132 = .ok (.istore 7, 2) := by decide +kernel
theorem dX8_odds_134 : decode cX8_odds 134 = .ok (.aload_n 0, 1) := by decide +kernel
theorem dX8_odds_135 : decode cX8_odds 135 = .ok (.getfield 23, 3) := by decide +kernel
theorem dX8_odds_138 : decode cX8_odds 138 = .ok (.iload 4, 2) := by decide +kernel
theorem dX8_odds_140 : decode cX8_odds 140 = .ok (.iaload, 1) := by decide +kernel
theorem dX8_odds_141 : decode cX8_odds 141 = .ok (.iload 7, 2) := by decide +kernel
theorem dX8_odds_143 : decode cX8_odds 143 = .ok (.aload_n 0, 1) := by decide +kernel
theorem dX8_odds_144 : decode cX8_odds 144 = .ok (.getfield 13, 3) := by decide +kernel
theorem dX8_odds_147 : decode cX8_odds 147 = .ok (.invokestatic 189, 3) := by decide +kernel
theorem dX8_odds_150 : decode cX8_odds 150 = .ok (.istore 8, 2) := by decide +kernel
theorem dX8_odds_152 : decode cX8_odds 152 = .ok (.aload_n 0, 1) := by decide +kernel
theorem dX8_odds_153 : decode cX8_odds 153 = .ok (.getfield 70, 3) := by decide +kernel
theorem dX8_odds_156 : decode cX8_odds 156 = .ok (.iload 7, 2) := by decide +kernel
theorem dX8_odds_158 : decode cX8_odds 158 = .ok (.dup2, 1) := by decide +kernel
theorem dX8_odds_159 : decode cX8_odds 159 = .ok (.laload, 1) := by decide +kernel
theorem dX8_odds_160 : decode cX8_odds 160 = .ok (.iload 5, 2) := by decide +kernel
theorem dX8_odds_162 : decode cX8_odds 162 = .ok (.ifCond .eq 16, 3) := by decide +kernel
theorem dX8_odds_165 : decode cX8_odds 165 = .ok (.aload_n 0, 1) := by decide +kernel
theorem dX8_odds_166 : decode cX8_odds 166 = .ok (.getfield 66, 3) := by decide +kernel
theorem dX8_odds_169 : decode cX8_odds 169 = .ok (.iload 6, 2) := by decide +kernel
theorem dX8_odds_171 : decode cX8_odds 171 = .ok (.laload, 1) := by decide +kernel
theorem dX8_odds_172 : decode cX8_odds 172 = .ok (.iload_n 1, 1) := by decide +kernel
theorem dX8_odds_173 : decode cX8_odds 173 = .ok (.i2l, 1) := by decide +kernel
theorem dX8_odds_174 : decode cX8_odds 174 = .ok (.lmul, 1) := by decide +kernel
theorem dX8_odds_175 : decode cX8_odds 175 = .ok (.goto 10, 3) := by decide +kernel
theorem dX8_odds_178 : decode cX8_odds 178 = .ok (.aload_n 0, 1) := by decide +kernel
theorem dX8_odds_179 : decode cX8_odds 179 = .ok (.getfield 66, 3) := by decide +kernel
theorem dX8_odds_182 : decode cX8_odds 182 = .ok (.iload 6, 2) := by decide +kernel
theorem dX8_odds_184 : decode cX8_odds 184 = .ok (.laload, 1) := by decide +kernel
theorem dX8_odds_185 : decode cX8_odds 185 = .ok (.ladd, 1) := by decide +kernel
theorem dX8_odds_186 : decode cX8_odds 186 = .ok (.lastore, 1) := by decide +kernel
theorem dX8_odds_187 : decode cX8_odds 187 = .ok (.aload_n 0, 1) := by decide +kernel
theorem dX8_odds_188 : decode cX8_odds 188 = .ok (.getfield 70, 3) := by decide +kernel
theorem dX8_odds_191 : decode cX8_odds 191 = .ok (.iload 8, 2) := by decide +kernel
theorem dX8_odds_193 : decode cX8_odds 193 = .ok (.dup2, 1) := by decide +kernel
theorem dX8_odds_194 : decode cX8_odds 194 = .ok (.laload, 1) := by decide +kernel
theorem dX8_odds_195 : decode cX8_odds 195 = .ok (.iload 5, 2) := by decide +kernel
theorem dX8_odds_197 : decode cX8_odds 197 = .ok (.ifCond .eq 19, 3) := by decide +kernel
theorem dX8_odds_200 : decode cX8_odds 200 = .ok (.aload_n 0, 1) := by decide +kernel
theorem dX8_odds_201 : decode cX8_odds 201 = .ok (.getfield 66, 3) := by decide +kernel
theorem dX8_odds_204 : decode cX8_odds 204 = .ok (.iload 6, 2) := by decide +kernel
theorem dX8_odds_206 : decode cX8_odds 206 = .ok (.laload, 1) := by decide +kernel
theorem dX8_odds_207 : decode cX8_odds 207 = .ok (.bipush 10, 2) := by decide +kernel
theorem dX8_odds_209 : decode cX8_odds 209 = .ok (.iload_n 1, 1) := by decide +kernel
theorem dX8_odds_210 : decode cX8_odds 210 = .ok (.isub, 1) := by decide +kernel
theorem dX8_odds_211 : decode cX8_odds 211 = .ok (.i2l, 1) := by decide +kernel
theorem dX8_odds_212 : decode cX8_odds 212 = .ok (.lmul, 1) := by decide +kernel
theorem dX8_odds_213 : decode cX8_odds 213 = .ok (.goto 4, 3) := by decide +kernel
theorem dX8_odds_216 : decode cX8_odds 216 = .ok (.lconst 0, 1) := by decide +kernel
theorem dX8_odds_217 : decode cX8_odds 217 = .ok (.ladd, 1) := by decide +kernel
theorem dX8_odds_218 : decode cX8_odds 218 = .ok (.lastore, 1) := by decide +kernel
theorem dX8_odds_219 : decode cX8_odds 219 = .ok (.iinc 6 1, 3) := by decide +kernel
theorem dX8_odds_222 : decode cX8_odds 222 = .ok (.goto (-109), 3) := by decide +kernel
theorem dX8_odds_225 : decode cX8_odds 225 = .ok (.iconst 0, 1) := by decide +kernel
theorem dX8_odds_226 : decode cX8_odds 226 = .ok (.istore 6, 2) := by decide +kernel
theorem dX8_odds_228 : decode cX8_odds 228 = .ok (.iload 6, 2) := by decide +kernel
theorem dX8_odds_230 : decode cX8_odds 230 = .ok (.bipush 30, 2) := by decide +kernel
theorem dX8_odds_232 : decode cX8_odds 232 = .ok (.if_icmp .gt 23, 3) := by decide +kernel
theorem dX8_odds_235 : decode cX8_odds 235 = .ok (.aload_n 0, 1) := by decide +kernel
theorem dX8_odds_236 : decode cX8_odds 236 = .ok (.getfield 66, 3) := by decide +kernel
theorem dX8_odds_239 : decode cX8_odds 239 = .ok (.iload 6, 2) := by decide +kernel
theorem dX8_odds_241 : decode cX8_odds 241 = .ok (.aload_n 0, 1) := by decide +kernel
theorem dX8_odds_242 : decode cX8_odds 242 = .ok (.getfield 70, 3) := by decide +kernel
theorem dX8_odds_245 : decode cX8_odds 245 = .ok (.iload 6, 2) := by decide +kernel
theorem dX8_odds_247 : decode cX8_odds 247 = .ok (.laload, 1) := by decide +kernel
theorem dX8_odds_248 : decode cX8_odds 248 = .ok (.lastore, 1) := by decide +kernel
theorem dX8_odds_249 : decode cX8_odds 249 = .ok (.iinc 6 1, 3) := by decide +kernel
theorem dX8_odds_252 : decode cX8_odds 252 = .ok (.goto (-24), 3) := by decide +kernel
theorem dX8_odds_255 : decode cX8_odds 255 = .ok (.lload_n 2, 1) := by decide +kernel
theorem dX8_odds_256 : decode cX8_odds 256 = .ok (.iload 5, 2) := by decide +kernel
theorem dX8_odds_258 : decode cX8_odds 258 = .ok (.ifCond .eq 9, 3) := by decide +kernel
theorem dX8_odds_261 : decode cX8_odds 261 = .ok (.ldc2_w 244, 3) := by decide +kernel
theorem dX8_odds_264 : decode cX8_odds 264 = .ok (.goto 4, 3) := by decide +kernel
theorem dX8_odds_267 : decode cX8_odds 267 = .ok (.lconst 1, 1) := by decide +kernel
theorem dX8_odds_268 : decode cX8_odds 268 = .ok (.lmul, 1) := by decide +kernel
theorem dX8_odds_269 : decode cX8_odds 269 = .ok (.lstore_n 2, 1) := by decide +kernel
theorem dX8_odds_270 : decode cX8_odds 270 = .ok (.iinc 4 1, 3) := by decide +kernel
theorem dX8_odds_273 : decode cX8_odds 273 = .ok (.goto (-220), 3) := by decide +kernel
theorem dX8_odds_276 : decode cX8_odds 276 = .ok (.lconst 0, 1) := by decide +kernel
theorem dX8_odds_277 : decode cX8_odds 277 = .ok (.lstore 4, 2) := by decide +kernel
theorem dX8_odds_279 : decode cX8_odds 279 = .ok (.iconst 0, 1) := by decide +kernel
theorem dX8_odds_280 : decode cX8_odds 280 = .ok (.istore 6, 2) := by decide +kernel
theorem dX8_odds_282 : decode cX8_odds 282 = .ok (.iload 6, 2) := by decide +kernel
theorem dX8_odds_284 : decode cX8_odds 284 = .ok (.bipush 30, 2) := by decide +kernel
theorem dX8_odds_286 : decode cX8_odds 286 = .ok (.if_icmp .gt 21, 3) := by decide +kernel
theorem dX8_odds_289 : decode cX8_odds 289 = .ok (.lload 4, 2) := by decide +kernel
theorem dX8_odds_291 : decode cX8_odds 291 = .ok (.aload_n 0, 1) := by decide +kernel
theorem dX8_odds_292 : decode cX8_odds 292 = .ok (.getfield 66, 3) := by decide +kernel
theorem dX8_odds_295 : decode cX8_odds 295 = .ok (.iload 6, 2) := by decide +kernel
theorem dX8_odds_297 : decode cX8_odds 297 = .ok (.laload, 1) := by decide +kernel
theorem dX8_odds_298 : decode cX8_odds 298 = .ok (.ladd, 1) := by decide +kernel
theorem dX8_odds_299 : decode cX8_odds 299 = .ok (.lstore 4, 2) := by decide +kernel
theorem dX8_odds_301 : decode cX8_odds 301 = .ok (.iinc 6 1, 3) := by decide +kernel
theorem dX8_odds_304 : decode cX8_odds 304 = .ok (.goto (-22), 3) := by decide +kernel
theorem dX8_odds_307 : decode cX8_odds 307 = .ok (.aload_n 0, 1) := by decide +kernel
theorem dX8_odds_308 : decode cX8_odds 308 = .ok (.lload 4, 2) := by decide +kernel
theorem dX8_odds_310 : decode cX8_odds 310 = .ok (.lload_n 2, 1) := by decide +kernel
theorem dX8_odds_311 : decode cX8_odds 311 = .ok (.invokevirtual 246, 3) := by decide +kernel
theorem dX8_odds_314 : decode cX8_odds 314 = .ok (.iconst 1, 1) := by decide +kernel
theorem dX8_odds_315 : decode cX8_odds 315 = .ok (.ireturn, 1) := by decide +kernel
theorem dX8_drawn_0 : decode cX8_drawn 0 = .ok (.iload_n 1, 1) := by decide +kernel
theorem dX8_drawn_1 : decode cX8_drawn 1 = .ok (.iconst 0, 1) := by decide +kernel
theorem dX8_drawn_2 : decode cX8_drawn 2 = .ok (.ldc 250, 2) := by decide +kernel
theorem dX8_drawn_4 : decode cX8_drawn 4 = .ok (.invokestatic 95, 3) := by decide +kernel
theorem dX8_drawn_7 : decode cX8_drawn 7 = .ok (.ifCond .eq 13, 3) := by decide +kernel
theorem dX8_drawn_10 : decode cX8_drawn 10 = .ok (.iload_n 2, 1) := by decide +kernel
theorem dX8_drawn_11 : decode cX8_drawn 11 = .ok (.iconst 0, 1) := by decide +kernel
theorem dX8_drawn_12 : decode cX8_drawn 12 = .ok (.bipush 60, 2) := by decide +kernel
theorem dX8_drawn_14 : decode cX8_drawn 14 = .ok (.invokestatic 95, 3) := by decide +kernel
theorem dX8_drawn_17 : decode cX8_drawn 17 = .ok (.ifCond .ne 8, 3) := by decide +kernel
theorem dX8_drawn_20 : decode cX8_drawn 20 = .ok (.aload_n 0, 1) := by decide +kernel
theorem dX8_drawn_21 : decode cX8_drawn 21 = .ok (.invokevirtual 103, 3) := by decide +kernel
theorem dX8_drawn_24 : decode cX8_drawn 24 = .ok (.ireturn, 1) := by decide +kernel
theorem dX8_drawn_25 : decode cX8_drawn 25 = .ok (.iload_n 1, 1) := by decide +kernel
theorem dX8_drawn_26 : decode cX8_drawn 26 = .ok (.i2l, 1) := by decide +kernel
theorem dX8_drawn_27 : decode cX8_drawn 27 = .ok (.lstore_n 3, 1) := by decide +kernel
theorem dX8_drawn_28 : decode cX8_drawn 28 = .ok (.iconst 0, 1) := by decide +kernel
theorem dX8_drawn_29 : decode cX8_drawn 29 = .ok (.istore 5, 2) := by decide +kernel
theorem dX8_drawn_31 : decode cX8_drawn 31 = .ok (.iconst 0, 1) := by decide +kernel
theorem dX8_drawn_32 : decode cX8_drawn 32 = .ok (.istore 6, 2) := by decide +kernel
theorem dX8_drawn_34 : decode cX8_drawn 34 = .ok (.iload 6, 2) := by decide +kernel
theorem dX8_drawn_36 : decode cX8_drawn 36 = .ok (.iload_n 2, 1) := by decide +kernel
theorem dX8_drawn_37 : decode cX8_drawn 37 = .ok (.if_icmp .ge 128, 3) := by decide +kernel
theorem dX8_drawn_40 : decode cX8_drawn 40 = .ok (.aload_n 0, 1) := by decide +kernel
theorem dX8_drawn_41 : decode cX8_drawn 41 = .ok (.getfield 13, 3) := by decide +kernel
theorem dX8_drawn_44 : decode cX8_drawn 44 = .ok (.istore 7, 2) := by decide +kernel
theorem dX8_drawn_46 : decode cX8_drawn 46 = .ok (.iconst 1, 1) := by decide +kernel
theorem dX8_drawn_47 : decode cX8_drawn 47 = .ok (.istore 8, 2) := by decide +kernel
theorem dX8_drawn_49 : decode cX8_drawn 49 = .ok (.iconst 0, 1) := by decide +kernel
theorem dX8_drawn_50 : decode cX8_drawn 50 = .ok (.istore 9, 2) := by decide +kernel
theorem dX8_drawn_52 : decode cX8_drawn 52 = .ok (.iload 9, 2) := by decide +kernel
theorem dX8_drawn_54 : decode cX8_drawn 54 = .ok (.aload_n 0, 1) := by decide +kernel
theorem dX8_drawn_55 : decode cX8_drawn 55 = .ok (.getfield 80, 3) := by decide +kernel
theorem dX8_drawn_58 : decode cX8_drawn 58 = .ok (.if_icmp .ge 86, 3) := by decide +kernel
theorem dX8_drawn_61 : decode cX8_drawn 61 = .ok (.lload_n 3, 1) := by decide +kernel
theorem dX8_drawn_62 : decode cX8_drawn 62 = .ok (.ldc2_w 251, 3) := by decide +kernel
theorem dX8_drawn_65 : decode cX8_drawn 65 = .ok (.lmul, 1) := by decide +kernel
theorem dX8_drawn_66 : decode cX8_drawn 66 = .ok (.ldc2_w 253, 3) := by decide +kernel
theorem dX8_drawn_69 : decode cX8_drawn 69 = .ok (.ladd, 1) := by decide +kernel
theorem dX8_drawn_70 : decode cX8_drawn 70 = .ok (.ldc2_w 255, 3) := by decide +kernel
theorem dX8_drawn_73 : decode cX8_drawn 73 = .ok (.lrem, 1) := by decide +kernel
theorem dX8_drawn_74 : decode cX8_drawn 74 = .ok (.lstore_n 3, 1) := by decide +kernel
theorem dX8_drawn_75 : decode cX8_drawn 75 = .ok (.lload_n 3, 1) := by decide +kernel
theorem dX8_drawn_76 : decode cX8_drawn 76 = .ok (.ldc2_w 257, 3) := by decide +kernel
theorem dX8_drawn_79 : decode cX8_drawn 79 = .ok (.ldiv, 1) := by decide +kernel
theorem dX8_drawn_80 : decode cX8_drawn 80 = .ok (.ldc2_w 259, 3) := by decide +kernel
theorem dX8_drawn_83 : decode cX8_drawn 83 = .ok (.lrem, 1) := by decide +kernel
theorem dX8_drawn_84 : decode cX8_drawn 84 = .ok (.l2i, 1) := by decide +kernel
theorem dX8_drawn_85 : decode cX8_drawn 85 = .ok (.iconst 1, 1) := by decide +kernel
theorem dX8_drawn_86 : decode cX8_drawn 86 = .ok (.iadd, 1) := by decide +kernel
theorem dX8_drawn_87 : decode cX8_drawn 87 = .ok (.istore 10, 2) := by decide +kernel
theorem dX8_drawn_89 : decode cX8_drawn 89 = .ok (.iload 8, 2) := by decide +kernel
theorem dX8_drawn_91 : decode cX8_drawn 91 = .ok (.ifCond .eq 14, 3) := by decide +kernel
theorem dX8_drawn_94 : decode cX8_drawn 94 = .ok (.iload 10, 2) := by decide +kernel
theorem dX8_drawn_96 : decode cX8_drawn 96 = .ok (.iload 7, 2) := by decide +kernel
theorem dX8_drawn_98 : decode cX8_drawn 98 = .ok (.if_icmp .gt 7, 3) := by decide +kernel
theorem dX8_drawn_101 : decode cX8_drawn 101 = .ok (.iconst 1, 1) := by decide +kernel
theorem dX8_drawn_102 : decode cX8_drawn 102 = .ok (.goto 4, 3) := by decide +kernel
theorem dX8_drawn_105 : decode cX8_drawn 105 = .ok (.iconst 0, 1) := by decide +kernel
theorem dX8_drawn_106 : decode cX8_drawn 106 = .ok (.istore 8, 2) := by decide +kernel
theorem dX8_drawn_108 : decode cX8_drawn 108 = .ok (.iload 8, 2) := by decide +kernel
theorem dX8_drawn_110 : decode cX8_drawn 110 = .ok (.ifCond .eq 25, 3) := by decide +kernel
theorem dX8_drawn_113 : decode cX8_drawn 113 = .ok (.aload_n 0, 1) := by decide +kernel
theorem dX8_drawn_114 : decode cX8_drawn 114 = .ok (.getfield 23, 3) := by decide +kernel
theorem dX8_drawn_117 : decode cX8_drawn 117 = .ok (.iload 9, 2) := by decide +kernel
theorem dX8_drawn_119 : decode cX8_drawn 119 = .ok (.iaload, 1) := by decide +kernel
theorem dX8_drawn_120 : decode cX8_drawn 120 = .ok (.iload 7, 2) := by decide +kernel
theorem dX8_drawn_122 : decode cX8_drawn 122 = .ok (.iload 10, 2) := by decide +kernel
theorem dX8_drawn_124 : decode cX8_drawn 124 = .ok (.isub, 1) := by decide +kernel
theorem dX8_drawn_125 : decode cX8_drawn 125 = .ok (.aload_n 0, 1) := by decide +kernel
theorem dX8_drawn_126 : decode cX8_drawn 126 = .ok (.getfield 13, 3) := by decide +kernel
theorem dX8_drawn_129 : decode cX8_drawn 129 = .ok (.invokestatic 189, 3) := by decide +kernel
theorem dX8_drawn_132 : decode cX8_drawn 132 = .ok (.goto 4, 3) := by decide +kernel
theorem dX8_drawn_135 : decode cX8_drawn 135 = .ok (.iconst 0, 1) := by decide +kernel
theorem dX8_drawn_136 : decode cX8_drawn 136 = .ok (.istore 7, 2) := by decide +kernel
theorem dX8_drawn_138 : decode cX8_drawn 138 = .ok (.iinc 9 1, 3) := by decide +kernel
theorem dX8_drawn_141 : decode cX8_drawn 141 = .ok (.goto (-89), 3) := by decide +kernel
theorem dX8_drawn_144 : decode cX8_drawn 144 = .ok (.iload 5, 2) := by decide +kernel
theorem dX8_drawn_146 : decode cX8_drawn 146 = .ok (.iload 8, 2) := by decide +kernel
theorem dX8_drawn_148 : decode cX8_drawn 148 = .ok (.ifCond .eq 7, 3) := by decide +kernel
theorem dX8_drawn_151 : decode cX8_drawn 151 = .ok (.iconst 1, 1) := by decide +kernel
theorem dX8_drawn_152 : decode cX8_drawn 152 = .ok (.goto 4, 3) := by decide +kernel
theorem dX8_drawn_155 : decode cX8_drawn 155 = .ok (.iconst 0, 1) := by decide +kernel
theorem dX8_drawn_156 : decode cX8_drawn 156 = .ok (.iadd, 1) := by decide +kernel
theorem dX8_drawn_157 : decode cX8_drawn 157 = .ok (.istore 5, 2) := by decide +kernel
theorem dX8_drawn_159 : decode cX8_drawn 159 = .ok (.iinc 6 1, 3) := by decide +kernel
theorem dX8_drawn_162 : decode cX8_drawn 162 = .ok (.goto (-128), 3) := by decide +kernel
theorem dX8_drawn_165 : decode cX8_drawn 165 = .ok (.iload 5, 2) := by decide +kernel
theorem dX8_drawn_167 : decode cX8_drawn 167 = .ok (.ireturn, 1) := by decide +kernel
theorem dX8_part_0 : decode cX8_part 0 = .ok (.iload_n 1, 1) := by decide +kernel
theorem dX8_part_1 : decode cX8_part 1 = .ok (.ifCond .ne 10, 3) := by decide +kernel
theorem dX8_part_4 : decode cX8_part 4 = .ok (.aload_n 0, 1) := by decide +kernel
theorem dX8_part_5 : decode cX8_part 5 = .ok (.getfield 241, 3) := by decide +kernel
theorem dX8_part_8 : decode cX8_part 8 = .ok (.goto 20, 3) := by decide +kernel
theorem dX8_part_11 : decode cX8_part 11 = .ok (.iload_n 1, 1) := by decide +kernel
theorem dX8_part_12 : decode cX8_part 12 = .ok (.iconst 1, 1) := by decide +kernel
theorem dX8_part_13 : decode cX8_part 13 = .ok (.if_icmp .ne 10, 3) := by decide +kernel
theorem dX8_part_16 : decode cX8_part 16 = .ok (.aload_n 0, 1) := by decide +kernel
theorem dX8_part_17 : decode cX8_part 17 = .ok (.getfield 62, 3) := by decide +kernel
theorem dX8_part_20 : decode cX8_part 20 = .ok (.goto 8, 3) := by decide +kernel
theorem dX8_part_23 : decode cX8_part 23 = .ok (.aload_n 0, 1) := by decide +kernel
theorem dX8_part_24 : decode cX8_part 24 = .ok (.invokevirtual 103, 3) := by decide +kernel
theorem dX8_part_27 : decode cX8_part 27 = .ok (.i2l, 1) := by decide +kernel
theorem dX8_part_28 : decode cX8_part 28 = .ok (.lreturn, 1) := by decide +kernel
theorem dX8_image_0 : decode cX8_image 0 = .ok (.iload_n 1, 1) := by decide +kernel
theorem dX8_image_1 : decode cX8_image 1 = .ok (.iconst 0, 1) := by decide +kernel
theorem dX8_image_2 : decode cX8_image 2 = .ok (.iconst 1, 1) := by decide +kernel
theorem dX8_image_3 : decode cX8_image 3 = .ok (.invokestatic 95, 3) := by decide +kernel
theorem dX8_image_6 : decode cX8_image 6 = .ok (.ifCond .ne 8, 3) := by decide +kernel
theorem dX8_image_9 : decode cX8_image 9 = .ok (.aload_n 0, 1) := by decide +kernel
theorem dX8_image_10 : decode cX8_image 10 = .ok (.invokevirtual 103, 3) := by decide +kernel
theorem dX8_image_13 : decode cX8_image 13 = .ok (.ireturn, 1) := by decide +kernel
theorem dX8_image_14 : decode cX8_image 14 = .ok (.sipush 258, 3) := by decide +kernel
theorem dX8_image_17 : decode cX8_image 17 = .ok (.iload_n 1, 1) := by decide +kernel
theorem dX8_image_18 : decode cX8_image 18 = .ok (.imul, 1) := by decide +kernel
theorem dX8_image_19 : decode cX8_image 19 = .ok (.istore_n 2, 1) := by decide +kernel
theorem dX8_image_20 : decode cX8_image 20 = .ok (.aload_n 0, 1) := by decide +kernel
theorem dX8_image_21 : decode cX8_image 21 = .ok (.getfield 73, 3) := by decide +kernel
theorem dX8_image_24 : decode cX8_image 24 = .ok (.iload_n 2, 1) := by decide +kernel
theorem dX8_image_25 : decode cX8_image 25 = .ok (.aload_n 0, 1) := by decide +kernel
theorem dX8_image_26 : decode cX8_image 26 = .ok (.getfield 13, 3) := by decide +kernel
theorem dX8_image_29 : decode cX8_image 29 = .ok (.iastore, 1) := by decide +kernel
theorem dX8_image_30 : decode cX8_image 30 = .ok (.aload_n 0, 1) := by decide +kernel
theorem dX8_image_31 : decode cX8_image 31 = .ok (.getfield 73, 3) := by decide +kernel
theorem dX8_image_34 : decode cX8_image 34 = .ok (.iload_n 2, 1) := by decide +kernel
theorem dX8_image_35 : decode cX8_image 35 = .ok (.iconst 1, 1) := by decide +kernel
theorem dX8_image_36 : decode cX8_image 36 = .ok (.iadd, 1) := by decide +kernel
theorem dX8_image_37 : decode cX8_image 37 = .ok (.aload_n 0, 1) := by decide +kernel
theorem dX8_image_38 : decode cX8_image 38 = .ok (.getfield 17, 3) := by decide +kernel
theorem dX8_image_41 : decode cX8_image 41 = .ok (.iastore, 1) := by decide +kernel
theorem dX8_image_42 : decode cX8_image 42 = .ok (.aload_n 0, 1) := by decide +kernel
theorem dX8_image_43 : decode cX8_image 43 = .ok (.getfield 73, 3) := by decide +kernel
theorem dX8_image_46 : decode cX8_image 46 = .ok (.iload_n 2, 1) := by decide +kernel
theorem dX8_image_47 : decode cX8_image 47 = .ok (.iconst 2, 1) := by decide +kernel
theorem dX8_image_48 : decode cX8_image 48 = .ok (.iadd, 1) := by decide +kernel
theorem dX8_image_49 : decode cX8_image 49 = .ok (.aload_n 0, 1) := by decide +kernel
theorem dX8_image_50 : decode cX8_image 50 = .ok (.getfield 80, 3) := by decide +kernel
theorem dX8_image_53 : decode cX8_image 53 = .ok (.iastore, 1) := by decide +kernel
theorem dX8_image_54 : decode cX8_image 54 = .ok (.aload_n 0, 1) := by decide +kernel
theorem dX8_image_55 : decode cX8_image 55 = .ok (.getfield 73, 3) := by decide +kernel
theorem dX8_image_58 : decode cX8_image 58 = .ok (.iload_n 2, 1) := by decide +kernel
theorem dX8_image_59 : decode cX8_image 59 = .ok (.iconst 3, 1) := by decide +kernel
theorem dX8_image_60 : decode cX8_image 60 = .ok (.iadd, 1) := by decide +kernel
theorem dX8_image_61 : decode cX8_image 61 = .ok (.aload_n 0, 1) := by decide +kernel
theorem dX8_image_62 : decode cX8_image 62 = .ok (.getfield 83, 3) := by decide +kernel
theorem dX8_image_65 : decode cX8_image 65 = .ok (.iastore, 1) := by decide +kernel
theorem dX8_image_66 : decode cX8_image 66 = .ok (.aload_n 0, 1) := by decide +kernel
theorem dX8_image_67 : decode cX8_image 67 = .ok (.getfield 73, 3) := by decide +kernel
theorem dX8_image_70 : decode cX8_image 70 = .ok (.iload_n 2, 1) := by decide +kernel
theorem dX8_image_71 : decode cX8_image 71 = .ok (.iconst 4, 1) := by decide +kernel
theorem dX8_image_72 : decode cX8_image 72 = .ok (.iadd, 1) := by decide +kernel
theorem dX8_image_73 : decode cX8_image 73 = .ok (.aload_n 0, 1) := by decide +kernel
theorem dX8_image_74 : decode cX8_image 74 = .ok (.getfield 86, 3) := by decide +kernel
theorem dX8_image_77 : decode cX8_image 77 = .ok (.iastore, 1) := by decide +kernel
theorem dX8_image_78 : decode cX8_image 78 = .ok (.aload_n 0, 1) := by decide +kernel
theorem dX8_image_79 : decode cX8_image 79 = .ok (.getfield 73, 3) := by decide +kernel
theorem dX8_image_82 : decode cX8_image 82 = .ok (.iload_n 2, 1) := by decide +kernel
theorem dX8_image_83 : decode cX8_image 83 = .ok (.iconst 5, 1) := by decide +kernel
theorem dX8_image_84 : decode cX8_image 84 = .ok (.iadd, 1) := by decide +kernel
theorem dX8_image_85 : decode cX8_image 85 = .ok (.aload_n 0, 1) := by decide +kernel
theorem dX8_image_86 : decode cX8_image 86 = .ok (.getfield 89, 3) := by decide +kernel
theorem dX8_image_89 : decode cX8_image 89 = .ok (.iastore, 1) := by decide +kernel
theorem dX8_image_90 : decode cX8_image 90 = .ok (.aload_n 0, 1) := by decide +kernel
theorem dX8_image_91 : decode cX8_image 91 = .ok (.getfield 73, 3) := by decide +kernel
theorem dX8_image_94 : decode cX8_image 94 = .ok (.iload_n 2, 1) := by decide +kernel
theorem dX8_image_95 : decode cX8_image 95 = .ok (.bipush 6, 2) := by decide +kernel
theorem dX8_image_97 : decode cX8_image 97 = .ok (.iadd, 1) := by decide +kernel
theorem dX8_image_98 : decode cX8_image 98 = .ok (.aload_n 0, 1) := by decide +kernel
theorem dX8_image_99 : decode cX8_image 99 = .ok (.getfield 92, 3) := by decide +kernel
theorem dX8_image_102 : decode cX8_image 102 = .ok (.iastore, 1) := by decide +kernel
theorem dX8_image_103 : decode cX8_image 103 = .ok (.iconst 0, 1) := by decide +kernel
theorem dX8_image_104 : decode cX8_image 104 = .ok (.istore_n 3, 1) := by decide +kernel
theorem dX8_image_105 : decode cX8_image 105 = .ok (.iload_n 3, 1) := by decide +kernel
theorem dX8_image_106 : decode cX8_image 106 = .ok (.bipush 12, 2) := by decide +kernel
theorem dX8_image_108 : decode cX8_image 108 = .ok (.if_icmp .ge 60, 3) := by decide +kernel
theorem dX8_image_111 : decode cX8_image 111 = .ok (.aload_n 0, 1) := by decide +kernel
theorem dX8_image_112 : decode cX8_image 112 = .ok (.getfield 73, 3) := by decide +kernel
theorem dX8_image_115 : decode cX8_image 115 = .ok (.iload_n 2, 1) := by decide +kernel
theorem dX8_image_116 : decode cX8_image 116 = .ok (.bipush 7, 2) := by decide +kernel
theorem dX8_image_118 : decode cX8_image 118 = .ok (.iadd, 1) := by decide +kernel
theorem dX8_image_119 : decode cX8_image 119 = .ok (.iload_n 3, 1) := by decide +kernel
theorem dX8_image_120 : decode cX8_image 120 = .ok (.iadd, 1) := by decide +kernel
theorem dX8_image_121 : decode cX8_image 121 = .ok (.aload_n 0, 1) := by decide +kernel
theorem dX8_image_122 : decode cX8_image 122 = .ok (.getfield 20, 3) := by decide +kernel
theorem dX8_image_125 : decode cX8_image 125 = .ok (.iload_n 3, 1) := by decide +kernel
theorem dX8_image_126 : decode cX8_image 126 = .ok (.iaload, 1) := by decide +kernel
theorem dX8_image_127 : decode cX8_image 127 = .ok (.iastore, 1) := by decide +kernel
theorem dX8_image_128 : decode cX8_image 128 = .ok (.aload_n 0, 1) := by decide +kernel
theorem dX8_image_129 : decode cX8_image 129 = .ok (.getfield 73, 3) := by decide +kernel
theorem dX8_image_132 : decode cX8_image 132 = .ok (.iload_n 2, 1) := by decide +kernel
theorem dX8_image_133 : decode cX8_image 133 = .ok (.bipush 19, 2) := by decide +kernel
theorem dX8_image_135 : decode cX8_image 135 = .ok (.iadd, 1) := by decide +kernel
theorem dX8_image_136 : decode cX8_image 136 = .ok (.iload_n 3, 1) := by decide +kernel
theorem dX8_image_137 : decode cX8_image 137 = .ok (.iadd, 1) := by decide +kernel
theorem dX8_image_138 : decode cX8_image 138 = .ok (.aload_n 0, 1) := by decide +kernel
theorem dX8_image_139 : decode cX8_image 139 = .ok (.getfield 23, 3) := by decide +kernel
theorem dX8_image_142 : decode cX8_image 142 = .ok (.iload_n 3, 1) := by decide +kernel
theorem dX8_image_143 : decode cX8_image 143 = .ok (.iaload, 1) := by decide +kernel
theorem dX8_image_144 : decode cX8_image 144 = .ok (.iastore, 1) := by decide +kernel
theorem dX8_image_145 : decode cX8_image 145 = .ok (.aload_n 0, 1) := by decide +kernel
theorem dX8_image_146 : decode cX8_image 146 = .ok (.getfield 73, 3) := by decide +kernel
theorem dX8_image_149 : decode cX8_image 149 = .ok (.iload_n 2, 1) := by decide +kernel
theorem dX8_image_150 : decode cX8_image 150 = .ok (.bipush 31, 2) := by decide +kernel
theorem dX8_image_152 : decode cX8_image 152 = .ok (.iadd, 1) := by decide +kernel
theorem dX8_image_153 : decode cX8_image 153 = .ok (.iload_n 3, 1) := by decide +kernel
theorem dX8_image_154 : decode cX8_image 154 = .ok (.iadd, 1) := by decide +kernel
theorem dX8_image_155 : decode cX8_image 155 = .ok (.aload_n 0, 1) := by decide +kernel
theorem dX8_image_156 : decode cX8_image 156 = .ok (.getfield 26, 3) := by decide +kernel
theorem dX8_image_159 : decode cX8_image 159 = .ok (.iload_n 3, 1) := by decide +kernel
theorem dX8_image_160 : decode cX8_image 160 = .ok (.iaload, 1) := by decide +kernel
theorem dX8_image_161 : decode cX8_image 161 = .ok (.iastore, 1) := by decide +kernel
theorem dX8_image_162 : decode cX8_image 162 = .ok (.iinc 3 1, 3) := by decide +kernel
theorem dX8_image_165 : decode cX8_image 165 = .ok (.goto (-60), 3) := by decide +kernel
theorem dX8_image_168 : decode cX8_image 168 = .ok (.iconst 0, 1) := by decide +kernel
theorem dX8_image_169 : decode cX8_image 169 = .ok (.istore_n 3, 1) := by decide +kernel
theorem dX8_image_170 : decode cX8_image 170 = .ok (.iload_n 3, 1) := by decide +kernel
theorem dX8_image_171 : decode cX8_image 171 = .ok (.bipush 6, 2) := by decide +kernel
theorem dX8_image_173 : decode cX8_image 173 = .ok (.if_icmp .ge 26, 3) := by decide +kernel
theorem dX8_image_176 : decode cX8_image 176 = .ok (.aload_n 0, 1) := by decide +kernel
theorem dX8_image_177 : decode cX8_image 177 = .ok (.getfield 73, 3) := by decide +kernel
theorem dX8_image_180 : decode cX8_image 180 = .ok (.iload_n 2, 1) := by decide +kernel
theorem dX8_image_181 : decode cX8_image 181 = .ok (.bipush 43, 2) := by decide +kernel
theorem dX8_image_183 : decode cX8_image 183 = .ok (.iadd, 1) := by decide +kernel
theorem dX8_image_184 : decode cX8_image 184 = .ok (.iload_n 3, 1) := by decide +kernel
theorem dX8_image_185 : decode cX8_image 185 = .ok (.iadd, 1) := by decide +kernel
theorem dX8_image_186 : decode cX8_image 186 = .ok (.aload_n 0, 1) := by decide +kernel
theorem dX8_image_187 : decode cX8_image 187 = .ok (.getfield 29, 3) := by decide +kernel
theorem dX8_image_190 : decode cX8_image 190 = .ok (.iload_n 3, 1) := by decide +kernel
theorem dX8_image_191 : decode cX8_image 191 = .ok (.iaload, 1) := by decide +kernel
theorem dX8_image_192 : decode cX8_image 192 = .ok (.iastore, 1) := by decide +kernel
theorem dX8_image_193 : decode cX8_image 193 = .ok (.iinc 3 1, 3) := by decide +kernel
theorem dX8_image_196 : decode cX8_image 196 = .ok (.goto (-26), 3) := by decide +kernel
theorem dX8_image_199 : decode cX8_image 199 = .ok (.iconst 0, 1) := by decide +kernel
theorem dX8_image_200 : decode cX8_image 200 = .ok (.istore_n 3, 1) := by decide +kernel
theorem dX8_image_201 : decode cX8_image 201 = .ok (.iload_n 3, 1) := by decide +kernel
theorem dX8_image_202 : decode cX8_image 202 = .ok (.sipush 208, 3) := by decide +kernel
theorem dX8_image_205 : decode cX8_image 205 = .ok (.if_icmp .ge 26, 3) := by decide +kernel
theorem dX8_image_208 : decode cX8_image 208 = .ok (.aload_n 0, 1) := by decide +kernel
theorem dX8_image_209 : decode cX8_image 209 = .ok (.getfield 73, 3) := by decide +kernel
theorem dX8_image_212 : decode cX8_image 212 = .ok (.iload_n 2, 1) := by decide +kernel
theorem dX8_image_213 : decode cX8_image 213 = .ok (.bipush 49, 2) := by decide +kernel
theorem dX8_image_215 : decode cX8_image 215 = .ok (.iadd, 1) := by decide +kernel
theorem dX8_image_216 : decode cX8_image 216 = .ok (.iload_n 3, 1) := by decide +kernel
theorem dX8_image_217 : decode cX8_image 217 = .ok (.iadd, 1) := by decide +kernel
theorem dX8_image_218 : decode cX8_image 218 = .ok (.aload_n 0, 1) := by decide +kernel
theorem dX8_image_219 : decode cX8_image 219 = .ok (.getfield 38, 3) := by decide +kernel
theorem dX8_image_222 : decode cX8_image 222 = .ok (.iload_n 3, 1) := by decide +kernel
theorem dX8_image_223 : decode cX8_image 223 = .ok (.iaload, 1) := by decide +kernel
theorem dX8_image_224 : decode cX8_image 224 = .ok (.iastore, 1) := by decide +kernel
theorem dX8_image_225 : decode cX8_image 225 = .ok (.iinc 3 1, 3) := by decide +kernel
theorem dX8_image_228 : decode cX8_image 228 = .ok (.goto (-27), 3) := by decide +kernel
theorem dX8_image_231 : decode cX8_image 231 = .ok (.iconst 1, 1) := by decide +kernel
theorem dX8_image_232 : decode cX8_image 232 = .ok (.ireturn, 1) := by decide +kernel
theorem dX8_from_0 : decode cX8_from 0 = .ok (.iload_n 1, 1) := by decide +kernel
theorem dX8_from_1 : decode cX8_from 1 = .ok (.iconst 0, 1) := by decide +kernel
theorem dX8_from_2 : decode cX8_from 2 = .ok (.iconst 1, 1) := by decide +kernel
theorem dX8_from_3 : decode cX8_from 3 = .ok (.invokestatic 95, 3) := by decide +kernel
theorem dX8_from_6 : decode cX8_from 6 = .ok (.ifCond .ne 8, 3) := by decide +kernel
theorem dX8_from_9 : decode cX8_from 9 = .ok (.aload_n 0, 1) := by decide +kernel
theorem dX8_from_10 : decode cX8_from 10 = .ok (.invokevirtual 103, 3) := by decide +kernel
theorem dX8_from_13 : decode cX8_from 13 = .ok (.ireturn, 1) := by decide +kernel
theorem dX8_from_14 : decode cX8_from 14 = .ok (.sipush 258, 3) := by decide +kernel
theorem dX8_from_17 : decode cX8_from 17 = .ok (.iload_n 1, 1) := by decide +kernel
theorem dX8_from_18 : decode cX8_from 18 = .ok (.imul, 1) := by decide +kernel
theorem dX8_from_19 : decode cX8_from 19 = .ok (.istore_n 2, 1) := by decide +kernel
theorem dX8_from_20 : decode cX8_from 20 = .ok (.aload_n 0, 1) := by decide +kernel
theorem dX8_from_21 : decode cX8_from 21 = .ok (.getfield 73, 3) := by decide +kernel
theorem dX8_from_24 : decode cX8_from 24 = .ok (.iload_n 2, 1) := by decide +kernel
theorem dX8_from_25 : decode cX8_from 25 = .ok (.iaload, 1) := by decide +kernel
theorem dX8_from_26 : decode cX8_from 26 = .ok (.ifCond .ne 8, 3) := by decide +kernel
theorem dX8_from_29 : decode cX8_from 29 = .ok (.aload_n 0, 1) := by decide +kernel
theorem dX8_from_30 : decode cX8_from 30 = .ok (.invokevirtual 183, 3) := by decide +kernel
theorem dX8_from_33 : decode cX8_from 33 = .ok (.ireturn, 1) := by decide +kernel
theorem dX8_from_34 : decode cX8_from 34 = .ok (.aload_n 0, 1) := by decide +kernel
theorem dX8_from_35 : decode cX8_from 35 = .ok (.aload_n 0, 1) := by decide +kernel
theorem dX8_from_36 : decode cX8_from 36 = .ok (.getfield 73, 3) := by decide +kernel
theorem dX8_from_39 : decode cX8_from 39 = .ok (.iload_n 2, 1) := by decide +kernel
theorem dX8_from_40 : decode cX8_from 40 = .ok (.iaload, 1) := by decide +kernel
theorem dX8_from_41 : decode cX8_from 41 = .ok (.putfield 13, 3) := by decide +kernel
theorem dX8_from_44 : decode cX8_from 44 = .ok (.aload_n 0, 1) := by decide +kernel
theorem dX8_from_45 : decode cX8_from 45 = .ok (.aload_n 0, 1) := by decide +kernel
theorem dX8_from_46 : decode cX8_from 46 = .ok (.getfield 73, 3) := by decide +kernel
theorem dX8_from_49 : decode cX8_from 49 = .ok (.iload_n 2, 1) := by decide +kernel
theorem dX8_from_50 : decode cX8_from 50 = .ok (.iconst 1, 1) := by decide +kernel
theorem dX8_from_51 : decode cX8_from 51 = .ok (.iadd, 1) := by decide +kernel
theorem dX8_from_52 : decode cX8_from 52 = .ok (.iaload, 1) := by decide +kernel
theorem dX8_from_53 : decode cX8_from 53 = .ok (.putfield 17, 3) := by decide +kernel
theorem dX8_from_56 : decode cX8_from 56 = .ok (.aload_n 0, 1) := by decide +kernel
theorem dX8_from_57 : decode cX8_from 57 = .ok (.aload_n 0, 1) := by decide +kernel
theorem dX8_from_58 : decode cX8_from 58 = .ok (.getfield 73, 3) := by decide +kernel
theorem dX8_from_61 : decode cX8_from 61 = .ok (.iload_n 2, 1) := by decide +kernel
theorem dX8_from_62 : decode cX8_from 62 = .ok (.iconst 2, 1) := by decide +kernel
theorem dX8_from_63 : decode cX8_from 63 = .ok (.iadd, 1) := by decide +kernel
theorem dX8_from_64 : decode cX8_from 64 = .ok (.iaload, 1) := by decide +kernel
theorem dX8_from_65 : decode cX8_from 65 = .ok (.putfield 80, 3) := by decide +kernel
theorem dX8_from_68 : decode cX8_from 68 = .ok (.aload_n 0, 1) := by decide +kernel
theorem dX8_from_69 : decode cX8_from 69 = .ok (.aload_n 0, 1) := by decide +kernel
theorem dX8_from_70 : decode cX8_from 70 = .ok (.getfield 73, 3) := by decide +kernel
theorem dX8_from_73 : decode cX8_from 73 = .ok (.iload_n 2, 1) := by decide +kernel
theorem dX8_from_74 : decode cX8_from 74 = .ok (.iconst 3, 1) := by decide +kernel
theorem dX8_from_75 : decode cX8_from 75 = .ok (.iadd, 1) := by decide +kernel
theorem dX8_from_76 : decode cX8_from 76 = .ok (.iaload, 1) := by decide +kernel
theorem dX8_from_77 : decode cX8_from 77 = .ok (.putfield 83, 3) := by decide +kernel
theorem dX8_from_80 : decode cX8_from 80 = .ok (.aload_n 0, 1) := by decide +kernel
theorem dX8_from_81 : decode cX8_from 81 = .ok (.aload_n 0, 1) := by decide +kernel
theorem dX8_from_82 : decode cX8_from 82 = .ok (.getfield 73, 3) := by decide +kernel
theorem dX8_from_85 : decode cX8_from 85 = .ok (.iload_n 2, 1) := by decide +kernel
theorem dX8_from_86 : decode cX8_from 86 = .ok (.iconst 4, 1) := by decide +kernel
theorem dX8_from_87 : decode cX8_from 87 = .ok (.iadd, 1) := by decide +kernel
theorem dX8_from_88 : decode cX8_from 88 = .ok (.iaload, 1) := by decide +kernel
theorem dX8_from_89 : decode cX8_from 89 = .ok (.putfield 86, 3) := by decide +kernel
theorem dX8_from_92 : decode cX8_from 92 = .ok (.aload_n 0, 1) := by decide +kernel
theorem dX8_from_93 : decode cX8_from 93 = .ok (.aload_n 0, 1) := by decide +kernel
theorem dX8_from_94 : decode cX8_from 94 = .ok (.getfield 73, 3) := by decide +kernel
theorem dX8_from_97 : decode cX8_from 97 = .ok (.iload_n 2, 1) := by decide +kernel
theorem dX8_from_98 : decode cX8_from 98 = .ok (.iconst 5, 1) := by decide +kernel
theorem dX8_from_99 : decode cX8_from 99 = .ok (.iadd, 1) := by decide +kernel
theorem dX8_from_100 : decode cX8_from 100 = .ok (.iaload, 1) := by decide +kernel
theorem dX8_from_101 : decode cX8_from 101 = .ok (.putfield 89, 3) := by decide +kernel
theorem dX8_from_104 : decode cX8_from 104 = .ok (.aload_n 0, 1) := by decide +kernel
theorem dX8_from_105 : decode cX8_from 105 = .ok (.aload_n 0, 1) := by decide +kernel
theorem dX8_from_106 : decode cX8_from 106 = .ok (.getfield 73, 3) := by decide +kernel
theorem dX8_from_109 : decode cX8_from 109 = .ok (.iload_n 2, 1) := by decide +kernel
theorem dX8_from_110 : decode cX8_from 110 = .ok (.bipush 6, 2) := by decide +kernel
theorem dX8_from_112 : decode cX8_from 112 = .ok (.iadd, 1) := by decide +kernel
theorem dX8_from_113 : decode cX8_from 113 = .ok (.iaload, 1) := by decide +kernel
theorem dX8_from_114 : decode cX8_from 114 = .ok (.putfield 92, 3) := by decide +kernel
theorem dX8_from_117 : decode cX8_from 117 = .ok (.iconst 0, 1) := by decide +kernel
theorem dX8_from_118 : decode cX8_from 118 = .ok (.istore_n 3, 1) := by decide +kernel
theorem dX8_from_119 : decode cX8_from 119 = .ok (.iload_n 3, 1) := by decide +kernel
theorem dX8_from_120 : decode cX8_from 120 = .ok (.bipush 12, 2) := by decide +kernel
theorem dX8_from_122 : decode cX8_from 122 = .ok (.if_icmp .ge 60, 3) := by decide +kernel
theorem dX8_from_125 : decode cX8_from 125 = .ok (.aload_n 0, 1) := by decide +kernel
theorem dX8_from_126 : decode cX8_from 126 = .ok (.getfield 20, 3) := by decide +kernel
theorem dX8_from_129 : decode cX8_from 129 = .ok (.iload_n 3, 1) := by decide +kernel
theorem dX8_from_130 : decode cX8_from 130 = .ok (.aload_n 0, 1) := by decide +kernel
theorem dX8_from_131 : decode cX8_from 131 = .ok (.getfield 73, 3) := by decide +kernel
theorem dX8_from_134 : decode cX8_from 134 = .ok (.iload_n 2, 1) := by decide +kernel
theorem dX8_from_135 : decode cX8_from 135 = .ok (.bipush 7, 2) := by decide +kernel
theorem dX8_from_137 : decode cX8_from 137 = .ok (.iadd, 1) := by decide +kernel
theorem dX8_from_138 : decode cX8_from 138 = .ok (.iload_n 3, 1) := by decide +kernel
theorem dX8_from_139 : decode cX8_from 139 = .ok (.iadd, 1) := by decide +kernel
theorem dX8_from_140 : decode cX8_from 140 = .ok (.iaload, 1) := by decide +kernel
theorem dX8_from_141 : decode cX8_from 141 = .ok (.iastore, 1) := by decide +kernel
theorem dX8_from_142 : decode cX8_from 142 = .ok (.aload_n 0, 1) := by decide +kernel
theorem dX8_from_143 : decode cX8_from 143 = .ok (.getfield 23, 3) := by decide +kernel
theorem dX8_from_146 : decode cX8_from 146 = .ok (.iload_n 3, 1) := by decide +kernel
theorem dX8_from_147 : decode cX8_from 147 = .ok (.aload_n 0, 1) := by decide +kernel
theorem dX8_from_148 : decode cX8_from 148 = .ok (.getfield 73, 3) := by decide +kernel
theorem dX8_from_151 : decode cX8_from 151 = .ok (.iload_n 2, 1) := by decide +kernel
theorem dX8_from_152 : decode cX8_from 152 = .ok (.bipush 19, 2) := by decide +kernel
theorem dX8_from_154 : decode cX8_from 154 = .ok (.iadd, 1) := by decide +kernel
theorem dX8_from_155 : decode cX8_from 155 = .ok (.iload_n 3, 1) := by decide +kernel
theorem dX8_from_156 : decode cX8_from 156 = .ok (.iadd, 1) := by decide +kernel
theorem dX8_from_157 : decode cX8_from 157 = .ok (.iaload, 1) := by decide +kernel
theorem dX8_from_158 : decode cX8_from 158 = .ok (.iastore, 1) := by decide +kernel
theorem dX8_from_159 : decode cX8_from 159 = .ok (.aload_n 0, 1) := by decide +kernel
theorem dX8_from_160 : decode cX8_from 160 = .ok (.getfield 26, 3) := by decide +kernel
theorem dX8_from_163 : decode cX8_from 163 = .ok (.iload_n 3, 1) := by decide +kernel
theorem dX8_from_164 : decode cX8_from 164 = .ok (.aload_n 0, 1) := by decide +kernel
theorem dX8_from_165 : decode cX8_from 165 = .ok (.getfield 73, 3) := by decide +kernel
theorem dX8_from_168 : decode cX8_from 168 = .ok (.iload_n 2, 1) := by decide +kernel
theorem dX8_from_169 : decode cX8_from 169 = .ok (.bipush 31, 2) := by decide +kernel
theorem dX8_from_171 : decode cX8_from 171 = .ok (.iadd, 1) := by decide +kernel
theorem dX8_from_172 : decode cX8_from 172 = .ok (.iload_n 3, 1) := by decide +kernel
theorem dX8_from_173 : decode cX8_from 173 = .ok (.iadd, 1) := by decide +kernel
theorem dX8_from_174 : decode cX8_from 174 = .ok (.iaload, 1) := by decide +kernel
theorem dX8_from_175 : decode cX8_from 175 = .ok (.iastore, 1) := by decide +kernel
theorem dX8_from_176 : decode cX8_from 176 = .ok (.iinc 3 1, 3) := by decide +kernel
theorem dX8_from_179 : decode cX8_from 179 = .ok (.goto (-60), 3) := by decide +kernel
theorem dX8_from_182 : decode cX8_from 182 = .ok (.iconst 0, 1) := by decide +kernel
theorem dX8_from_183 : decode cX8_from 183 = .ok (.istore_n 3, 1) := by decide +kernel
theorem dX8_from_184 : decode cX8_from 184 = .ok (.iload_n 3, 1) := by decide +kernel
theorem dX8_from_185 : decode cX8_from 185 = .ok (.bipush 6, 2) := by decide +kernel
theorem dX8_from_187 : decode cX8_from 187 = .ok (.if_icmp .ge 26, 3) := by decide +kernel
theorem dX8_from_190 : decode cX8_from 190 = .ok (.aload_n 0, 1) := by decide +kernel
theorem dX8_from_191 : decode cX8_from 191 = .ok (.getfield 29, 3) := by decide +kernel
theorem dX8_from_194 : decode cX8_from 194 = .ok (.iload_n 3, 1) := by decide +kernel
theorem dX8_from_195 : decode cX8_from 195 = .ok (.aload_n 0, 1) := by decide +kernel
theorem dX8_from_196 : decode cX8_from 196 = .ok (.getfield 73, 3) := by decide +kernel
theorem dX8_from_199 : decode cX8_from 199 = .ok (.iload_n 2, 1) := by decide +kernel
theorem dX8_from_200 : decode cX8_from 200 = .ok (.bipush 43, 2) := by decide +kernel
theorem dX8_from_202 : decode cX8_from 202 = .ok (.iadd, 1) := by decide +kernel
theorem dX8_from_203 : decode cX8_from 203 = .ok (.iload_n 3, 1) := by decide +kernel
theorem dX8_from_204 : decode cX8_from 204 = .ok (.iadd, 1) := by decide +kernel
theorem dX8_from_205 : decode cX8_from 205 = .ok (.iaload, 1) := by decide +kernel
theorem dX8_from_206 : decode cX8_from 206 = .ok (.iastore, 1) := by decide +kernel
theorem dX8_from_207 : decode cX8_from 207 = .ok (.iinc 3 1, 3) := by decide +kernel
theorem dX8_from_210 : decode cX8_from 210 = .ok (.goto (-26), 3) := by decide +kernel
theorem dX8_from_213 : decode cX8_from 213 = .ok (.iconst 0, 1) := by decide +kernel
theorem dX8_from_214 : decode cX8_from 214 = .ok (.istore_n 3, 1) := by decide +kernel
theorem dX8_from_215 : decode cX8_from 215 = .ok (.iload_n 3, 1) := by decide +kernel
theorem dX8_from_216 : decode cX8_from 216 = .ok (.sipush 208, 3) := by decide +kernel
theorem dX8_from_219 : decode cX8_from 219 = .ok (.if_icmp .ge 26, 3) := by decide +kernel
theorem dX8_from_222 : decode cX8_from 222 = .ok (.aload_n 0, 1) := by decide +kernel
theorem dX8_from_223 : decode cX8_from 223 = .ok (.getfield 38, 3) := by decide +kernel
theorem dX8_from_226 : decode cX8_from 226 = .ok (.iload_n 3, 1) := by decide +kernel
theorem dX8_from_227 : decode cX8_from 227 = .ok (.aload_n 0, 1) := by decide +kernel
theorem dX8_from_228 : decode cX8_from 228 = .ok (.getfield 73, 3) := by decide +kernel
theorem dX8_from_231 : decode cX8_from 231 = .ok (.iload_n 2, 1) := by decide +kernel
theorem dX8_from_232 : decode cX8_from 232 = .ok (.bipush 49, 2) := by decide +kernel
theorem dX8_from_234 : decode cX8_from 234 = .ok (.iadd, 1) := by decide +kernel
theorem dX8_from_235 : decode cX8_from 235 = .ok (.iload_n 3, 1) := by decide +kernel
theorem dX8_from_236 : decode cX8_from 236 = .ok (.iadd, 1) := by decide +kernel
theorem dX8_from_237 : decode cX8_from 237 = .ok (.iaload, 1) := by decide +kernel
theorem dX8_from_238 : decode cX8_from 238 = .ok (.iastore, 1) := by decide +kernel
theorem dX8_from_239 : decode cX8_from 239 = .ok (.iinc 3 1, 3) := by decide +kernel
theorem dX8_from_242 : decode cX8_from 242 = .ok (.goto (-27), 3) := by decide +kernel
theorem dX8_from_245 : decode cX8_from 245 = .ok (.iconst 1, 1) := by decide +kernel
theorem dX8_from_246 : decode cX8_from 246 = .ok (.ireturn, 1) := by decide +kernel
theorem dX8_status_0 : decode cX8_status 0 = .ok (.iload_n 1, 1) := by decide +kernel
theorem dX8_status_1 : decode cX8_status 1 = .ok (.iconst 0, 1) := by decide +kernel
theorem dX8_status_2 : decode cX8_status 2 = .ok (.iconst 2, 1) := by decide +kernel
theorem dX8_status_3 : decode cX8_status 3 = .ok (.invokestatic 95, 3) := by decide +kernel
theorem dX8_status_6 : decode cX8_status 6 = .ok (.ifCond .ne 15, 3) := by decide +kernel
theorem dX8_status_9 : decode cX8_status 9 = .ok (.aload_n 0, 1) := by decide +kernel
theorem dX8_status_10 : decode cX8_status 10 = .ok (.getfield 1, 3) := by decide +kernel
theorem dX8_status_13 : decode cX8_status 13 = .ok (.iconst 0, 1) := by decide +kernel
theorem dX8_status_14 : decode cX8_status 14 = .ok (.dup2, 1) := by decide +kernel
theorem dX8_status_15 : decode cX8_status 15 = .ok (.iaload, 1) := by decide +kernel
theorem dX8_status_16 : decode cX8_status 16 = .ok (.iconst 1, 1) := by decide +kernel
theorem dX8_status_17 : decode cX8_status 17 = .ok (.iadd, 1) := by decide +kernel
theorem dX8_status_18 : decode cX8_status 18 = .ok (.iastore, 1) := by decide +kernel
theorem dX8_status_19 : decode cX8_status 19 = .ok (.iconst (-1), 1) := by decide +kernel
theorem dX8_status_20 : decode cX8_status 20 = .ok (.ireturn, 1) := by decide +kernel
theorem dX8_status_21 : decode cX8_status 21 = .ok (.aload_n 0, 1) := by decide +kernel
theorem dX8_status_22 : decode cX8_status 22 = .ok (.getfield 1, 3) := by decide +kernel
theorem dX8_status_25 : decode cX8_status 25 = .ok (.iload_n 1, 1) := by decide +kernel
theorem dX8_status_26 : decode cX8_status 26 = .ok (.iaload, 1) := by decide +kernel
theorem dX8_status_27 : decode cX8_status 27 = .ok (.ireturn, 1) := by decide +kernel
theorem dX8_countOf_0 : decode cX8_countOf 0 = .ok (.iconst 0, 1) := by decide +kernel
theorem dX8_countOf_1 : decode cX8_countOf 1 = .ok (.istore_n 2, 1) := by decide +kernel
theorem dX8_countOf_2 : decode cX8_countOf 2 = .ok (.iconst 0, 1) := by decide +kernel
theorem dX8_countOf_3 : decode cX8_countOf 3 = .ok (.istore_n 3, 1) := by decide +kernel
theorem dX8_countOf_4 : decode cX8_countOf 4 = .ok (.iload_n 3, 1) := by decide +kernel
theorem dX8_countOf_5 : decode cX8_countOf 5 = .ok (.aload_n 0, 1) := by decide +kernel
theorem dX8_countOf_6 : decode cX8_countOf 6 = .ok (.getfield 80, 3) := by decide +kernel
theorem dX8_countOf_9 : decode cX8_countOf 9 = .ok (.if_icmp .ge 27, 3) := by decide +kernel
theorem dX8_countOf_12 : decode cX8_countOf 12 = .ok (.iload_n 2, 1) := by decide +kernel
theorem dX8_countOf_13 : decode cX8_countOf 13 = .ok (.aload_n 0, 1) := by decide +kernel
theorem dX8_countOf_14 : decode cX8_countOf 14 = .ok (.getfield 23, 3) := by decide +kernel
theorem dX8_countOf_17 : decode cX8_countOf 17 = .ok (.iload_n 3, 1) := by decide +kernel
theorem dX8_countOf_18 : decode cX8_countOf 18 = .ok (.iaload, 1) := by decide +kernel
theorem dX8_countOf_19 : decode cX8_countOf 19 = .ok (.iconst (-1), 1) := by decide +kernel
theorem dX8_countOf_20 : decode cX8_countOf 20 = .ok (.if_icmp .ne 7, 3) := by decide +kernel
theorem dX8_countOf_23 : decode cX8_countOf 23 = .ok (.iconst 0, 1) := by decide +kernel
theorem dX8_countOf_24 : decode cX8_countOf 24 = .ok (.goto 4, 3) := by decide +kernel
theorem dX8_countOf_27 : decode cX8_countOf 27 = .ok (.iconst 1, 1) := by decide +kernel
theorem dX8_countOf_28 : decode cX8_countOf 28 = .ok (.iadd, 1) := by decide +kernel
theorem dX8_countOf_29 : decode cX8_countOf 29 = .ok (.istore_n 2, 1) := by decide +kernel
theorem dX8_countOf_30 : decode cX8_countOf 30 = .ok (.iinc 3 1, 3) := by decide +kernel
theorem dX8_countOf_33 : decode cX8_countOf 33 = .ok (.goto (-29), 3) := by decide +kernel
theorem dX8_countOf_36 : decode cX8_countOf 36 = .ok (.iload_n 1, 1) := by decide +kernel
theorem dX8_countOf_37 : decode cX8_countOf 37 = .ok (.tableswitch 84 0 7 #[47, 52, 54, 59, 64, 69, 74, 79], 47) := by decide +kernel
theorem dX8_countOf_84 : decode cX8_countOf 84 = .ok (.aload_n 0, 1) := by decide +kernel
theorem dX8_countOf_85 : decode cX8_countOf 85 = .ok (.getfield 80, 3) := by decide +kernel
theorem dX8_countOf_88 : decode cX8_countOf 88 = .ok (.ireturn, 1) := by decide +kernel
theorem dX8_countOf_89 : decode cX8_countOf 89 = .ok (.iload_n 2, 1) := by decide +kernel
theorem dX8_countOf_90 : decode cX8_countOf 90 = .ok (.ireturn, 1) := by decide +kernel
theorem dX8_countOf_91 : decode cX8_countOf 91 = .ok (.aload_n 0, 1) := by decide +kernel
theorem dX8_countOf_92 : decode cX8_countOf 92 = .ok (.getfield 13, 3) := by decide +kernel
theorem dX8_countOf_95 : decode cX8_countOf 95 = .ok (.ireturn, 1) := by decide +kernel
theorem dX8_countOf_96 : decode cX8_countOf 96 = .ok (.aload_n 0, 1) := by decide +kernel
theorem dX8_countOf_97 : decode cX8_countOf 97 = .ok (.getfield 17, 3) := by decide +kernel
theorem dX8_countOf_100 : decode cX8_countOf 100 = .ok (.ireturn, 1) := by decide +kernel
theorem dX8_countOf_101 : decode cX8_countOf 101 = .ok (.aload_n 0, 1) := by decide +kernel
theorem dX8_countOf_102 : decode cX8_countOf 102 = .ok (.getfield 83, 3) := by decide +kernel
theorem dX8_countOf_105 : decode cX8_countOf 105 = .ok (.ireturn, 1) := by decide +kernel
theorem dX8_countOf_106 : decode cX8_countOf 106 = .ok (.aload_n 0, 1) := by decide +kernel
theorem dX8_countOf_107 : decode cX8_countOf 107 = .ok (.getfield 86, 3) := by decide +kernel
theorem dX8_countOf_110 : decode cX8_countOf 110 = .ok (.ireturn, 1) := by decide +kernel
theorem dX8_countOf_111 : decode cX8_countOf 111 = .ok (.aload_n 0, 1) := by decide +kernel
theorem dX8_countOf_112 : decode cX8_countOf 112 = .ok (.getfield 89, 3) := by decide +kernel
theorem dX8_countOf_115 : decode cX8_countOf 115 = .ok (.ireturn, 1) := by decide +kernel
theorem dX8_countOf_116 : decode cX8_countOf 116 = .ok (.aload_n 0, 1) := by decide +kernel
theorem dX8_countOf_117 : decode cX8_countOf 117 = .ok (.getfield 92, 3) := by decide +kernel
theorem dX8_countOf_120 : decode cX8_countOf 120 = .ok (.ireturn, 1) := by decide +kernel
theorem dX8_countOf_121 : decode cX8_countOf 121 = .ok (.aload_n 0, 1) := by decide +kernel
theorem dX8_countOf_122 : decode cX8_countOf 122 = .ok (.getfield 127, 3) := by decide +kernel
theorem dX8_countOf_125 : decode cX8_countOf 125 = .ok (.ireturn, 1) := by decide +kernel
theorem dX8_count_0 : decode cX8_count 0 = .ok (.iload_n 1, 1) := by decide +kernel
theorem dX8_count_1 : decode cX8_count 1 = .ok (.iconst 0, 1) := by decide +kernel
theorem dX8_count_2 : decode cX8_count 2 = .ok (.bipush 8, 2) := by decide +kernel
theorem dX8_count_4 : decode cX8_count 4 = .ok (.invokestatic 95, 3) := by decide +kernel
theorem dX8_count_7 : decode cX8_count 7 = .ok (.ifCond .eq 11, 3) := by decide +kernel
theorem dX8_count_10 : decode cX8_count 10 = .ok (.aload_n 0, 1) := by decide +kernel
theorem dX8_count_11 : decode cX8_count 11 = .ok (.iload_n 1, 1) := by decide +kernel
theorem dX8_count_12 : decode cX8_count 12 = .ok (.invokevirtual 261, 3) := by decide +kernel
theorem dX8_count_15 : decode cX8_count 15 = .ok (.goto 7, 3) := by decide +kernel
theorem dX8_count_18 : decode cX8_count 18 = .ok (.aload_n 0, 1) := by decide +kernel
theorem dX8_count_19 : decode cX8_count 19 = .ok (.invokevirtual 103, 3) := by decide +kernel
theorem dX8_count_22 : decode cX8_count 22 = .ok (.ireturn, 1) := by decide +kernel
theorem dX8_mix_0 : decode cX8_mix 0 = .ok (.aload_n 0, 1) := by decide +kernel
theorem dX8_mix_1 : decode cX8_mix 1 = .ok (.ldc2_w 264, 3) := by decide +kernel
theorem dX8_mix_4 : decode cX8_mix 4 = .ok (.aload_n 0, 1) := by decide +kernel
theorem dX8_mix_5 : decode cX8_mix 5 = .ok (.getfield 266, 3) := by decide +kernel
theorem dX8_mix_8 : decode cX8_mix 8 = .ok (.lmul, 1) := by decide +kernel
theorem dX8_mix_9 : decode cX8_mix 9 = .ok (.lload_n 1, 1) := by decide +kernel
theorem dX8_mix_10 : decode cX8_mix 10 = .ok (.ladd, 1) := by decide +kernel
theorem dX8_mix_11 : decode cX8_mix 11 = .ok (.putfield 266, 3) := by decide +kernel
theorem dX8_mix_14 : decode cX8_mix 14 = .ok (.return_, 1) := by decide +kernel
theorem dX8_digest_0 : decode cX8_digest 0 = .ok (.aload_n 0, 1) := by decide +kernel
theorem dX8_digest_1 : decode cX8_digest 1 = .ok (.ldc2_w 269, 3) := by decide +kernel
theorem dX8_digest_4 : decode cX8_digest 4 = .ok (.putfield 266, 3) := by decide +kernel
theorem dX8_digest_7 : decode cX8_digest 7 = .ok (.iconst 0, 1) := by decide +kernel
theorem dX8_digest_8 : decode cX8_digest 8 = .ok (.istore_n 1, 1) := by decide +kernel
theorem dX8_digest_9 : decode cX8_digest 9 = .ok (.iload_n 1, 1) := by decide +kernel
theorem dX8_digest_10 : decode cX8_digest 10 = .ok (.bipush 8, 2) := by decide +kernel
theorem dX8_digest_12 : decode cX8_digest 12 = .ok (.if_icmp .gt 19, 3) := by decide +kernel
theorem dX8_digest_15 : decode cX8_digest 15 = .ok (.aload_n 0, 1) := by decide +kernel
theorem dX8_digest_16 : decode cX8_digest 16 = .ok (.aload_n 0, 1) := by decide +kernel
theorem dX8_digest_17 : decode cX8_digest 17 = .ok (.iload_n 1, 1) := by decide +kernel
theorem dX8_digest_18 : decode cX8_digest 18 = .ok (.invokevirtual 261, 3) := by decide +kernel
theorem dX8_digest_21 : decode cX8_digest 21 = .ok (.i2l, 1) := by decide +kernel
theorem dX8_digest_22 : decode cX8_digest 22 = .ok (.invokevirtual 271, 3) := by decide +kernel
theorem dX8_digest_25 : decode cX8_digest 25 = .ok (.iinc 1 1, 3) := by decide +kernel
theorem dX8_digest_28 : decode cX8_digest 28 = .ok (.goto (-19), 3) := by decide +kernel
theorem dX8_digest_31 : decode cX8_digest 31 = .ok (.iconst 0, 1) := by decide +kernel
theorem dX8_digest_32 : decode cX8_digest 32 = .ok (.istore_n 1, 1) := by decide +kernel
theorem dX8_digest_33 : decode cX8_digest 33 = .ok (.iload_n 1, 1) := by decide +kernel
theorem dX8_digest_34 : decode cX8_digest 34 = .ok (.aload_n 0, 1) := by decide +kernel
theorem dX8_digest_35 : decode cX8_digest 35 = .ok (.getfield 80, 3) := by decide +kernel
theorem dX8_digest_38 : decode cX8_digest 38 = .ok (.if_icmp .ge 42, 3) := by decide +kernel
theorem dX8_digest_41 : decode cX8_digest 41 = .ok (.aload_n 0, 1) := by decide +kernel
theorem dX8_digest_42 : decode cX8_digest 42 = .ok (.aload_n 0, 1) := by decide +kernel
theorem dX8_digest_43 : decode cX8_digest 43 = .ok (.getfield 20, 3) := by decide +kernel
theorem dX8_digest_46 : decode cX8_digest 46 = .ok (.iload_n 1, 1) := by decide +kernel
theorem dX8_digest_47 : decode cX8_digest 47 = .ok (.iaload, 1) := by decide +kernel
theorem dX8_digest_48 : decode cX8_digest 48 = .ok (.i2l, 1) := by decide +kernel
theorem dX8_digest_49 : decode cX8_digest 49 = .ok (.invokevirtual 271, 3) := by decide +kernel
theorem dX8_digest_52 : decode cX8_digest 52 = .ok (.aload_n 0, 1) := by decide +kernel
theorem dX8_digest_53 : decode cX8_digest 53 = .ok (.aload_n 0, 1) := by decide +kernel
theorem dX8_digest_54 : decode cX8_digest 54 = .ok (.getfield 23, 3) := by decide +kernel
theorem dX8_digest_57 : decode cX8_digest 57 = .ok (.iload_n 1, 1) := by decide +kernel
theorem dX8_digest_58 : decode cX8_digest 58 = .ok (.iaload, 1) := by decide +kernel
theorem dX8_digest_59 : decode cX8_digest 59 = .ok (.i2l, 1) := by decide +kernel
theorem dX8_digest_60 : decode cX8_digest 60 = .ok (.invokevirtual 271, 3) := by decide +kernel
theorem dX8_digest_63 : decode cX8_digest 63 = .ok (.aload_n 0, 1) := by decide +kernel
theorem dX8_digest_64 : decode cX8_digest 64 = .ok (.aload_n 0, 1) := by decide +kernel
theorem dX8_digest_65 : decode cX8_digest 65 = .ok (.getfield 26, 3) := by decide +kernel
theorem dX8_digest_68 : decode cX8_digest 68 = .ok (.iload_n 1, 1) := by decide +kernel
theorem dX8_digest_69 : decode cX8_digest 69 = .ok (.iaload, 1) := by decide +kernel
theorem dX8_digest_70 : decode cX8_digest 70 = .ok (.i2l, 1) := by decide +kernel
theorem dX8_digest_71 : decode cX8_digest 71 = .ok (.invokevirtual 271, 3) := by decide +kernel
theorem dX8_digest_74 : decode cX8_digest 74 = .ok (.iinc 1 1, 3) := by decide +kernel
theorem dX8_digest_77 : decode cX8_digest 77 = .ok (.goto (-44), 3) := by decide +kernel
theorem dX8_digest_80 : decode cX8_digest 80 = .ok (.iconst 0, 1) := by decide +kernel
theorem dX8_digest_81 : decode cX8_digest 81 = .ok (.istore_n 1, 1) := by decide +kernel
theorem dX8_digest_82 : decode cX8_digest 82 = .ok (.iload_n 1, 1) := by decide +kernel
theorem dX8_digest_83 : decode cX8_digest 83 = .ok (.aload_n 0, 1) := by decide +kernel
theorem dX8_digest_84 : decode cX8_digest 84 = .ok (.getfield 89, 3) := by decide +kernel
theorem dX8_digest_87 : decode cX8_digest 87 = .ok (.if_icmp .ge 20, 3) := by decide +kernel
theorem dX8_digest_90 : decode cX8_digest 90 = .ok (.aload_n 0, 1) := by decide +kernel
theorem dX8_digest_91 : decode cX8_digest 91 = .ok (.aload_n 0, 1) := by decide +kernel
theorem dX8_digest_92 : decode cX8_digest 92 = .ok (.getfield 29, 3) := by decide +kernel
theorem dX8_digest_95 : decode cX8_digest 95 = .ok (.iload_n 1, 1) := by decide +kernel
theorem dX8_digest_96 : decode cX8_digest 96 = .ok (.iaload, 1) := by decide +kernel
theorem dX8_digest_97 : decode cX8_digest 97 = .ok (.i2l, 1) := by decide +kernel
theorem dX8_digest_98 : decode cX8_digest 98 = .ok (.invokevirtual 271, 3) := by decide +kernel
theorem dX8_digest_101 : decode cX8_digest 101 = .ok (.iinc 1 1, 3) := by decide +kernel
theorem dX8_digest_104 : decode cX8_digest 104 = .ok (.goto (-22), 3) := by decide +kernel
theorem dX8_digest_107 : decode cX8_digest 107 = .ok (.aload_n 0, 1) := by decide +kernel
theorem dX8_digest_108 : decode cX8_digest 108 = .ok (.aload_n 0, 1) := by decide +kernel
theorem dX8_digest_109 : decode cX8_digest 109 = .ok (.getfield 241, 3) := by decide +kernel
theorem dX8_digest_112 : decode cX8_digest 112 = .ok (.invokevirtual 271, 3) := by decide +kernel
theorem dX8_digest_115 : decode cX8_digest 115 = .ok (.aload_n 0, 1) := by decide +kernel
theorem dX8_digest_116 : decode cX8_digest 116 = .ok (.aload_n 0, 1) := by decide +kernel
theorem dX8_digest_117 : decode cX8_digest 117 = .ok (.getfield 62, 3) := by decide +kernel
theorem dX8_digest_120 : decode cX8_digest 120 = .ok (.invokevirtual 271, 3) := by decide +kernel
theorem dX8_digest_123 : decode cX8_digest 123 = .ok (.aload_n 0, 1) := by decide +kernel
theorem dX8_digest_124 : decode cX8_digest 124 = .ok (.getfield 266, 3) := by decide +kernel
theorem dX8_digest_127 : decode cX8_digest 127 = .ok (.lreturn, 1) := by decide +kernel
