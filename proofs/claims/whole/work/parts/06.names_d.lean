theorem dX0_init_0 : decode cX0_init 0 = .ok (.aload_n 0, 1) := by decide +kernel
theorem dX0_init_1 : decode cX0_init 1 = .ok (.invokespecial 3, 3) := by decide +kernel
theorem dX0_init_4 : decode cX0_init 4 = .ok (.aload_n 0, 1) := by decide +kernel
theorem dX0_init_5 : decode cX0_init 5 = .ok (.lconst 0, 1) := by decide +kernel
theorem dX0_init_6 : decode cX0_init 6 = .ok (.putfield 9, 3) := by decide +kernel
theorem dX0_init_9 : decode cX0_init 9 = .ok (.aload_n 0, 1) := by decide +kernel
theorem dX0_init_10 : decode cX0_init 10 = .ok (.lconst 1, 1) := by decide +kernel
theorem dX0_init_11 : decode cX0_init 11 = .ok (.putfield 15, 3) := by decide +kernel
theorem dX0_init_14 : decode cX0_init 14 = .ok (.aload_n 0, 1) := by decide +kernel
theorem dX0_init_15 : decode cX0_init 15 = .ok (.bipush 31, 2) := by decide +kernel
theorem dX0_init_17 : decode cX0_init 17 = .ok (.newarray .long, 2) := by decide +kernel
theorem dX0_init_19 : decode cX0_init 19 = .ok (.putfield 18, 3) := by decide +kernel
theorem dX0_init_22 : decode cX0_init 22 = .ok (.aload_n 0, 1) := by decide +kernel
theorem dX0_init_23 : decode cX0_init 23 = .ok (.bipush 31, 2) := by decide +kernel
theorem dX0_init_25 : decode cX0_init 25 = .ok (.newarray .long, 2) := by decide +kernel
theorem dX0_init_27 : decode cX0_init 27 = .ok (.putfield 22, 3) := by decide +kernel
theorem dX0_init_30 : decode cX0_init 30 = .ok (.return_, 1) := by decide +kernel
theorem dX0_reckon_0 : decode cX0_reckon 0 = .ok (.lconst 1, 1) := by decide +kernel
theorem dX0_reckon_1 : decode cX0_reckon 1 = .ok (.lstore_n 3, 1) := by decide +kernel
theorem dX0_reckon_2 : decode cX0_reckon 2 = .ok (.aload_n 0, 1) := by decide +kernel
theorem dX0_reckon_3 : decode cX0_reckon 3 = .ok (.getfield 18, 3) := by decide +kernel
theorem dX0_reckon_6 : decode cX0_reckon 6 = .ok (.lconst 0, 1) := by decide +kernel
theorem dX0_reckon_7 : decode cX0_reckon 7 = .ok (.invokestatic 25, 3) := by decide +kernel
theorem dX0_reckon_10 : decode cX0_reckon 10 = .ok (.aload_n 0, 1) := by decide +kernel
theorem dX0_reckon_11 : decode cX0_reckon 11 = .ok (.getfield 18, 3) := by decide +kernel
theorem dX0_reckon_14 : decode cX0_reckon 14 = .ok (.aload_n 1, 1) := by decide +kernel
theorem dX0_reckon_15 : decode cX0_reckon 15 = .ok (.getfield 31, 3) := by decide +kernel
theorem dX0_reckon_18 : decode cX0_reckon 18 = .ok (.lconst 1, 1) := by decide +kernel
theorem dX0_reckon_19 : decode cX0_reckon 19 = .ok (.lastore, 1) := by decide +kernel
theorem dX0_reckon_20 : decode cX0_reckon 20 = .ok (.iconst 0, 1) := by decide +kernel
theorem dX0_reckon_21 : decode cX0_reckon 21 = .ok (.istore 5, 2) := by decide +kernel
theorem dX0_reckon_23 : decode cX0_reckon 23 = .ok (.iload 5, 2) := by decide +kernel
theorem dX0_reckon_25 : decode cX0_reckon 25 = .ok (.aload_n 1, 1) := by decide +kernel
theorem dX0_reckon_26 : decode cX0_reckon 26 = .ok (.getfield 37, 3) := by decide +kernel
theorem dX0_reckon_29 : decode cX0_reckon 29 = .ok (.if_icmp .ge 75, 3) := by decide +kernel
theorem dX0_reckon_32 : decode cX0_reckon 32 = .ok (.aload_n 1, 1) := by decide +kernel
theorem dX0_reckon_33 : decode cX0_reckon 33 = .ok (.getfield 40, 3) := by decide +kernel
theorem dX0_reckon_36 : decode cX0_reckon 36 = .ok (.getfield 44, 3) := by decide +kernel
theorem dX0_reckon_39 : decode cX0_reckon 39 = .ok (.iload 5, 2) := by decide +kernel
theorem dX0_reckon_41 : decode cX0_reckon 41 = .ok (.iaload, 1) := by decide +kernel
theorem dX0_reckon_42 : decode cX0_reckon 42 = .ok (.iconst (-1), 1) := by decide +kernel
theorem dX0_reckon_43 : decode cX0_reckon 43 = .ok (.if_icmp .eq 7, 3) := by decide +kernel
theorem dX0_reckon_46 : decode cX0_reckon 46 = .ok (.iconst 1, 1) := by decide +kernel
theorem dX0_reckon_47 : decode cX0_reckon 47 = .ok (.goto 4, 3) := by decide +kernel
theorem dX0_reckon_50 : decode cX0_reckon 50 = .ok (.iconst 0, 1) := by decide +kernel
theorem dX0_reckon_51 : decode cX0_reckon 51 = .ok (.istore 6, 2) := by decide +kernel
theorem dX0_reckon_53 : decode cX0_reckon 53 = .ok (.aload_n 0, 1) := by decide +kernel
theorem dX0_reckon_54 : decode cX0_reckon 54 = .ok (.aload_n 1, 1) := by decide +kernel
theorem dX0_reckon_55 : decode cX0_reckon 55 = .ok (.iload 5, 2) := by decide +kernel
theorem dX0_reckon_57 : decode cX0_reckon 57 = .ok (.iload 6, 2) := by decide +kernel
theorem dX0_reckon_59 : decode cX0_reckon 59 = .ok (.ifCond .eq 7, 3) := by decide +kernel
theorem dX0_reckon_62 : decode cX0_reckon 62 = .ok (.iload_n 2, 1) := by decide +kernel
theorem dX0_reckon_63 : decode cX0_reckon 63 = .ok (.goto 4, 3) := by decide +kernel
theorem dX0_reckon_66 : decode cX0_reckon 66 = .ok (.iconst 1, 1) := by decide +kernel
theorem dX0_reckon_67 : decode cX0_reckon 67 = .ok (.iload 6, 2) := by decide +kernel
theorem dX0_reckon_69 : decode cX0_reckon 69 = .ok (.ifCond .eq 10, 3) := by decide +kernel
theorem dX0_reckon_72 : decode cX0_reckon 72 = .ok (.bipush 10, 2) := by decide +kernel
theorem dX0_reckon_74 : decode cX0_reckon 74 = .ok (.iload_n 2, 1) := by decide +kernel
theorem dX0_reckon_75 : decode cX0_reckon 75 = .ok (.isub, 1) := by decide +kernel
theorem dX0_reckon_76 : decode cX0_reckon 76 = .ok (.goto 4, 3) := by decide +kernel
theorem dX0_reckon_79 : decode cX0_reckon 79 = .ok (.iconst 0, 1) := by decide +kernel
theorem dX0_reckon_80 : decode cX0_reckon 80 = .ok (.invokevirtual 50, 3) := by decide +kernel
theorem dX0_reckon_83 : decode cX0_reckon 83 = .ok (.lload_n 3, 1) := by decide +kernel
theorem dX0_reckon_84 : decode cX0_reckon 84 = .ok (.iload 6, 2) := by decide +kernel
theorem dX0_reckon_86 : decode cX0_reckon 86 = .ok (.ifCond .eq 9, 3) := by decide +kernel
theorem dX0_reckon_89 : decode cX0_reckon 89 = .ok (.ldc2_w 54, 3) := by decide +kernel
theorem dX0_reckon_92 : decode cX0_reckon 92 = .ok (.goto 4, 3) := by decide +kernel
theorem dX0_reckon_95 : decode cX0_reckon 95 = .ok (.lconst 1, 1) := by decide +kernel
theorem dX0_reckon_96 : decode cX0_reckon 96 = .ok (.lmul, 1) := by decide +kernel
theorem dX0_reckon_97 : decode cX0_reckon 97 = .ok (.lstore_n 3, 1) := by decide +kernel
theorem dX0_reckon_98 : decode cX0_reckon 98 = .ok (.iinc 5 1, 3) := by decide +kernel
theorem dX0_reckon_101 : decode cX0_reckon 101 = .ok (.goto (-78), 3) := by decide +kernel
theorem dX0_reckon_104 : decode cX0_reckon 104 = .ok (.lconst 0, 1) := by decide +kernel
theorem dX0_reckon_105 : decode cX0_reckon 105 = .ok (.lstore 5, 2) := by decide +kernel
theorem dX0_reckon_107 : decode cX0_reckon 107 = .ok (.iconst 0, 1) := by decide +kernel
theorem dX0_reckon_108 : decode cX0_reckon 108 = .ok (.istore 7, 2) := by decide +kernel
theorem dX0_reckon_110 : decode cX0_reckon 110 = .ok (.iload 7, 2) := by decide +kernel
theorem dX0_reckon_112 : decode cX0_reckon 112 = .ok (.aload_n 1, 1) := by decide +kernel
theorem dX0_reckon_113 : decode cX0_reckon 113 = .ok (.getfield 31, 3) := by decide +kernel
theorem dX0_reckon_116 : decode cX0_reckon 116 = .ok (.if_icmp .gt 21, 3) := by decide +kernel
theorem dX0_reckon_119 : decode cX0_reckon 119 = .ok (.lload 5, 2) := by decide +kernel
theorem dX0_reckon_121 : decode cX0_reckon 121 = .ok (.aload_n 0, 1) := by decide +kernel
theorem dX0_reckon_122 : decode cX0_reckon 122 = .ok (.getfield 18, 3) := by decide +kernel
theorem dX0_reckon_125 : decode cX0_reckon 125 = .ok (.iload 7, 2) := by decide +kernel
theorem dX0_reckon_127 : decode cX0_reckon 127 = .ok (.laload, 1) := by decide +kernel
theorem dX0_reckon_128 : decode cX0_reckon 128 = .ok (.ladd, 1) := by decide +kernel
theorem dX0_reckon_129 : decode cX0_reckon 129 = .ok (.lstore 5, 2) := by decide +kernel
theorem dX0_reckon_131 : decode cX0_reckon 131 = .ok (.iinc 7 1, 3) := by decide +kernel
theorem dX0_reckon_134 : decode cX0_reckon 134 = .ok (.goto (-24), 3) := by decide +kernel
theorem dX0_reckon_137 : decode cX0_reckon 137 = .ok (.aload_n 0, 1) := by decide +kernel
theorem dX0_reckon_138 : decode cX0_reckon 138 = .ok (.lload 5, 2) := by decide +kernel
theorem dX0_reckon_140 : decode cX0_reckon 140 = .ok (.lload_n 3, 1) := by decide +kernel
theorem dX0_reckon_141 : decode cX0_reckon 141 = .ok (.invokevirtual 56, 3) := by decide +kernel
theorem dX0_reckon_144 : decode cX0_reckon 144 = .ok (.return_, 1) := by decide +kernel
theorem dX0_step_0 : decode cX0_step 0 = .ok (.aload_n 0, 1) := by decide +kernel
theorem dX0_step_1 : decode cX0_step 1 = .ok (.getfield 22, 3) := by decide +kernel
theorem dX0_step_4 : decode cX0_step 4 = .ok (.lconst 0, 1) := by decide +kernel
theorem dX0_step_5 : decode cX0_step 5 = .ok (.invokestatic 25, 3) := by decide +kernel
theorem dX0_step_8 : decode cX0_step 8 = .ok (.aload_n 1, 1) := by decide +kernel
theorem dX0_step_9 : decode cX0_step 9 = .ok (.getfield 60, 3) := by decide +kernel
theorem dX0_step_12 : decode cX0_step 12 = .ok (.iload_n 2, 1) := by decide +kernel
theorem dX0_step_13 : decode cX0_step 13 = .ok (.iaload, 1) := by decide +kernel
theorem dX0_step_14 : decode cX0_step 14 = .ok (.istore 5, 2) := by decide +kernel
theorem dX0_step_16 : decode cX0_step 16 = .ok (.iload 5, 2) := by decide +kernel
theorem dX0_step_18 : decode cX0_step 18 = .ok (.aload_n 1, 1) := by decide +kernel
theorem dX0_step_19 : decode cX0_step 19 = .ok (.getfield 31, 3) := by decide +kernel
theorem dX0_step_22 : decode cX0_step 22 = .ok (.if_icmp .gt 81, 3) := by decide +kernel
theorem dX0_step_25 : decode cX0_step 25 = .ok (.iload 5, 2) := by decide +kernel
theorem dX0_step_27 : decode cX0_step 27 = .ok (.aload_n 1, 1) := by decide +kernel
theorem dX0_step_28 : decode cX0_step 28 = .ok (.getfield 60, 3) := by decide +kernel
theorem dX0_step_31 : decode cX0_step 31 = .ok (.iload_n 2, 1) := by decide +kernel
theorem dX0_step_32 : decode cX0_step 32 = .ok (.iaload, 1) := by decide +kernel
theorem dX0_step_33 : decode cX0_step 33 = .ok (.isub, 1) := by decide +kernel
theorem dX0_step_34 : decode cX0_step 34 = .ok (.istore 6, 2) := by decide +kernel
theorem dX0_step_36 : decode cX0_step 36 = .ok (.aload_n 1, 1) := by decide +kernel
theorem dX0_step_37 : decode cX0_step 37 = .ok (.getfield 40, 3) := by decide +kernel
theorem dX0_step_40 : decode cX0_step 40 = .ok (.getfield 44, 3) := by decide +kernel
theorem dX0_step_43 : decode cX0_step 43 = .ok (.iload_n 2, 1) := by decide +kernel
theorem dX0_step_44 : decode cX0_step 44 = .ok (.iaload, 1) := by decide +kernel
theorem dX0_step_45 : decode cX0_step 45 = .ok (.iload 6, 2) := by decide +kernel
theorem dX0_step_47 : decode cX0_step 47 = .ok (.aload_n 1, 1) := by decide +kernel
theorem dX0_step_48 : decode cX0_step 48 = .ok (.getfield 31, 3) := by decide +kernel
theorem dX0_step_51 : decode cX0_step 51 = .ok (.invokestatic 63, 3) := by decide +kernel
theorem dX0_step_54 : decode cX0_step 54 = .ok (.istore 7, 2) := by decide +kernel
theorem dX0_step_56 : decode cX0_step 56 = .ok (.aload_n 0, 1) := by decide +kernel
theorem dX0_step_57 : decode cX0_step 57 = .ok (.getfield 22, 3) := by decide +kernel
theorem dX0_step_60 : decode cX0_step 60 = .ok (.iload 6, 2) := by decide +kernel
theorem dX0_step_62 : decode cX0_step 62 = .ok (.dup2, 1) := by decide +kernel
theorem dX0_step_63 : decode cX0_step 63 = .ok (.laload, 1) := by decide +kernel
theorem dX0_step_64 : decode cX0_step 64 = .ok (.aload_n 0, 1) := by decide +kernel
theorem dX0_step_65 : decode cX0_step 65 = .ok (.getfield 18, 3) := by decide +kernel
theorem dX0_step_68 : decode cX0_step 68 = .ok (.iload 5, 2) := by decide +kernel
theorem dX0_step_70 : decode cX0_step 70 = .ok (.laload, 1) := by decide +kernel
theorem dX0_step_71 : decode cX0_step 71 = .ok (.iload_n 3, 1) := by decide +kernel
theorem dX0_step_72 : decode cX0_step 72 = .ok (.i2l, 1) := by decide +kernel
theorem dX0_step_73 : decode cX0_step 73 = .ok (.lmul, 1) := by decide +kernel
theorem dX0_step_74 : decode cX0_step 74 = .ok (.ladd, 1) := by decide +kernel
theorem dX0_step_75 : decode cX0_step 75 = .ok (.lastore, 1) := by decide +kernel
theorem dX0_step_76 : decode cX0_step 76 = .ok (.aload_n 0, 1) := by decide +kernel
theorem dX0_step_77 : decode cX0_step 77 = .ok (.getfield 22, 3) := by decide +kernel
theorem dX0_step_80 : decode cX0_step 80 = .ok (.iload 7, 2) := by decide +kernel
theorem dX0_step_82 : decode cX0_step 82 = .ok (.dup2, 1) := by decide +kernel
theorem dX0_step_83 : decode cX0_step 83 = .ok (.laload, 1) := by decide +kernel
theorem dX0_step_84 : decode cX0_step 84 = .ok (.aload_n 0, 1) := by decide +kernel
theorem dX0_step_85 : decode cX0_step 85 = .ok (.getfield 18, 3) := by decide +kernel
theorem dX0_step_88 : decode cX0_step 88 = .ok (.iload 5, 2) := by decide +kernel
theorem dX0_step_90 : decode cX0_step 90 = .ok (.laload, 1) := by decide +kernel
theorem dX0_step_91 : decode cX0_step 91 = .ok (.iload 4, 2) := by decide +kernel
theorem dX0_step_93 : decode cX0_step 93 = .ok (.i2l, 1) := by decide +kernel
theorem dX0_step_94 : decode cX0_step 94 = .ok (.lmul, 1) := by decide +kernel
theorem dX0_step_95 : decode cX0_step 95 = .ok (.ladd, 1) := by decide +kernel
theorem dX0_step_96 : decode cX0_step 96 = .ok (.lastore, 1) := by decide +kernel
theorem dX0_step_97 : decode cX0_step 97 = .ok (.iinc 5 1, 3) := by decide +kernel
theorem dX0_step_100 : decode cX0_step 100 = .ok (.goto (-84), 3) := by decide +kernel
theorem dX0_step_103 : decode cX0_step 103 = .ok (.aload_n 0, 1) := by decide +kernel
theorem dX0_step_104 : decode cX0_step 104 = .ok (.getfield 22, 3) := by decide +kernel
theorem dX0_step_107 : decode cX0_step 107 = .ok (.iconst 0, 1) := by decide +kernel
theorem dX0_step_108 : decode cX0_step 108 = .ok (.aload_n 0, 1) := by decide +kernel
theorem dX0_step_109 : decode cX0_step 109 = .ok (.getfield 18, 3) := by decide +kernel
theorem dX0_step_112 : decode cX0_step 112 = .ok (.iconst 0, 1) := by decide +kernel
theorem dX0_step_113 : decode cX0_step 113 = .ok (.aload_n 0, 1) := by decide +kernel
theorem dX0_step_114 : decode cX0_step 114 = .ok (.getfield 18, 3) := by decide +kernel
theorem dX0_step_117 : decode cX0_step 117 = .ok (.arraylength, 1) := by decide +kernel
theorem dX0_step_118 : decode cX0_step 118 = .ok (.invokestatic 69, 3) := by decide +kernel
theorem dX0_step_121 : decode cX0_step 121 = .ok (.return_, 1) := by decide +kernel
theorem dX0_setLowest_0 : decode cX0_setLowest 0 = .ok (.lload_n 3, 1) := by decide +kernel
theorem dX0_setLowest_1 : decode cX0_setLowest 1 = .ok (.lstore 5, 2) := by decide +kernel
theorem dX0_setLowest_3 : decode cX0_setLowest 3 = .ok (.lload_n 1, 1) := by decide +kernel
theorem dX0_setLowest_4 : decode cX0_setLowest 4 = .ok (.lstore 7, 2) := by decide +kernel
theorem dX0_setLowest_6 : decode cX0_setLowest 6 = .ok (.iconst 0, 1) := by decide +kernel
theorem dX0_setLowest_7 : decode cX0_setLowest 7 = .ok (.istore 9, 2) := by decide +kernel
theorem dX0_setLowest_9 : decode cX0_setLowest 9 = .ok (.iload 9, 2) := by decide +kernel
theorem dX0_setLowest_11 : decode cX0_setLowest 11 = .ok (.sipush 1000, 3) := by decide +kernel
theorem dX0_setLowest_14 : decode cX0_setLowest 14 = .ok (.if_icmp .ge 31, 3) := by decide +kernel
theorem dX0_setLowest_17 : decode cX0_setLowest 17 = .ok (.lload 7, 2) := by decide +kernel
theorem dX0_setLowest_19 : decode cX0_setLowest 19 = .ok (.lconst 0, 1) := by decide +kernel
theorem dX0_setLowest_20 : decode cX0_setLowest 20 = .ok (.lcmp, 1) := by decide +kernel
theorem dX0_setLowest_21 : decode cX0_setLowest 21 = .ok (.ifCond .eq 24, 3) := by decide +kernel
theorem dX0_setLowest_24 : decode cX0_setLowest 24 = .ok (.lload 5, 2) := by decide +kernel
theorem dX0_setLowest_26 : decode cX0_setLowest 26 = .ok (.lload 7, 2) := by decide +kernel
theorem dX0_setLowest_28 : decode cX0_setLowest 28 = .ok (.lrem, 1) := by decide +kernel
theorem dX0_setLowest_29 : decode cX0_setLowest 29 = .ok (.lstore 10, 2) := by decide +kernel
theorem dX0_setLowest_31 : decode cX0_setLowest 31 = .ok (.lload 7, 2) := by decide +kernel
theorem dX0_setLowest_33 : decode cX0_setLowest 33 = .ok (.lstore 5, 2) := by decide +kernel
theorem dX0_setLowest_35 : decode cX0_setLowest 35 = .ok (.lload 10, 2) := by decide +kernel
theorem dX0_setLowest_37 : decode cX0_setLowest 37 = .ok (.lstore 7, 2) := by decide +kernel
theorem dX0_setLowest_39 : decode cX0_setLowest 39 = .ok (.iinc 9 1, 3) := by decide +kernel
theorem dX0_setLowest_42 : decode cX0_setLowest 42 = .ok (.goto (-33), 3) := by decide +kernel
theorem dX0_setLowest_45 : decode cX0_setLowest 45 = .ok (.aload_n 0, 1) := by decide +kernel
theorem dX0_setLowest_46 : decode cX0_setLowest 46 = .ok (.lload 5, 2) := by decide +kernel
theorem dX0_setLowest_48 : decode cX0_setLowest 48 = .ok (.lconst 0, 1) := by decide +kernel
theorem dX0_setLowest_49 : decode cX0_setLowest 49 = .ok (.lcmp, 1) := by decide +kernel
theorem dX0_setLowest_50 : decode cX0_setLowest 50 = .ok (.ifCond .ne 7, 3) := by decide +kernel
theorem dX0_setLowest_53 : decode cX0_setLowest 53 = .ok (.lconst 0, 1) := by decide +kernel
theorem dX0_setLowest_54 : decode cX0_setLowest 54 = .ok (.goto 7, 3) := by decide +kernel
theorem dX0_setLowest_57 : decode cX0_setLowest 57 = .ok (.lload_n 1, 1) := by decide +kernel
theorem dX0_setLowest_58 : decode cX0_setLowest 58 = .ok (.lload 5, 2) := by decide +kernel
theorem dX0_setLowest_60 : decode cX0_setLowest 60 = .ok (.ldiv, 1) := by decide +kernel
theorem dX0_setLowest_61 : decode cX0_setLowest 61 = .ok (.putfield 9, 3) := by decide +kernel
theorem dX0_setLowest_64 : decode cX0_setLowest 64 = .ok (.aload_n 0, 1) := by decide +kernel
theorem dX0_setLowest_65 : decode cX0_setLowest 65 = .ok (.lload 5, 2) := by decide +kernel
theorem dX0_setLowest_67 : decode cX0_setLowest 67 = .ok (.lconst 0, 1) := by decide +kernel
theorem dX0_setLowest_68 : decode cX0_setLowest 68 = .ok (.lcmp, 1) := by decide +kernel
theorem dX0_setLowest_69 : decode cX0_setLowest 69 = .ok (.ifCond .ne 7, 3) := by decide +kernel
theorem dX0_setLowest_72 : decode cX0_setLowest 72 = .ok (.lconst 1, 1) := by decide +kernel
theorem dX0_setLowest_73 : decode cX0_setLowest 73 = .ok (.goto 7, 3) := by decide +kernel
theorem dX0_setLowest_76 : decode cX0_setLowest 76 = .ok (.lload_n 3, 1) := by decide +kernel
theorem dX0_setLowest_77 : decode cX0_setLowest 77 = .ok (.lload 5, 2) := by decide +kernel
theorem dX0_setLowest_79 : decode cX0_setLowest 79 = .ok (.ldiv, 1) := by decide +kernel
theorem dX0_setLowest_80 : decode cX0_setLowest 80 = .ok (.putfield 15, 3) := by decide +kernel
theorem dX0_setLowest_83 : decode cX0_setLowest 83 = .ok (.return_, 1) := by decide +kernel
theorem dX1_isOne_0 : decode cX1_isOne 0 = .ok (.iload_n 0, 1) := by decide +kernel
theorem dX1_isOne_1 : decode cX1_isOne 1 = .ok (.ifCond .lt 12, 3) := by decide +kernel
theorem dX1_isOne_4 : decode cX1_isOne 4 = .ok (.iload_n 0, 1) := by decide +kernel
theorem dX1_isOne_5 : decode cX1_isOne 5 = .ok (.iconst 5, 1) := by decide +kernel
theorem dX1_isOne_6 : decode cX1_isOne 6 = .ok (.if_icmp .gt 7, 3) := by decide +kernel
theorem dX1_isOne_9 : decode cX1_isOne 9 = .ok (.iconst 1, 1) := by decide +kernel
theorem dX1_isOne_10 : decode cX1_isOne 10 = .ok (.goto 4, 3) := by decide +kernel
theorem dX1_isOne_13 : decode cX1_isOne 13 = .ok (.iconst 0, 1) := by decide +kernel
theorem dX1_isOne_14 : decode cX1_isOne 14 = .ok (.ireturn, 1) := by decide +kernel
theorem dX1_cost_0 : decode cX1_cost 0 = .ok (.iconst 3, 1) := by decide +kernel
theorem dX1_cost_1 : decode cX1_cost 1 = .ok (.iload_n 1, 1) := by decide +kernel
theorem dX1_cost_2 : decode cX1_cost 2 = .ok (.imul, 1) := by decide +kernel
theorem dX1_cost_3 : decode cX1_cost 3 = .ok (.istore_n 3, 1) := by decide +kernel
theorem dX1_cost_4 : decode cX1_cost 4 = .ok (.iload_n 1, 1) := by decide +kernel
theorem dX1_cost_5 : decode cX1_cost 5 = .ok (.iconst 1, 1) := by decide +kernel
theorem dX1_cost_6 : decode cX1_cost 6 = .ok (.iadd, 1) := by decide +kernel
theorem dX1_cost_7 : decode cX1_cost 7 = .ok (.istore 4, 2) := by decide +kernel
theorem dX1_cost_9 : decode cX1_cost 9 = .ok (.iload_n 0, 1) := by decide +kernel
theorem dX1_cost_10 : decode cX1_cost 10 = .ok (.tableswitch 72 0 5 #[38, 40, 42, 56, 64, 67], 38) := by decide +kernel
theorem dX1_cost_48 : decode cX1_cost 48 = .ok (.iload_n 1, 1) := by decide +kernel
theorem dX1_cost_49 : decode cX1_cost 49 = .ok (.ireturn, 1) := by decide +kernel
theorem dX1_cost_50 : decode cX1_cost 50 = .ok (.iload_n 3, 1) := by decide +kernel
theorem dX1_cost_51 : decode cX1_cost 51 = .ok (.ireturn, 1) := by decide +kernel
theorem dX1_cost_52 : decode cX1_cost 52 = .ok (.iload_n 2, 1) := by decide +kernel
theorem dX1_cost_53 : decode cX1_cost 53 = .ok (.iconst 2, 1) := by decide +kernel
theorem dX1_cost_54 : decode cX1_cost 54 = .ok (.irem, 1) := by decide +kernel
theorem dX1_cost_55 : decode cX1_cost 55 = .ok (.ifCond .ne 7, 3) := by decide +kernel
theorem dX1_cost_58 : decode cX1_cost 58 = .ok (.iload_n 3, 1) := by decide +kernel
theorem dX1_cost_59 : decode cX1_cost 59 = .ok (.goto 6, 3) := by decide +kernel
theorem dX1_cost_62 : decode cX1_cost 62 = .ok (.iload_n 3, 1) := by decide +kernel
theorem dX1_cost_63 : decode cX1_cost 63 = .ok (.iload_n 1, 1) := by decide +kernel
theorem dX1_cost_64 : decode cX1_cost 64 = .ok (.isub, 1) := by decide +kernel
theorem dX1_cost_65 : decode cX1_cost 65 = .ok (.ireturn, 1) := by decide +kernel
theorem dX1_cost_66 : decode cX1_cost 66 = .ok (.iconst 2, 1) := by decide +kernel
theorem dX1_cost_67 : decode cX1_cost 67 = .ok (.iload_n 3, 1) := by decide +kernel
theorem dX1_cost_68 : decode cX1_cost 68 = .ok (.imul, 1) := by decide +kernel
theorem dX1_cost_69 : decode cX1_cost 69 = .ok (.iload_n 2, 1) := by decide +kernel
theorem dX1_cost_70 : decode cX1_cost 70 = .ok (.iconst 4, 1) := by decide +kernel
theorem dX1_cost_71 : decode cX1_cost 71 = .ok (.irem, 1) := by decide +kernel
theorem dX1_cost_72 : decode cX1_cost 72 = .ok (.iadd, 1) := by decide +kernel
theorem dX1_cost_73 : decode cX1_cost 73 = .ok (.ireturn, 1) := by decide +kernel
theorem dX1_cost_74 : decode cX1_cost 74 = .ok (.iload 4, 2) := by decide +kernel
theorem dX1_cost_76 : decode cX1_cost 76 = .ok (.ireturn, 1) := by decide +kernel
theorem dX1_cost_77 : decode cX1_cost 77 = .ok (.iconst 2, 1) := by decide +kernel
theorem dX1_cost_78 : decode cX1_cost 78 = .ok (.iload 4, 2) := by decide +kernel
theorem dX1_cost_80 : decode cX1_cost 80 = .ok (.imul, 1) := by decide +kernel
theorem dX1_cost_81 : decode cX1_cost 81 = .ok (.ireturn, 1) := by decide +kernel
theorem dX1_cost_82 : decode cX1_cost 82 = .ok (.iconst 0, 1) := by decide +kernel
theorem dX1_cost_83 : decode cX1_cost 83 = .ok (.ireturn, 1) := by decide +kernel
theorem dX1_breathBehind_0 : decode cX1_breathBehind 0 = .ok (.iload_n 1, 1) := by decide +kernel
theorem dX1_breathBehind_1 : decode cX1_breathBehind 1 = .ok (.iconst 3, 1) := by decide +kernel
theorem dX1_breathBehind_2 : decode cX1_breathBehind 2 = .ok (.iadd, 1) := by decide +kernel
theorem dX1_breathBehind_3 : decode cX1_breathBehind 3 = .ok (.iload_n 2, 1) := by decide +kernel
theorem dX1_breathBehind_4 : decode cX1_breathBehind 4 = .ok (.invokestatic 9, 3) := by decide +kernel
theorem dX1_breathBehind_7 : decode cX1_breathBehind 7 = .ok (.istore_n 3, 1) := by decide +kernel
theorem dX1_breathBehind_8 : decode cX1_breathBehind 8 = .ok (.iload_n 3, 1) := by decide +kernel
theorem dX1_breathBehind_9 : decode cX1_breathBehind 9 = .ok (.iconst 3, 1) := by decide +kernel
theorem dX1_breathBehind_10 : decode cX1_breathBehind 10 = .ok (.iadd, 1) := by decide +kernel
theorem dX1_breathBehind_11 : decode cX1_breathBehind 11 = .ok (.iload_n 2, 1) := by decide +kernel
theorem dX1_breathBehind_12 : decode cX1_breathBehind 12 = .ok (.invokestatic 9, 3) := by decide +kernel
theorem dX1_breathBehind_15 : decode cX1_breathBehind 15 = .ok (.istore 4, 2) := by decide +kernel
theorem dX1_breathBehind_17 : decode cX1_breathBehind 17 = .ok (.iload_n 0, 1) := by decide +kernel
theorem dX1_breathBehind_18 : decode cX1_breathBehind 18 = .ok (.tableswitch 54 0 5 #[38, 40, 40, 40, 42, 45], 38) := by decide +kernel
theorem dX1_breathBehind_56 : decode cX1_breathBehind 56 = .ok (.iload_n 3, 1) := by decide +kernel
theorem dX1_breathBehind_57 : decode cX1_breathBehind 57 = .ok (.ireturn, 1) := by decide +kernel
theorem dX1_breathBehind_58 : decode cX1_breathBehind 58 = .ok (.iload_n 2, 1) := by decide +kernel
theorem dX1_breathBehind_59 : decode cX1_breathBehind 59 = .ok (.ireturn, 1) := by decide +kernel
theorem dX1_breathBehind_60 : decode cX1_breathBehind 60 = .ok (.iload 4, 2) := by decide +kernel
theorem dX1_breathBehind_62 : decode cX1_breathBehind 62 = .ok (.ireturn, 1) := by decide +kernel
theorem dX1_breathBehind_63 : decode cX1_breathBehind 63 = .ok (.iload 4, 2) := by decide +kernel
theorem dX1_breathBehind_65 : decode cX1_breathBehind 65 = .ok (.iload_n 2, 1) := by decide +kernel
theorem dX1_breathBehind_66 : decode cX1_breathBehind 66 = .ok (.iconst 2, 1) := by decide +kernel
theorem dX1_breathBehind_67 : decode cX1_breathBehind 67 = .ok (.idiv, 1) := by decide +kernel
theorem dX1_breathBehind_68 : decode cX1_breathBehind 68 = .ok (.invokestatic 15, 3) := by decide +kernel
theorem dX1_breathBehind_71 : decode cX1_breathBehind 71 = .ok (.ireturn, 1) := by decide +kernel
theorem dX1_breathBehind_72 : decode cX1_breathBehind 72 = .ok (.iload_n 1, 1) := by decide +kernel
theorem dX1_breathBehind_73 : decode cX1_breathBehind 73 = .ok (.ireturn, 1) := by decide +kernel
theorem dX1_lasts_0 : decode cX1_lasts 0 = .ok (.iload_n 0, 1) := by decide +kernel
theorem dX1_lasts_1 : decode cX1_lasts 1 = .ok (.tableswitch 46 0 5 #[39, 46, 42, 46, 44, 44], 39) := by decide +kernel
theorem dX1_lasts_40 : decode cX1_lasts 40 = .ok (.bipush 9, 2) := by decide +kernel
theorem dX1_lasts_42 : decode cX1_lasts 42 = .ok (.ireturn, 1) := by decide +kernel
theorem dX1_lasts_43 : decode cX1_lasts 43 = .ok (.iconst 4, 1) := by decide +kernel
theorem dX1_lasts_44 : decode cX1_lasts 44 = .ok (.ireturn, 1) := by decide +kernel
theorem dX1_lasts_45 : decode cX1_lasts 45 = .ok (.iconst 5, 1) := by decide +kernel
theorem dX1_lasts_46 : decode cX1_lasts 46 = .ok (.ireturn, 1) := by decide +kernel
theorem dX1_lasts_47 : decode cX1_lasts 47 = .ok (.iconst 0, 1) := by decide +kernel
theorem dX1_lasts_48 : decode cX1_lasts 48 = .ok (.ireturn, 1) := by decide +kernel
theorem dX1_ends_0 : decode cX1_ends 0 = .ok (.iload_n 0, 1) := by decide +kernel
theorem dX1_ends_1 : decode cX1_ends 1 = .ok (.iconst 1, 1) := by decide +kernel
theorem dX1_ends_2 : decode cX1_ends 2 = .ok (.if_icmp .eq 18, 3) := by decide +kernel
theorem dX1_ends_5 : decode cX1_ends 5 = .ok (.iload_n 0, 1) := by decide +kernel
theorem dX1_ends_6 : decode cX1_ends 6 = .ok (.iconst 2, 1) := by decide +kernel
theorem dX1_ends_7 : decode cX1_ends 7 = .ok (.if_icmp .eq 13, 3) := by decide +kernel
theorem dX1_ends_10 : decode cX1_ends 10 = .ok (.iload_n 0, 1) := by decide +kernel
theorem dX1_ends_11 : decode cX1_ends 11 = .ok (.iconst 3, 1) := by decide +kernel
theorem dX1_ends_12 : decode cX1_ends 12 = .ok (.if_icmp .eq 8, 3) := by decide +kernel
theorem dX1_ends_15 : decode cX1_ends 15 = .ok (.iload_n 0, 1) := by decide +kernel
theorem dX1_ends_16 : decode cX1_ends 16 = .ok (.iconst 5, 1) := by decide +kernel
theorem dX1_ends_17 : decode cX1_ends 17 = .ok (.if_icmp .ne 7, 3) := by decide +kernel
theorem dX1_ends_20 : decode cX1_ends 20 = .ok (.iconst 1, 1) := by decide +kernel
theorem dX1_ends_21 : decode cX1_ends 21 = .ok (.goto 4, 3) := by decide +kernel
theorem dX1_ends_24 : decode cX1_ends 24 = .ok (.iconst 0, 1) := by decide +kernel
theorem dX1_ends_25 : decode cX1_ends 25 = .ok (.ireturn, 1) := by decide +kernel
theorem dX2_init_0 : decode cX2_init 0 = .ok (.aload_n 0, 1) := by decide +kernel
theorem dX2_init_1 : decode cX2_init 1 = .ok (.invokespecial 3, 3) := by decide +kernel
theorem dX2_init_4 : decode cX2_init 4 = .ok (.aload_n 0, 1) := by decide +kernel
theorem dX2_init_5 : decode cX2_init 5 = .ok (.bipush 12, 2) := by decide +kernel
theorem dX2_init_7 : decode cX2_init 7 = .ok (.newarray .int, 2) := by decide +kernel
theorem dX2_init_9 : decode cX2_init 9 = .ok (.putfield 9, 3) := by decide +kernel
theorem dX2_init_12 : decode cX2_init 12 = .ok (.aload_n 0, 1) := by decide +kernel
theorem dX2_init_13 : decode cX2_init 13 = .ok (.bipush 12, 2) := by decide +kernel
theorem dX2_init_15 : decode cX2_init 15 = .ok (.newarray .int, 2) := by decide +kernel
theorem dX2_init_17 : decode cX2_init 17 = .ok (.putfield 15, 3) := by decide +kernel
theorem dX2_init_20 : decode cX2_init 20 = .ok (.return_, 1) := by decide +kernel
theorem dX2_set_0 : decode cX2_set 0 = .ok (.aload_n 0, 1) := by decide +kernel
theorem dX2_set_1 : decode cX2_set 1 = .ok (.getfield 9, 3) := by decide +kernel
theorem dX2_set_4 : decode cX2_set 4 = .ok (.iload_n 1, 1) := by decide +kernel
theorem dX2_set_5 : decode cX2_set 5 = .ok (.iload_n 2, 1) := by decide +kernel
theorem dX2_set_6 : decode cX2_set 6 = .ok (.iastore, 1) := by decide +kernel
theorem dX2_set_7 : decode cX2_set 7 = .ok (.aload_n 0, 1) := by decide +kernel
theorem dX2_set_8 : decode cX2_set 8 = .ok (.getfield 15, 3) := by decide +kernel
theorem dX2_set_11 : decode cX2_set 11 = .ok (.iload_n 1, 1) := by decide +kernel
theorem dX2_set_12 : decode cX2_set 12 = .ok (.iconst 0, 1) := by decide +kernel
theorem dX2_set_13 : decode cX2_set 13 = .ok (.iastore, 1) := by decide +kernel
theorem dX2_set_14 : decode cX2_set 14 = .ok (.return_, 1) := by decide +kernel
theorem dX2_readOnce_0 : decode cX2_readOnce 0 = .ok (.aload_n 0, 1) := by decide +kernel
theorem dX2_readOnce_1 : decode cX2_readOnce 1 = .ok (.getfield 9, 3) := by decide +kernel
theorem dX2_readOnce_4 : decode cX2_readOnce 4 = .ok (.iload_n 1, 1) := by decide +kernel
theorem dX2_readOnce_5 : decode cX2_readOnce 5 = .ok (.iaload, 1) := by decide +kernel
theorem dX2_readOnce_6 : decode cX2_readOnce 6 = .ok (.istore_n 2, 1) := by decide +kernel
theorem dX2_readOnce_7 : decode cX2_readOnce 7 = .ok (.iload_n 2, 1) := by decide +kernel
theorem dX2_readOnce_8 : decode cX2_readOnce 8 = .ok (.iconst (-1), 1) := by decide +kernel
theorem dX2_readOnce_9 : decode cX2_readOnce 9 = .ok (.if_icmp .ne 4, 3) := by decide +kernel
theorem dX2_readOnce_12 : decode cX2_readOnce 12 = .ok (.return_, 1) := by decide +kernel
theorem dX2_readOnce_13 : decode cX2_readOnce 13 = .ok (.aload_n 0, 1) := by decide +kernel
theorem dX2_readOnce_14 : decode cX2_readOnce 14 = .ok (.getfield 15, 3) := by decide +kernel
theorem dX2_readOnce_17 : decode cX2_readOnce 17 = .ok (.iload_n 1, 1) := by decide +kernel
theorem dX2_readOnce_18 : decode cX2_readOnce 18 = .ok (.dup2, 1) := by decide +kernel
theorem dX2_readOnce_19 : decode cX2_readOnce 19 = .ok (.iaload, 1) := by decide +kernel
theorem dX2_readOnce_20 : decode cX2_readOnce 20 = .ok (.iconst 1, 1) := by decide +kernel
theorem dX2_readOnce_21 : decode cX2_readOnce 21 = .ok (.iadd, 1) := by decide +kernel
theorem dX2_readOnce_22 : decode cX2_readOnce 22 = .ok (.iastore, 1) := by decide +kernel
theorem dX2_readOnce_23 : decode cX2_readOnce 23 = .ok (.aload_n 0, 1) := by decide +kernel
theorem dX2_readOnce_24 : decode cX2_readOnce 24 = .ok (.getfield 15, 3) := by decide +kernel
theorem dX2_readOnce_27 : decode cX2_readOnce 27 = .ok (.iload_n 1, 1) := by decide +kernel
theorem dX2_readOnce_28 : decode cX2_readOnce 28 = .ok (.iaload, 1) := by decide +kernel
theorem dX2_readOnce_29 : decode cX2_readOnce 29 = .ok (.iload_n 2, 1) := by decide +kernel
theorem dX2_readOnce_30 : decode cX2_readOnce 30 = .ok (.invokestatic 18, 3) := by decide +kernel
theorem dX2_readOnce_33 : decode cX2_readOnce 33 = .ok (.if_icmp .ne 9, 3) := by decide +kernel
theorem dX2_readOnce_36 : decode cX2_readOnce 36 = .ok (.aload_n 0, 1) := by decide +kernel
theorem dX2_readOnce_37 : decode cX2_readOnce 37 = .ok (.iload_n 1, 1) := by decide +kernel
theorem dX2_readOnce_38 : decode cX2_readOnce 38 = .ok (.iconst (-1), 1) := by decide +kernel
theorem dX2_readOnce_39 : decode cX2_readOnce 39 = .ok (.invokevirtual 24, 3) := by decide +kernel
theorem dX2_readOnce_42 : decode cX2_readOnce 42 = .ok (.return_, 1) := by decide +kernel
theorem dX2_copy_0 : decode cX2_copy 0 = .ok (.aload_n 0, 1) := by decide +kernel
theorem dX2_copy_1 : decode cX2_copy 1 = .ok (.aload_n 1, 1) := by decide +kernel
theorem dX2_copy_2 : decode cX2_copy 2 = .ok (.getfield 28, 3) := by decide +kernel
theorem dX2_copy_5 : decode cX2_copy 5 = .ok (.putfield 28, 3) := by decide +kernel
theorem dX2_copy_8 : decode cX2_copy 8 = .ok (.aload_n 0, 1) := by decide +kernel
theorem dX2_copy_9 : decode cX2_copy 9 = .ok (.aload_n 1, 1) := by decide +kernel
theorem dX2_copy_10 : decode cX2_copy 10 = .ok (.getfield 32, 3) := by decide +kernel
theorem dX2_copy_13 : decode cX2_copy 13 = .ok (.putfield 32, 3) := by decide +kernel
theorem dX2_copy_16 : decode cX2_copy 16 = .ok (.aload_n 1, 1) := by decide +kernel
theorem dX2_copy_17 : decode cX2_copy 17 = .ok (.getfield 9, 3) := by decide +kernel
theorem dX2_copy_20 : decode cX2_copy 20 = .ok (.iconst 0, 1) := by decide +kernel
theorem dX2_copy_21 : decode cX2_copy 21 = .ok (.aload_n 0, 1) := by decide +kernel
theorem dX2_copy_22 : decode cX2_copy 22 = .ok (.getfield 9, 3) := by decide +kernel
theorem dX2_copy_25 : decode cX2_copy 25 = .ok (.iconst 0, 1) := by decide +kernel
theorem dX2_copy_26 : decode cX2_copy 26 = .ok (.bipush 12, 2) := by decide +kernel
theorem dX2_copy_28 : decode cX2_copy 28 = .ok (.invokestatic 35, 3) := by decide +kernel
theorem dX2_copy_31 : decode cX2_copy 31 = .ok (.aload_n 1, 1) := by decide +kernel
theorem dX2_copy_32 : decode cX2_copy 32 = .ok (.getfield 15, 3) := by decide +kernel
theorem dX2_copy_35 : decode cX2_copy 35 = .ok (.iconst 0, 1) := by decide +kernel
theorem dX2_copy_36 : decode cX2_copy 36 = .ok (.aload_n 0, 1) := by decide +kernel
theorem dX2_copy_37 : decode cX2_copy 37 = .ok (.getfield 15, 3) := by decide +kernel
theorem dX2_copy_40 : decode cX2_copy 40 = .ok (.iconst 0, 1) := by decide +kernel
theorem dX2_copy_41 : decode cX2_copy 41 = .ok (.bipush 12, 2) := by decide +kernel
theorem dX2_copy_43 : decode cX2_copy 43 = .ok (.invokestatic 35, 3) := by decide +kernel
theorem dX2_copy_46 : decode cX2_copy 46 = .ok (.return_, 1) := by decide +kernel
theorem dX3_init_0 : decode cX3_init 0 = .ok (.aload_n 0, 1) := by decide +kernel
theorem dX3_init_1 : decode cX3_init 1 = .ok (.invokespecial 3, 3) := by decide +kernel
theorem dX3_init_4 : decode cX3_init 4 = .ok (.aload_n 0, 1) := by decide +kernel
theorem dX3_init_5 : decode cX3_init 5 = .ok (.bipush 7, 2) := by decide +kernel
theorem dX3_init_7 : decode cX3_init 7 = .ok (.newarray .int, 2) := by decide +kernel
theorem dX3_init_9 : decode cX3_init 9 = .ok (.putfield 9, 3) := by decide +kernel
theorem dX3_init_12 : decode cX3_init 12 = .ok (.aload_n 0, 1) := by decide +kernel
theorem dX3_init_13 : decode cX3_init 13 = .ok (.bipush 7, 2) := by decide +kernel
theorem dX3_init_15 : decode cX3_init 15 = .ok (.newarray .int, 2) := by decide +kernel
theorem dX3_init_17 : decode cX3_init 17 = .ok (.putfield 15, 3) := by decide +kernel
theorem dX3_init_20 : decode cX3_init 20 = .ok (.aload_n 0, 1) := by decide +kernel
theorem dX3_init_21 : decode cX3_init 21 = .ok (.bipush 7, 2) := by decide +kernel
theorem dX3_init_23 : decode cX3_init 23 = .ok (.newarray .boolean, 2) := by decide +kernel
theorem dX3_init_25 : decode cX3_init 25 = .ok (.putfield 18, 3) := by decide +kernel
theorem dX3_init_28 : decode cX3_init 28 = .ok (.return_, 1) := by decide +kernel
theorem dX3_search_0 : decode cX3_search 0 = .ok (.aload_n 0, 1) := by decide +kernel
theorem dX3_search_1 : decode cX3_search 1 = .ok (.iconst 0, 1) := by decide +kernel
theorem dX3_search_2 : decode cX3_search 2 = .ok (.putfield 22, 3) := by decide +kernel
theorem dX3_search_5 : decode cX3_search 5 = .ok (.iconst 0, 1) := by decide +kernel
theorem dX3_search_6 : decode cX3_search 6 = .ok (.istore_n 2, 1) := by decide +kernel
theorem dX3_search_7 : decode cX3_search 7 = .ok (.iload_n 2, 1) := by decide +kernel
theorem dX3_search_8 : decode cX3_search 8 = .ok (.bipush 7, 2) := by decide +kernel
theorem dX3_search_10 : decode cX3_search 10 = .ok (.if_icmp .ge 23, 3) := by decide +kernel
theorem dX3_search_13 : decode cX3_search 13 = .ok (.aload_n 0, 1) := by decide +kernel
theorem dX3_search_14 : decode cX3_search 14 = .ok (.getfield 9, 3) := by decide +kernel
theorem dX3_search_17 : decode cX3_search 17 = .ok (.iload_n 2, 1) := by decide +kernel
theorem dX3_search_18 : decode cX3_search 18 = .ok (.iload_n 2, 1) := by decide +kernel
theorem dX3_search_19 : decode cX3_search 19 = .ok (.iastore, 1) := by decide +kernel
theorem dX3_search_20 : decode cX3_search 20 = .ok (.aload_n 0, 1) := by decide +kernel
theorem dX3_search_21 : decode cX3_search 21 = .ok (.getfield 18, 3) := by decide +kernel
theorem dX3_search_24 : decode cX3_search 24 = .ok (.iload_n 2, 1) := by decide +kernel
theorem dX3_search_25 : decode cX3_search 25 = .ok (.iconst 0, 1) := by decide +kernel
theorem dX3_search_26 : decode cX3_search 26 = .ok (.bastore, 1) := by decide +kernel
theorem dX3_search_27 : decode cX3_search 27 = .ok (.iinc 2 1, 3) := by decide +kernel
theorem dX3_search_30 : decode cX3_search 30 = .ok (.goto (-23), 3) := by decide +kernel
theorem dX3_search_33 : decode cX3_search 33 = .ok (.aload_n 0, 1) := by decide +kernel
theorem dX3_search_34 : decode cX3_search 34 = .ok (.aload_n 1, 1) := by decide +kernel
theorem dX3_search_35 : decode cX3_search 35 = .ok (.iconst 0, 1) := by decide +kernel
theorem dX3_search_36 : decode cX3_search 36 = .ok (.aload_n 1, 1) := by decide +kernel
theorem dX3_search_37 : decode cX3_search 37 = .ok (.getfield 26, 3) := by decide +kernel
theorem dX3_search_40 : decode cX3_search 40 = .ok (.invokestatic 31, 3) := by decide +kernel
theorem dX3_search_43 : decode cX3_search 43 = .ok (.return_, 1) := by decide +kernel
theorem dX3_extend_0 : decode cX3_extend 0 = .ok (.iload_n 2, 1) := by decide +kernel
theorem dX3_extend_1 : decode cX3_extend 1 = .ok (.aload_n 0, 1) := by decide +kernel
theorem dX3_extend_2 : decode cX3_extend 2 = .ok (.getfield 22, 3) := by decide +kernel
theorem dX3_extend_5 : decode cX3_extend 5 = .ok (.if_icmp .le 12, 3) := by decide +kernel
theorem dX3_extend_8 : decode cX3_extend 8 = .ok (.aload_n 0, 1) := by decide +kernel
theorem dX3_extend_9 : decode cX3_extend 9 = .ok (.aload_n 1, 1) := by decide +kernel
theorem dX3_extend_10 : decode cX3_extend 10 = .ok (.getfield 35, 3) := by decide +kernel
theorem dX3_extend_13 : decode cX3_extend 13 = .ok (.iload_n 2, 1) := by decide +kernel
theorem dX3_extend_14 : decode cX3_extend 14 = .ok (.invokevirtual 38, 3) := by decide +kernel
theorem dX3_extend_17 : decode cX3_extend 17 = .ok (.iload_n 2, 1) := by decide +kernel
theorem dX3_extend_18 : decode cX3_extend 18 = .ok (.bipush 7, 2) := by decide +kernel
theorem dX3_extend_20 : decode cX3_extend 20 = .ok (.if_icmp .lt 4, 3) := by decide +kernel
theorem dX3_extend_23 : decode cX3_extend 23 = .ok (.return_, 1) := by decide +kernel
theorem dX3_extend_24 : decode cX3_extend 24 = .ok (.iconst 0, 1) := by decide +kernel
theorem dX3_extend_25 : decode cX3_extend 25 = .ok (.istore 4, 2) := by decide +kernel
theorem dX3_extend_27 : decode cX3_extend 27 = .ok (.iload 4, 2) := by decide +kernel
theorem dX3_extend_29 : decode cX3_extend 29 = .ok (.aload_n 1, 1) := by decide +kernel
theorem dX3_extend_30 : decode cX3_extend 30 = .ok (.getfield 35, 3) := by decide +kernel
theorem dX3_extend_33 : decode cX3_extend 33 = .ok (.if_icmp .ge 96, 3) := by decide +kernel
theorem dX3_extend_36 : decode cX3_extend 36 = .ok (.iload 4, 2) := by decide +kernel
theorem dX3_extend_38 : decode cX3_extend 38 = .ok (.bipush 7, 2) := by decide +kernel
theorem dX3_extend_40 : decode cX3_extend 40 = .ok (.if_icmp .ge 89, 3) := by decide +kernel
theorem dX3_extend_43 : decode cX3_extend 43 = .ok (.aload_n 0, 1) := by decide +kernel
theorem dX3_extend_44 : decode cX3_extend 44 = .ok (.getfield 22, 3) := by decide +kernel
theorem dX3_extend_47 : decode cX3_extend 47 = .ok (.aload_n 1, 1) := by decide +kernel
theorem dX3_extend_48 : decode cX3_extend 48 = .ok (.getfield 35, 3) := by decide +kernel
theorem dX3_extend_51 : decode cX3_extend 51 = .ok (.if_icmp .ge 78, 3) := by decide +kernel
theorem dX3_extend_54 : decode cX3_extend 54 = .ok (.aload_n 1, 1) := by decide +kernel
theorem dX3_extend_55 : decode cX3_extend 55 = .ok (.iload_n 2, 1) := by decide +kernel
theorem dX3_extend_56 : decode cX3_extend 56 = .ok (.aload_n 1, 1) := by decide +kernel
theorem dX3_extend_57 : decode cX3_extend 57 = .ok (.getfield 42, 3) := by decide +kernel
theorem dX3_extend_60 : decode cX3_extend 60 = .ok (.iload 4, 2) := by decide +kernel
theorem dX3_extend_62 : decode cX3_extend 62 = .ok (.iaload, 1) := by decide +kernel
theorem dX3_extend_63 : decode cX3_extend 63 = .ok (.iload_n 3, 1) := by decide +kernel
theorem dX3_extend_64 : decode cX3_extend 64 = .ok (.aload_n 1, 1) := by decide +kernel
theorem dX3_extend_65 : decode cX3_extend 65 = .ok (.getfield 26, 3) := by decide +kernel
theorem dX3_extend_68 : decode cX3_extend 68 = .ok (.invokevirtual 45, 3) := by decide +kernel
theorem dX3_extend_71 : decode cX3_extend 71 = .ok (.istore 5, 2) := by decide +kernel
theorem dX3_extend_73 : decode cX3_extend 73 = .ok (.aload_n 0, 1) := by decide +kernel
theorem dX3_extend_74 : decode cX3_extend 74 = .ok (.getfield 18, 3) := by decide +kernel
theorem dX3_extend_77 : decode cX3_extend 77 = .ok (.iload 4, 2) := by decide +kernel
theorem dX3_extend_79 : decode cX3_extend 79 = .ok (.baload, 1) := by decide +kernel
theorem dX3_extend_80 : decode cX3_extend 80 = .ok (.ifCond .ne 43, 3) := by decide +kernel
theorem dX3_extend_83 : decode cX3_extend 83 = .ok (.iload 5, 2) := by decide +kernel
theorem dX3_extend_85 : decode cX3_extend 85 = .ok (.iconst (-1), 1) := by decide +kernel
theorem dX3_extend_86 : decode cX3_extend 86 = .ok (.if_icmp .eq 37, 3) := by decide +kernel
theorem dX3_extend_89 : decode cX3_extend 89 = .ok (.aload_n 0, 1) := by decide +kernel
theorem dX3_extend_90 : decode cX3_extend 90 = .ok (.getfield 18, 3) := by decide +kernel
theorem dX3_extend_93 : decode cX3_extend 93 = .ok (.iload 4, 2) := by decide +kernel
theorem dX3_extend_95 : decode cX3_extend 95 = .ok (.iconst 1, 1) := by decide +kernel
theorem dX3_extend_96 : decode cX3_extend 96 = .ok (.bastore, 1) := by decide +kernel
theorem dX3_extend_97 : decode cX3_extend 97 = .ok (.aload_n 0, 1) := by decide +kernel
theorem dX3_extend_98 : decode cX3_extend 98 = .ok (.getfield 15, 3) := by decide +kernel
theorem dX3_extend_101 : decode cX3_extend 101 = .ok (.iload_n 2, 1) := by decide +kernel
theorem dX3_extend_102 : decode cX3_extend 102 = .ok (.iload 4, 2) := by decide +kernel
theorem dX3_extend_104 : decode cX3_extend 104 = .ok (.iastore, 1) := by decide +kernel
theorem dX3_extend_105 : decode cX3_extend 105 = .ok (.aload_n 0, 1) := by decide +kernel
theorem dX3_extend_106 : decode cX3_extend 106 = .ok (.aload_n 1, 1) := by decide +kernel
theorem dX3_extend_107 : decode cX3_extend 107 = .ok (.iload_n 2, 1) := by decide +kernel
theorem dX3_extend_108 : decode cX3_extend 108 = .ok (.iconst 1, 1) := by decide +kernel
theorem dX3_extend_109 : decode cX3_extend 109 = .ok (.iadd, 1) := by decide +kernel
theorem dX3_extend_110 : decode cX3_extend 110 = .ok (.iload 5, 2) := by decide +kernel
theorem dX3_extend_112 : decode cX3_extend 112 = .ok (.invokestatic 31, 3) := by decide +kernel
theorem dX3_extend_115 : decode cX3_extend 115 = .ok (.aload_n 0, 1) := by decide +kernel
theorem dX3_extend_116 : decode cX3_extend 116 = .ok (.getfield 18, 3) := by decide +kernel
theorem dX3_extend_119 : decode cX3_extend 119 = .ok (.iload 4, 2) := by decide +kernel
theorem dX3_extend_121 : decode cX3_extend 121 = .ok (.iconst 0, 1) := by decide +kernel
theorem dX3_extend_122 : decode cX3_extend 122 = .ok (.bastore, 1) := by decide +kernel
theorem dX3_extend_123 : decode cX3_extend 123 = .ok (.iinc 4 1, 3) := by decide +kernel
theorem dX3_extend_126 : decode cX3_extend 126 = .ok (.goto (-99), 3) := by decide +kernel
theorem dX3_extend_129 : decode cX3_extend 129 = .ok (.return_, 1) := by decide +kernel
theorem dX3_keepRow_0 : decode cX3_keepRow 0 = .ok (.aload_n 0, 1) := by decide +kernel
theorem dX3_keepRow_1 : decode cX3_keepRow 1 = .ok (.iload_n 2, 1) := by decide +kernel
theorem dX3_keepRow_2 : decode cX3_keepRow 2 = .ok (.putfield 22, 3) := by decide +kernel
theorem dX3_keepRow_5 : decode cX3_keepRow 5 = .ok (.aload_n 0, 1) := by decide +kernel
theorem dX3_keepRow_6 : decode cX3_keepRow 6 = .ok (.getfield 15, 3) := by decide +kernel
theorem dX3_keepRow_9 : decode cX3_keepRow 9 = .ok (.iconst 0, 1) := by decide +kernel
theorem dX3_keepRow_10 : decode cX3_keepRow 10 = .ok (.aload_n 0, 1) := by decide +kernel
theorem dX3_keepRow_11 : decode cX3_keepRow 11 = .ok (.getfield 9, 3) := by decide +kernel
theorem dX3_keepRow_14 : decode cX3_keepRow 14 = .ok (.iconst 0, 1) := by decide +kernel
theorem dX3_keepRow_15 : decode cX3_keepRow 15 = .ok (.iload_n 2, 1) := by decide +kernel
theorem dX3_keepRow_16 : decode cX3_keepRow 16 = .ok (.invokestatic 49, 3) := by decide +kernel
theorem dX3_keepRow_19 : decode cX3_keepRow 19 = .ok (.iload_n 2, 1) := by decide +kernel
theorem dX3_keepRow_20 : decode cX3_keepRow 20 = .ok (.istore_n 3, 1) := by decide +kernel
theorem dX3_keepRow_21 : decode cX3_keepRow 21 = .ok (.iconst 0, 1) := by decide +kernel
theorem dX3_keepRow_22 : decode cX3_keepRow 22 = .ok (.istore 4, 2) := by decide +kernel
theorem dX3_keepRow_24 : decode cX3_keepRow 24 = .ok (.iload 4, 2) := by decide +kernel
theorem dX3_keepRow_26 : decode cX3_keepRow 26 = .ok (.iload_n 1, 1) := by decide +kernel
theorem dX3_keepRow_27 : decode cX3_keepRow 27 = .ok (.if_icmp .ge 36, 3) := by decide +kernel
theorem dX3_keepRow_30 : decode cX3_keepRow 30 = .ok (.iload_n 3, 1) := by decide +kernel
theorem dX3_keepRow_31 : decode cX3_keepRow 31 = .ok (.bipush 7, 2) := by decide +kernel
theorem dX3_keepRow_33 : decode cX3_keepRow 33 = .ok (.if_icmp .ge 30, 3) := by decide +kernel
theorem dX3_keepRow_36 : decode cX3_keepRow 36 = .ok (.aload_n 0, 1) := by decide +kernel
theorem dX3_keepRow_37 : decode cX3_keepRow 37 = .ok (.getfield 18, 3) := by decide +kernel
theorem dX3_keepRow_40 : decode cX3_keepRow 40 = .ok (.iload 4, 2) := by decide +kernel
theorem dX3_keepRow_42 : decode cX3_keepRow 42 = .ok (.baload, 1) := by decide +kernel
theorem dX3_keepRow_43 : decode cX3_keepRow 43 = .ok (.ifCond .ne 14, 3) := by decide +kernel
theorem dX3_keepRow_46 : decode cX3_keepRow 46 = .ok (.aload_n 0, 1) := by decide +kernel
theorem dX3_keepRow_47 : decode cX3_keepRow 47 = .ok (.getfield 9, 3) := by decide +kernel
theorem dX3_keepRow_50 : decode cX3_keepRow 50 = .ok (.iload_n 3, 1) := by decide +kernel
theorem dX3_keepRow_51 : decode cX3_keepRow 51 = .ok (.iload 4, 2) := by decide +kernel
theorem dX3_keepRow_53 : decode cX3_keepRow 53 = .ok (.iastore, 1) := by decide +kernel
theorem dX3_keepRow_54 : decode cX3_keepRow 54 = .ok (.iinc 3 1, 3) := by decide +kernel
theorem dX3_keepRow_57 : decode cX3_keepRow 57 = .ok (.iinc 4 1, 3) := by decide +kernel
theorem dX3_keepRow_60 : decode cX3_keepRow 60 = .ok (.goto (-36), 3) := by decide +kernel
theorem dX3_keepRow_63 : decode cX3_keepRow 63 = .ok (.return_, 1) := by decide +kernel
theorem dX4_init_0 : decode cX4_init 0 = .ok (.aload_n 0, 1) := by decide +kernel
theorem dX4_init_1 : decode cX4_init 1 = .ok (.invokespecial 3, 3) := by decide +kernel
theorem dX4_init_4 : decode cX4_init 4 = .ok (.aload_n 0, 1) := by decide +kernel
theorem dX4_init_5 : decode cX4_init 5 = .ok (.bipush 10, 2) := by decide +kernel
theorem dX4_init_7 : decode cX4_init 7 = .ok (.putfield 9, 3) := by decide +kernel
theorem dX4_init_10 : decode cX4_init 10 = .ok (.aload_n 0, 1) := by decide +kernel
theorem dX4_init_11 : decode cX4_init 11 = .ok (.iconst 2, 1) := by decide +kernel
theorem dX4_init_12 : decode cX4_init 12 = .ok (.putfield 15, 3) := by decide +kernel
theorem dX4_init_15 : decode cX4_init 15 = .ok (.aload_n 0, 1) := by decide +kernel
theorem dX4_init_16 : decode cX4_init 16 = .ok (.bipush 12, 2) := by decide +kernel
theorem dX4_init_18 : decode cX4_init 18 = .ok (.newarray .int, 2) := by decide +kernel
theorem dX4_init_20 : decode cX4_init 20 = .ok (.putfield 18, 3) := by decide +kernel
theorem dX4_init_23 : decode cX4_init 23 = .ok (.aload_n 0, 1) := by decide +kernel
theorem dX4_init_24 : decode cX4_init 24 = .ok (.new 22, 3) := by decide +kernel
theorem dX4_init_27 : decode cX4_init 27 = .ok (.dup, 1) := by decide +kernel
theorem dX4_init_28 : decode cX4_init 28 = .ok (.invokespecial 24, 3) := by decide +kernel
theorem dX4_init_31 : decode cX4_init 31 = .ok (.putfield 25, 3) := by decide +kernel
theorem dX4_init_34 : decode cX4_init 34 = .ok (.aload_n 0, 1) := by decide +kernel
theorem dX4_init_35 : decode cX4_init 35 = .ok (.bipush 6, 2) := by decide +kernel
theorem dX4_init_37 : decode cX4_init 37 = .ok (.newarray .int, 2) := by decide +kernel
theorem dX4_init_39 : decode cX4_init 39 = .ok (.putfield 29, 3) := by decide +kernel
theorem dX4_init_42 : decode cX4_init 42 = .ok (.aload_n 0, 1) := by decide +kernel
theorem dX4_init_43 : decode cX4_init 43 = .ok (.bipush 8, 2) := by decide +kernel
theorem dX4_init_45 : decode cX4_init 45 = .ok (.anewarray 22, 3) := by decide +kernel
theorem dX4_init_48 : decode cX4_init 48 = .ok (.putfield 32, 3) := by decide +kernel
theorem dX4_init_51 : decode cX4_init 51 = .ok (.iconst 0, 1) := by decide +kernel
theorem dX4_init_52 : decode cX4_init 52 = .ok (.istore_n 1, 1) := by decide +kernel
theorem dX4_init_53 : decode cX4_init 53 = .ok (.iload_n 1, 1) := by decide +kernel
theorem dX4_init_54 : decode cX4_init 54 = .ok (.bipush 8, 2) := by decide +kernel
theorem dX4_init_56 : decode cX4_init 56 = .ok (.if_icmp .ge 22, 3) := by decide +kernel
theorem dX4_init_59 : decode cX4_init 59 = .ok (.aload_n 0, 1) := by decide +kernel
theorem dX4_init_60 : decode cX4_init 60 = .ok (.getfield 32, 3) := by decide +kernel
theorem dX4_init_63 : decode cX4_init 63 = .ok (.iload_n 1, 1) := by decide +kernel
theorem dX4_init_64 : decode cX4_init 64 = .ok (.new 22, 3) := by decide +kernel
theorem dX4_init_67 : decode cX4_init 67 = .ok (.dup, 1) := by decide +kernel
theorem dX4_init_68 : decode cX4_init 68 = .ok (.invokespecial 24, 3) := by decide +kernel
theorem dX4_init_71 : decode cX4_init 71 = .ok (.aastore, 1) := by decide +kernel
theorem dX4_init_72 : decode cX4_init 72 = .ok (.iinc 1 1, 3) := by decide +kernel
theorem dX4_init_75 : decode cX4_init 75 = .ok (.goto (-22), 3) := by decide +kernel
theorem dX4_init_78 : decode cX4_init 78 = .ok (.return_, 1) := by decide +kernel
theorem dX4_begin_0 : decode cX4_begin 0 = .ok (.aload_n 0, 1) := by decide +kernel
theorem dX4_begin_1 : decode cX4_begin 1 = .ok (.iload_n 1, 1) := by decide +kernel
theorem dX4_begin_2 : decode cX4_begin 2 = .ok (.putfield 9, 3) := by decide +kernel
theorem dX4_begin_5 : decode cX4_begin 5 = .ok (.aload_n 0, 1) := by decide +kernel
theorem dX4_begin_6 : decode cX4_begin 6 = .ok (.iload_n 2, 1) := by decide +kernel
theorem dX4_begin_7 : decode cX4_begin 7 = .ok (.putfield 15, 3) := by decide +kernel
theorem dX4_begin_10 : decode cX4_begin 10 = .ok (.aload_n 0, 1) := by decide +kernel
theorem dX4_begin_11 : decode cX4_begin 11 = .ok (.getfield 25, 3) := by decide +kernel
theorem dX4_begin_14 : decode cX4_begin 14 = .ok (.iconst 0, 1) := by decide +kernel
theorem dX4_begin_15 : decode cX4_begin 15 = .ok (.putfield 36, 3) := by decide +kernel
theorem dX4_begin_18 : decode cX4_begin 18 = .ok (.aload_n 0, 1) := by decide +kernel
theorem dX4_begin_19 : decode cX4_begin 19 = .ok (.getfield 25, 3) := by decide +kernel
theorem dX4_begin_22 : decode cX4_begin 22 = .ok (.iconst 0, 1) := by decide +kernel
theorem dX4_begin_23 : decode cX4_begin 23 = .ok (.putfield 39, 3) := by decide +kernel
theorem dX4_begin_26 : decode cX4_begin 26 = .ok (.aload_n 0, 1) := by decide +kernel
theorem dX4_begin_27 : decode cX4_begin 27 = .ok (.iconst 0, 1) := by decide +kernel
theorem dX4_begin_28 : decode cX4_begin 28 = .ok (.putfield 42, 3) := by decide +kernel
theorem dX4_begin_31 : decode cX4_begin 31 = .ok (.aload_n 0, 1) := by decide +kernel
theorem dX4_begin_32 : decode cX4_begin 32 = .ok (.iconst 0, 1) := by decide +kernel
theorem dX4_begin_33 : decode cX4_begin 33 = .ok (.putfield 45, 3) := by decide +kernel
theorem dX4_begin_36 : decode cX4_begin 36 = .ok (.aload_n 0, 1) := by decide +kernel
theorem dX4_begin_37 : decode cX4_begin 37 = .ok (.iconst 0, 1) := by decide +kernel
theorem dX4_begin_38 : decode cX4_begin 38 = .ok (.putfield 48, 3) := by decide +kernel
theorem dX4_begin_41 : decode cX4_begin 41 = .ok (.return_, 1) := by decide +kernel
theorem dX4_copy_0 : decode cX4_copy 0 = .ok (.aload_n 0, 1) := by decide +kernel
theorem dX4_copy_1 : decode cX4_copy 1 = .ok (.aload_n 1, 1) := by decide +kernel
theorem dX4_copy_2 : decode cX4_copy 2 = .ok (.getfield 9, 3) := by decide +kernel
theorem dX4_copy_5 : decode cX4_copy 5 = .ok (.putfield 9, 3) := by decide +kernel
theorem dX4_copy_8 : decode cX4_copy 8 = .ok (.aload_n 0, 1) := by decide +kernel
theorem dX4_copy_9 : decode cX4_copy 9 = .ok (.aload_n 1, 1) := by decide +kernel
theorem dX4_copy_10 : decode cX4_copy 10 = .ok (.getfield 15, 3) := by decide +kernel
theorem dX4_copy_13 : decode cX4_copy 13 = .ok (.putfield 15, 3) := by decide +kernel
theorem dX4_copy_16 : decode cX4_copy 16 = .ok (.aload_n 0, 1) := by decide +kernel
theorem dX4_copy_17 : decode cX4_copy 17 = .ok (.aload_n 1, 1) := by decide +kernel
theorem dX4_copy_18 : decode cX4_copy 18 = .ok (.getfield 42, 3) := by decide +kernel
theorem dX4_copy_21 : decode cX4_copy 21 = .ok (.putfield 42, 3) := by decide +kernel
theorem dX4_copy_24 : decode cX4_copy 24 = .ok (.aload_n 0, 1) := by decide +kernel
theorem dX4_copy_25 : decode cX4_copy 25 = .ok (.aload_n 1, 1) := by decide +kernel
theorem dX4_copy_26 : decode cX4_copy 26 = .ok (.getfield 45, 3) := by decide +kernel
theorem dX4_copy_29 : decode cX4_copy 29 = .ok (.putfield 45, 3) := by decide +kernel
theorem dX4_copy_32 : decode cX4_copy 32 = .ok (.aload_n 0, 1) := by decide +kernel
theorem dX4_copy_33 : decode cX4_copy 33 = .ok (.aload_n 1, 1) := by decide +kernel
theorem dX4_copy_34 : decode cX4_copy 34 = .ok (.getfield 48, 3) := by decide +kernel
theorem dX4_copy_37 : decode cX4_copy 37 = .ok (.putfield 48, 3) := by decide +kernel
theorem dX4_copy_40 : decode cX4_copy 40 = .ok (.aload_n 1, 1) := by decide +kernel
theorem dX4_copy_41 : decode cX4_copy 41 = .ok (.getfield 18, 3) := by decide +kernel
theorem dX4_copy_44 : decode cX4_copy 44 = .ok (.iconst 0, 1) := by decide +kernel
theorem dX4_copy_45 : decode cX4_copy 45 = .ok (.aload_n 0, 1) := by decide +kernel
theorem dX4_copy_46 : decode cX4_copy 46 = .ok (.getfield 18, 3) := by decide +kernel
theorem dX4_copy_49 : decode cX4_copy 49 = .ok (.iconst 0, 1) := by decide +kernel
theorem dX4_copy_50 : decode cX4_copy 50 = .ok (.bipush 12, 2) := by decide +kernel
theorem dX4_copy_52 : decode cX4_copy 52 = .ok (.invokestatic 51, 3) := by decide +kernel
theorem dX4_copy_55 : decode cX4_copy 55 = .ok (.aload_n 1, 1) := by decide +kernel
theorem dX4_copy_56 : decode cX4_copy 56 = .ok (.getfield 29, 3) := by decide +kernel
theorem dX4_copy_59 : decode cX4_copy 59 = .ok (.iconst 0, 1) := by decide +kernel
theorem dX4_copy_60 : decode cX4_copy 60 = .ok (.aload_n 0, 1) := by decide +kernel
theorem dX4_copy_61 : decode cX4_copy 61 = .ok (.getfield 29, 3) := by decide +kernel
theorem dX4_copy_64 : decode cX4_copy 64 = .ok (.iconst 0, 1) := by decide +kernel
theorem dX4_copy_65 : decode cX4_copy 65 = .ok (.bipush 6, 2) := by decide +kernel
theorem dX4_copy_67 : decode cX4_copy 67 = .ok (.invokestatic 51, 3) := by decide +kernel
theorem dX4_copy_70 : decode cX4_copy 70 = .ok (.aload_n 0, 1) := by decide +kernel
theorem dX4_copy_71 : decode cX4_copy 71 = .ok (.getfield 25, 3) := by decide +kernel
theorem dX4_copy_74 : decode cX4_copy 74 = .ok (.aload_n 1, 1) := by decide +kernel
theorem dX4_copy_75 : decode cX4_copy 75 = .ok (.getfield 25, 3) := by decide +kernel
theorem dX4_copy_78 : decode cX4_copy 78 = .ok (.invokevirtual 57, 3) := by decide +kernel
theorem dX4_copy_81 : decode cX4_copy 81 = .ok (.iconst 0, 1) := by decide +kernel
theorem dX4_copy_82 : decode cX4_copy 82 = .ok (.istore_n 2, 1) := by decide +kernel
theorem dX4_copy_83 : decode cX4_copy 83 = .ok (.iload_n 2, 1) := by decide +kernel
theorem dX4_copy_84 : decode cX4_copy 84 = .ok (.bipush 8, 2) := by decide +kernel
theorem dX4_copy_86 : decode cX4_copy 86 = .ok (.if_icmp .ge 24, 3) := by decide +kernel
theorem dX4_copy_89 : decode cX4_copy 89 = .ok (.aload_n 0, 1) := by decide +kernel
theorem dX4_copy_90 : decode cX4_copy 90 = .ok (.getfield 32, 3) := by decide +kernel
theorem dX4_copy_93 : decode cX4_copy 93 = .ok (.iload_n 2, 1) := by decide +kernel
theorem dX4_copy_94 : decode cX4_copy 94 = .ok (.aaload, 1) := by decide +kernel
theorem dX4_copy_95 : decode cX4_copy 95 = .ok (.aload_n 1, 1) := by decide +kernel
theorem dX4_copy_96 : decode cX4_copy 96 = .ok (.getfield 32, 3) := by decide +kernel
theorem dX4_copy_99 : decode cX4_copy 99 = .ok (.iload_n 2, 1) := by decide +kernel
theorem dX4_copy_100 : decode cX4_copy 100 = .ok (.aaload, 1) := by decide +kernel
theorem dX4_copy_101 : decode cX4_copy 101 = .ok (.invokevirtual 57, 3) := by decide +kernel
theorem dX4_copy_104 : decode cX4_copy 104 = .ok (.iinc 2 1, 3) := by decide +kernel
theorem dX4_copy_107 : decode cX4_copy 107 = .ok (.goto (-24), 3) := by decide +kernel
theorem dX4_copy_110 : decode cX4_copy 110 = .ok (.return_, 1) := by decide +kernel
theorem dX4_has_0 : decode cX4_has 0 = .ok (.iload_n 1, 1) := by decide +kernel
theorem dX4_has_1 : decode cX4_has 1 = .ok (.ifCond .lt 15, 3) := by decide +kernel
theorem dX4_has_4 : decode cX4_has 4 = .ok (.iload_n 1, 1) := by decide +kernel
theorem dX4_has_5 : decode cX4_has 5 = .ok (.aload_n 0, 1) := by decide +kernel
theorem dX4_has_6 : decode cX4_has 6 = .ok (.getfield 42, 3) := by decide +kernel
theorem dX4_has_9 : decode cX4_has 9 = .ok (.if_icmp .ge 7, 3) := by decide +kernel
theorem dX4_has_12 : decode cX4_has 12 = .ok (.iconst 1, 1) := by decide +kernel
theorem dX4_has_13 : decode cX4_has 13 = .ok (.goto 4, 3) := by decide +kernel
theorem dX4_has_16 : decode cX4_has 16 = .ok (.iconst 0, 1) := by decide +kernel
theorem dX4_has_17 : decode cX4_has 17 = .ok (.ireturn, 1) := by decide +kernel
theorem dX4_hasRoom_0 : decode cX4_hasRoom 0 = .ok (.aload_n 0, 1) := by decide +kernel
theorem dX4_hasRoom_1 : decode cX4_hasRoom 1 = .ok (.getfield 42, 3) := by decide +kernel
theorem dX4_hasRoom_4 : decode cX4_hasRoom 4 = .ok (.bipush 12, 2) := by decide +kernel
theorem dX4_hasRoom_6 : decode cX4_hasRoom 6 = .ok (.if_icmp .ge 7, 3) := by decide +kernel
theorem dX4_hasRoom_9 : decode cX4_hasRoom 9 = .ok (.iconst 1, 1) := by decide +kernel
theorem dX4_hasRoom_10 : decode cX4_hasRoom 10 = .ok (.goto 4, 3) := by decide +kernel
theorem dX4_hasRoom_13 : decode cX4_hasRoom 13 = .ok (.iconst 0, 1) := by decide +kernel
theorem dX4_hasRoom_14 : decode cX4_hasRoom 14 = .ok (.ireturn, 1) := by decide +kernel
theorem dX4_addWord_0 : decode cX4_addWord 0 = .ok (.aload_n 0, 1) := by decide +kernel
theorem dX4_addWord_1 : decode cX4_addWord 1 = .ok (.getfield 18, 3) := by decide +kernel
theorem dX4_addWord_4 : decode cX4_addWord 4 = .ok (.aload_n 0, 1) := by decide +kernel
theorem dX4_addWord_5 : decode cX4_addWord 5 = .ok (.getfield 42, 3) := by decide +kernel
theorem dX4_addWord_8 : decode cX4_addWord 8 = .ok (.iload_n 1, 1) := by decide +kernel
theorem dX4_addWord_9 : decode cX4_addWord 9 = .ok (.iastore, 1) := by decide +kernel
theorem dX4_addWord_10 : decode cX4_addWord 10 = .ok (.aload_n 0, 1) := by decide +kernel
theorem dX4_addWord_11 : decode cX4_addWord 11 = .ok (.getfield 25, 3) := by decide +kernel
theorem dX4_addWord_14 : decode cX4_addWord 14 = .ok (.aload_n 0, 1) := by decide +kernel
theorem dX4_addWord_15 : decode cX4_addWord 15 = .ok (.getfield 42, 3) := by decide +kernel
theorem dX4_addWord_18 : decode cX4_addWord 18 = .ok (.iconst (-1), 1) := by decide +kernel
theorem dX4_addWord_19 : decode cX4_addWord 19 = .ok (.invokevirtual 61, 3) := by decide +kernel
theorem dX4_addWord_22 : decode cX4_addWord 22 = .ok (.aload_n 0, 1) := by decide +kernel
theorem dX4_addWord_23 : decode cX4_addWord 23 = .ok (.dup, 1) := by decide +kernel
theorem dX4_addWord_24 : decode cX4_addWord 24 = .ok (.getfield 42, 3) := by decide +kernel
theorem dX4_addWord_27 : decode cX4_addWord 27 = .ok (.iconst 1, 1) := by decide +kernel
theorem dX4_addWord_28 : decode cX4_addWord 28 = .ok (.iadd, 1) := by decide +kernel
theorem dX4_addWord_29 : decode cX4_addWord 29 = .ok (.putfield 42, 3) := by decide +kernel
theorem dX4_addWord_32 : decode cX4_addWord 32 = .ok (.aload_n 0, 1) := by decide +kernel
theorem dX4_addWord_33 : decode cX4_addWord 33 = .ok (.iconst 0, 1) := by decide +kernel
theorem dX4_addWord_34 : decode cX4_addWord 34 = .ok (.putfield 48, 3) := by decide +kernel
theorem dX4_addWord_37 : decode cX4_addWord 37 = .ok (.return_, 1) := by decide +kernel
theorem dX4_setMark_0 : decode cX4_setMark 0 = .ok (.aload_n 0, 1) := by decide +kernel
theorem dX4_setMark_1 : decode cX4_setMark 1 = .ok (.getfield 25, 3) := by decide +kernel
theorem dX4_setMark_4 : decode cX4_setMark 4 = .ok (.iload_n 1, 1) := by decide +kernel
theorem dX4_setMark_5 : decode cX4_setMark 5 = .ok (.iload_n 2, 1) := by decide +kernel
theorem dX4_setMark_6 : decode cX4_setMark 6 = .ok (.invokevirtual 61, 3) := by decide +kernel
theorem dX4_setMark_9 : decode cX4_setMark 9 = .ok (.aload_n 0, 1) := by decide +kernel
theorem dX4_setMark_10 : decode cX4_setMark 10 = .ok (.iconst 0, 1) := by decide +kernel
theorem dX4_setMark_11 : decode cX4_setMark 11 = .ok (.putfield 48, 3) := by decide +kernel
theorem dX4_setMark_14 : decode cX4_setMark 14 = .ok (.return_, 1) := by decide +kernel
theorem dX4_costOf_0 : decode cX4_costOf 0 = .ok (.iload_n 1, 1) := by decide +kernel
theorem dX4_costOf_1 : decode cX4_costOf 1 = .ok (.aload_n 0, 1) := by decide +kernel
theorem dX4_costOf_2 : decode cX4_costOf 2 = .ok (.getfield 15, 3) := by decide +kernel
theorem dX4_costOf_5 : decode cX4_costOf 5 = .ok (.aload_n 0, 1) := by decide +kernel
theorem dX4_costOf_6 : decode cX4_costOf 6 = .ok (.getfield 25, 3) := by decide +kernel
theorem dX4_costOf_9 : decode cX4_costOf 9 = .ok (.getfield 39, 3) := by decide +kernel
theorem dX4_costOf_12 : decode cX4_costOf 12 = .ok (.invokestatic 65, 3) := by decide +kernel
theorem dX4_costOf_15 : decode cX4_costOf 15 = .ok (.ireturn, 1) := by decide +kernel
theorem dX4_howManyMarks_0 : decode cX4_howManyMarks 0 = .ok (.iconst 0, 1) := by decide +kernel
theorem dX4_howManyMarks_1 : decode cX4_howManyMarks 1 = .ok (.istore_n 1, 1) := by decide +kernel
theorem dX4_howManyMarks_2 : decode cX4_howManyMarks 2 = .ok (.iconst 0, 1) := by decide +kernel
theorem dX4_howManyMarks_3 : decode cX4_howManyMarks 3 = .ok (.istore_n 2, 1) := by decide +kernel
theorem dX4_howManyMarks_4 : decode cX4_howManyMarks 4 = .ok (.iload_n 2, 1) := by decide +kernel
theorem dX4_howManyMarks_5 : decode cX4_howManyMarks 5 = .ok (.aload_n 0, 1) := by decide +kernel
theorem dX4_howManyMarks_6 : decode cX4_howManyMarks 6 = .ok (.getfield 42, 3) := by decide +kernel
theorem dX4_howManyMarks_9 : decode cX4_howManyMarks 9 = .ok (.if_icmp .ge 25, 3) := by decide +kernel
theorem dX4_howManyMarks_12 : decode cX4_howManyMarks 12 = .ok (.aload_n 0, 1) := by decide +kernel
theorem dX4_howManyMarks_13 : decode cX4_howManyMarks 13 = .ok (.getfield 25, 3) := by decide +kernel
theorem dX4_howManyMarks_16 : decode cX4_howManyMarks 16 = .ok (.getfield 71, 3) := by decide +kernel
theorem dX4_howManyMarks_19 : decode cX4_howManyMarks 19 = .ok (.iload_n 2, 1) := by decide +kernel
theorem dX4_howManyMarks_20 : decode cX4_howManyMarks 20 = .ok (.iaload, 1) := by decide +kernel
theorem dX4_howManyMarks_21 : decode cX4_howManyMarks 21 = .ok (.iconst (-1), 1) := by decide +kernel
theorem dX4_howManyMarks_22 : decode cX4_howManyMarks 22 = .ok (.if_icmp .eq 6, 3) := by decide +kernel
theorem dX4_howManyMarks_25 : decode cX4_howManyMarks 25 = .ok (.iinc 1 1, 3) := by decide +kernel
theorem dX4_howManyMarks_28 : decode cX4_howManyMarks 28 = .ok (.iinc 2 1, 3) := by decide +kernel
theorem dX4_howManyMarks_31 : decode cX4_howManyMarks 31 = .ok (.goto (-27), 3) := by decide +kernel
theorem dX4_howManyMarks_34 : decode cX4_howManyMarks 34 = .ok (.iload_n 1, 1) := by decide +kernel
theorem dX4_howManyMarks_35 : decode cX4_howManyMarks 35 = .ok (.ireturn, 1) := by decide +kernel
theorem dX4_remember_0 : decode cX4_remember 0 = .ok (.aload_n 0, 1) := by decide +kernel
theorem dX4_remember_1 : decode cX4_remember 1 = .ok (.getfield 48, 3) := by decide +kernel
theorem dX4_remember_4 : decode cX4_remember 4 = .ok (.bipush 8, 2) := by decide +kernel
theorem dX4_remember_6 : decode cX4_remember 6 = .ok (.if_icmp .ne 7, 3) := by decide +kernel
theorem dX4_remember_9 : decode cX4_remember 9 = .ok (.aload_n 0, 1) := by decide +kernel
theorem dX4_remember_10 : decode cX4_remember 10 = .ok (.invokevirtual 74, 3) := by decide +kernel
theorem dX4_remember_13 : decode cX4_remember 13 = .ok (.aload_n 0, 1) := by decide +kernel
theorem dX4_remember_14 : decode cX4_remember 14 = .ok (.getfield 32, 3) := by decide +kernel
theorem dX4_remember_17 : decode cX4_remember 17 = .ok (.aload_n 0, 1) := by decide +kernel
theorem dX4_remember_18 : decode cX4_remember 18 = .ok (.getfield 48, 3) := by decide +kernel
theorem dX4_remember_21 : decode cX4_remember 21 = .ok (.aaload, 1) := by decide +kernel
theorem dX4_remember_22 : decode cX4_remember 22 = .ok (.aload_n 0, 1) := by decide +kernel
theorem dX4_remember_23 : decode cX4_remember 23 = .ok (.getfield 25, 3) := by decide +kernel
theorem dX4_remember_26 : decode cX4_remember 26 = .ok (.invokevirtual 57, 3) := by decide +kernel
theorem dX4_remember_29 : decode cX4_remember 29 = .ok (.aload_n 0, 1) := by decide +kernel
theorem dX4_remember_30 : decode cX4_remember 30 = .ok (.dup, 1) := by decide +kernel
theorem dX4_remember_31 : decode cX4_remember 31 = .ok (.getfield 48, 3) := by decide +kernel
theorem dX4_remember_34 : decode cX4_remember 34 = .ok (.iconst 1, 1) := by decide +kernel
theorem dX4_remember_35 : decode cX4_remember 35 = .ok (.iadd, 1) := by decide +kernel
theorem dX4_remember_36 : decode cX4_remember 36 = .ok (.putfield 48, 3) := by decide +kernel
theorem dX4_remember_39 : decode cX4_remember 39 = .ok (.return_, 1) := by decide +kernel
theorem dX4_dropOldest_0 : decode cX4_dropOldest 0 = .ok (.aload_n 0, 1) := by decide +kernel
theorem dX4_dropOldest_1 : decode cX4_dropOldest 1 = .ok (.getfield 32, 3) := by decide +kernel
theorem dX4_dropOldest_4 : decode cX4_dropOldest 4 = .ok (.iconst 0, 1) := by decide +kernel
theorem dX4_dropOldest_5 : decode cX4_dropOldest 5 = .ok (.aaload, 1) := by decide +kernel
theorem dX4_dropOldest_6 : decode cX4_dropOldest 6 = .ok (.astore_n 1, 1) := by decide +kernel
theorem dX4_dropOldest_7 : decode cX4_dropOldest 7 = .ok (.iconst 1, 1) := by decide +kernel
theorem dX4_dropOldest_8 : decode cX4_dropOldest 8 = .ok (.istore_n 2, 1) := by decide +kernel
theorem dX4_dropOldest_9 : decode cX4_dropOldest 9 = .ok (.iload_n 2, 1) := by decide +kernel
theorem dX4_dropOldest_10 : decode cX4_dropOldest 10 = .ok (.bipush 8, 2) := by decide +kernel
theorem dX4_dropOldest_12 : decode cX4_dropOldest 12 = .ok (.if_icmp .ge 23, 3) := by decide +kernel
theorem dX4_dropOldest_15 : decode cX4_dropOldest 15 = .ok (.aload_n 0, 1) := by decide +kernel
theorem dX4_dropOldest_16 : decode cX4_dropOldest 16 = .ok (.getfield 32, 3) := by decide +kernel
theorem dX4_dropOldest_19 : decode cX4_dropOldest 19 = .ok (.iload_n 2, 1) := by decide +kernel
theorem dX4_dropOldest_20 : decode cX4_dropOldest 20 = .ok (.iconst 1, 1) := by decide +kernel
theorem dX4_dropOldest_21 : decode cX4_dropOldest 21 = .ok (.isub, 1) := by decide +kernel
theorem dX4_dropOldest_22 : decode cX4_dropOldest 22 = .ok (.aload_n 0, 1) := by decide +kernel
theorem dX4_dropOldest_23 : decode cX4_dropOldest 23 = .ok (.getfield 32, 3) := by decide +kernel
theorem dX4_dropOldest_26 : decode cX4_dropOldest 26 = .ok (.iload_n 2, 1) := by decide +kernel
theorem dX4_dropOldest_27 : decode cX4_dropOldest 27 = .ok (.aaload, 1) := by decide +kernel
theorem dX4_dropOldest_28 : decode cX4_dropOldest 28 = .ok (.aastore, 1) := by decide +kernel
theorem dX4_dropOldest_29 : decode cX4_dropOldest 29 = .ok (.iinc 2 1, 3) := by decide +kernel
theorem dX4_dropOldest_32 : decode cX4_dropOldest 32 = .ok (.goto (-23), 3) := by decide +kernel
theorem dX4_dropOldest_35 : decode cX4_dropOldest 35 = .ok (.aload_n 0, 1) := by decide +kernel
theorem dX4_dropOldest_36 : decode cX4_dropOldest 36 = .ok (.getfield 32, 3) := by decide +kernel
theorem dX4_dropOldest_39 : decode cX4_dropOldest 39 = .ok (.bipush 7, 2) := by decide +kernel
theorem dX4_dropOldest_41 : decode cX4_dropOldest 41 = .ok (.aload_n 1, 1) := by decide +kernel
theorem dX4_dropOldest_42 : decode cX4_dropOldest 42 = .ok (.aastore, 1) := by decide +kernel
theorem dX4_dropOldest_43 : decode cX4_dropOldest 43 = .ok (.aload_n 0, 1) := by decide +kernel
theorem dX4_dropOldest_44 : decode cX4_dropOldest 44 = .ok (.bipush 7, 2) := by decide +kernel
theorem dX4_dropOldest_46 : decode cX4_dropOldest 46 = .ok (.putfield 48, 3) := by decide +kernel
theorem dX4_dropOldest_49 : decode cX4_dropOldest 49 = .ok (.return_, 1) := by decide +kernel
theorem dX4_goBack_0 : decode cX4_goBack 0 = .ok (.aload_n 0, 1) := by decide +kernel
theorem dX4_goBack_1 : decode cX4_goBack 1 = .ok (.getfield 48, 3) := by decide +kernel
theorem dX4_goBack_4 : decode cX4_goBack 4 = .ok (.ifCond .le 29, 3) := by decide +kernel
theorem dX4_goBack_7 : decode cX4_goBack 7 = .ok (.aload_n 0, 1) := by decide +kernel
theorem dX4_goBack_8 : decode cX4_goBack 8 = .ok (.dup, 1) := by decide +kernel
theorem dX4_goBack_9 : decode cX4_goBack 9 = .ok (.getfield 48, 3) := by decide +kernel
theorem dX4_goBack_12 : decode cX4_goBack 12 = .ok (.iconst 1, 1) := by decide +kernel
theorem dX4_goBack_13 : decode cX4_goBack 13 = .ok (.isub, 1) := by decide +kernel
theorem dX4_goBack_14 : decode cX4_goBack 14 = .ok (.putfield 48, 3) := by decide +kernel
theorem dX4_goBack_17 : decode cX4_goBack 17 = .ok (.aload_n 0, 1) := by decide +kernel
theorem dX4_goBack_18 : decode cX4_goBack 18 = .ok (.getfield 25, 3) := by decide +kernel
theorem dX4_goBack_21 : decode cX4_goBack 21 = .ok (.aload_n 0, 1) := by decide +kernel
theorem dX4_goBack_22 : decode cX4_goBack 22 = .ok (.getfield 32, 3) := by decide +kernel
theorem dX4_goBack_25 : decode cX4_goBack 25 = .ok (.aload_n 0, 1) := by decide +kernel
theorem dX4_goBack_26 : decode cX4_goBack 26 = .ok (.getfield 48, 3) := by decide +kernel
theorem dX4_goBack_29 : decode cX4_goBack 29 = .ok (.aaload, 1) := by decide +kernel
theorem dX4_goBack_30 : decode cX4_goBack 30 = .ok (.invokevirtual 57, 3) := by decide +kernel
theorem dX4_goBack_33 : decode cX4_goBack 33 = .ok (.return_, 1) := by decide +kernel
theorem dX4_leftBehind_0 : decode cX4_leftBehind 0 = .ok (.iload_n 2, 1) := by decide +kernel
theorem dX4_leftBehind_1 : decode cX4_leftBehind 1 = .ok (.iload_n 3, 1) := by decide +kernel
theorem dX4_leftBehind_2 : decode cX4_leftBehind 2 = .ok (.if_icmp .le 7, 3) := by decide +kernel
theorem dX4_leftBehind_5 : decode cX4_leftBehind 5 = .ok (.iconst (-1), 1) := by decide +kernel
theorem dX4_leftBehind_6 : decode cX4_leftBehind 6 = .ok (.goto 20, 3) := by decide +kernel
theorem dX4_leftBehind_9 : decode cX4_leftBehind 9 = .ok (.aload_n 0, 1) := by decide +kernel
theorem dX4_leftBehind_10 : decode cX4_leftBehind 10 = .ok (.getfield 25, 3) := by decide +kernel
theorem dX4_leftBehind_13 : decode cX4_leftBehind 13 = .ok (.getfield 71, 3) := by decide +kernel
theorem dX4_leftBehind_16 : decode cX4_leftBehind 16 = .ok (.iload_n 1, 1) := by decide +kernel
theorem dX4_leftBehind_17 : decode cX4_leftBehind 17 = .ok (.iaload, 1) := by decide +kernel
theorem dX4_leftBehind_18 : decode cX4_leftBehind 18 = .ok (.iload_n 3, 1) := by decide +kernel
theorem dX4_leftBehind_19 : decode cX4_leftBehind 19 = .ok (.iload_n 2, 1) := by decide +kernel
theorem dX4_leftBehind_20 : decode cX4_leftBehind 20 = .ok (.isub, 1) := by decide +kernel
theorem dX4_leftBehind_21 : decode cX4_leftBehind 21 = .ok (.iload 4, 2) := by decide +kernel
theorem dX4_leftBehind_23 : decode cX4_leftBehind 23 = .ok (.invokestatic 77, 3) := by decide +kernel
theorem dX4_leftBehind_26 : decode cX4_leftBehind 26 = .ok (.ireturn, 1) := by decide +kernel
theorem dX4_say_0 : decode cX4_say 0 = .ok (.aload_n 0, 1) := by decide +kernel
theorem dX4_say_1 : decode cX4_say 1 = .ok (.getfield 9, 3) := by decide +kernel
theorem dX4_say_4 : decode cX4_say 4 = .ok (.istore_n 1, 1) := by decide +kernel
theorem dX4_say_5 : decode cX4_say 5 = .ok (.iconst 0, 1) := by decide +kernel
theorem dX4_say_6 : decode cX4_say 6 = .ok (.istore_n 2, 1) := by decide +kernel
theorem dX4_say_7 : decode cX4_say 7 = .ok (.iload_n 2, 1) := by decide +kernel
theorem dX4_say_8 : decode cX4_say 8 = .ok (.aload_n 0, 1) := by decide +kernel
theorem dX4_say_9 : decode cX4_say 9 = .ok (.getfield 42, 3) := by decide +kernel
theorem dX4_say_12 : decode cX4_say 12 = .ok (.if_icmp .ge 41, 3) := by decide +kernel
theorem dX4_say_15 : decode cX4_say 15 = .ok (.aload_n 0, 1) := by decide +kernel
theorem dX4_say_16 : decode cX4_say 16 = .ok (.iload_n 2, 1) := by decide +kernel
theorem dX4_say_17 : decode cX4_say 17 = .ok (.aload_n 0, 1) := by decide +kernel
theorem dX4_say_18 : decode cX4_say 18 = .ok (.getfield 18, 3) := by decide +kernel
theorem dX4_say_21 : decode cX4_say 21 = .ok (.iload_n 2, 1) := by decide +kernel
theorem dX4_say_22 : decode cX4_say 22 = .ok (.iaload, 1) := by decide +kernel
theorem dX4_say_23 : decode cX4_say 23 = .ok (.iload_n 1, 1) := by decide +kernel
theorem dX4_say_24 : decode cX4_say 24 = .ok (.aload_n 0, 1) := by decide +kernel
theorem dX4_say_25 : decode cX4_say 25 = .ok (.getfield 9, 3) := by decide +kernel
theorem dX4_say_28 : decode cX4_say 28 = .ok (.invokevirtual 80, 3) := by decide +kernel
theorem dX4_say_31 : decode cX4_say 31 = .ok (.istore_n 1, 1) := by decide +kernel
theorem dX4_say_32 : decode cX4_say 32 = .ok (.iload_n 1, 1) := by decide +kernel
theorem dX4_say_33 : decode cX4_say 33 = .ok (.iconst (-1), 1) := by decide +kernel
theorem dX4_say_34 : decode cX4_say 34 = .ok (.if_icmp .ne 5, 3) := by decide +kernel
theorem dX4_say_37 : decode cX4_say 37 = .ok (.iload_n 2, 1) := by decide +kernel
theorem dX4_say_38 : decode cX4_say 38 = .ok (.ireturn, 1) := by decide +kernel
theorem dX4_say_39 : decode cX4_say 39 = .ok (.aload_n 0, 1) := by decide +kernel
theorem dX4_say_40 : decode cX4_say 40 = .ok (.getfield 25, 3) := by decide +kernel
theorem dX4_say_43 : decode cX4_say 43 = .ok (.iload_n 2, 1) := by decide +kernel
theorem dX4_say_44 : decode cX4_say 44 = .ok (.invokevirtual 84, 3) := by decide +kernel
theorem dX4_say_47 : decode cX4_say 47 = .ok (.iinc 2 1, 3) := by decide +kernel
theorem dX4_say_50 : decode cX4_say 50 = .ok (.goto (-43), 3) := by decide +kernel
theorem dX4_say_53 : decode cX4_say 53 = .ok (.aload_n 0, 1) := by decide +kernel
theorem dX4_say_54 : decode cX4_say 54 = .ok (.getfield 42, 3) := by decide +kernel
theorem dX4_say_57 : decode cX4_say 57 = .ok (.ireturn, 1) := by decide +kernel
theorem dX4_stuckAt_0 : decode cX4_stuckAt 0 = .ok (.iload_n 1, 1) := by decide +kernel
theorem dX4_stuckAt_1 : decode cX4_stuckAt 1 = .ok (.istore_n 3, 1) := by decide +kernel
theorem dX4_stuckAt_2 : decode cX4_stuckAt 2 = .ok (.iconst 0, 1) := by decide +kernel
theorem dX4_stuckAt_3 : decode cX4_stuckAt 3 = .ok (.istore 4, 2) := by decide +kernel
theorem dX4_stuckAt_5 : decode cX4_stuckAt 5 = .ok (.iload 4, 2) := by decide +kernel
theorem dX4_stuckAt_7 : decode cX4_stuckAt 7 = .ok (.aload_n 0, 1) := by decide +kernel
theorem dX4_stuckAt_8 : decode cX4_stuckAt 8 = .ok (.getfield 42, 3) := by decide +kernel
theorem dX4_stuckAt_11 : decode cX4_stuckAt 11 = .ok (.if_icmp .ge 39, 3) := by decide +kernel
theorem dX4_stuckAt_14 : decode cX4_stuckAt 14 = .ok (.iload 4, 2) := by decide +kernel
theorem dX4_stuckAt_16 : decode cX4_stuckAt 16 = .ok (.iload_n 2, 1) := by decide +kernel
theorem dX4_stuckAt_17 : decode cX4_stuckAt 17 = .ok (.if_icmp .eq 19, 3) := by decide +kernel
theorem dX4_stuckAt_20 : decode cX4_stuckAt 20 = .ok (.aload_n 0, 1) := by decide +kernel
theorem dX4_stuckAt_21 : decode cX4_stuckAt 21 = .ok (.iload 4, 2) := by decide +kernel
theorem dX4_stuckAt_23 : decode cX4_stuckAt 23 = .ok (.aload_n 0, 1) := by decide +kernel
theorem dX4_stuckAt_24 : decode cX4_stuckAt 24 = .ok (.getfield 18, 3) := by decide +kernel
theorem dX4_stuckAt_27 : decode cX4_stuckAt 27 = .ok (.iload 4, 2) := by decide +kernel
theorem dX4_stuckAt_29 : decode cX4_stuckAt 29 = .ok (.iaload, 1) := by decide +kernel
theorem dX4_stuckAt_30 : decode cX4_stuckAt 30 = .ok (.iload_n 3, 1) := by decide +kernel
theorem dX4_stuckAt_31 : decode cX4_stuckAt 31 = .ok (.iload_n 1, 1) := by decide +kernel
theorem dX4_stuckAt_32 : decode cX4_stuckAt 32 = .ok (.invokevirtual 80, 3) := by decide +kernel
theorem dX4_stuckAt_35 : decode cX4_stuckAt 35 = .ok (.istore_n 3, 1) := by decide +kernel
theorem dX4_stuckAt_36 : decode cX4_stuckAt 36 = .ok (.iload_n 3, 1) := by decide +kernel
theorem dX4_stuckAt_37 : decode cX4_stuckAt 37 = .ok (.iconst (-1), 1) := by decide +kernel
theorem dX4_stuckAt_38 : decode cX4_stuckAt 38 = .ok (.if_icmp .ne 6, 3) := by decide +kernel
theorem dX4_stuckAt_41 : decode cX4_stuckAt 41 = .ok (.iload 4, 2) := by decide +kernel
theorem dX4_stuckAt_43 : decode cX4_stuckAt 43 = .ok (.ireturn, 1) := by decide +kernel
theorem dX4_stuckAt_44 : decode cX4_stuckAt 44 = .ok (.iinc 4 1, 3) := by decide +kernel
theorem dX4_stuckAt_47 : decode cX4_stuckAt 47 = .ok (.goto (-42), 3) := by decide +kernel
theorem dX4_stuckAt_50 : decode cX4_stuckAt 50 = .ok (.iconst (-1), 1) := by decide +kernel
theorem dX4_stuckAt_51 : decode cX4_stuckAt 51 = .ok (.ireturn, 1) := by decide +kernel
theorem dX4_breathsStuckAt_0 : decode cX4_breathsStuckAt 0 = .ok (.iconst 0, 1) := by decide +kernel
theorem dX4_breathsStuckAt_1 : decode cX4_breathsStuckAt 1 = .ok (.istore_n 2, 1) := by decide +kernel
theorem dX4_breathsStuckAt_2 : decode cX4_breathsStuckAt 2 = .ok (.iconst 1, 1) := by decide +kernel
theorem dX4_breathsStuckAt_3 : decode cX4_breathsStuckAt 3 = .ok (.istore_n 3, 1) := by decide +kernel
theorem dX4_breathsStuckAt_4 : decode cX4_breathsStuckAt 4 = .ok (.iload_n 3, 1) := by decide +kernel
theorem dX4_breathsStuckAt_5 : decode cX4_breathsStuckAt 5 = .ok (.bipush 30, 2) := by decide +kernel
theorem dX4_breathsStuckAt_7 : decode cX4_breathsStuckAt 7 = .ok (.if_icmp .gt 25, 3) := by decide +kernel
theorem dX4_breathsStuckAt_10 : decode cX4_breathsStuckAt 10 = .ok (.aload_n 0, 1) := by decide +kernel
theorem dX4_breathsStuckAt_11 : decode cX4_breathsStuckAt 11 = .ok (.iload_n 3, 1) := by decide +kernel
theorem dX4_breathsStuckAt_12 : decode cX4_breathsStuckAt 12 = .ok (.iconst (-1), 1) := by decide +kernel
theorem dX4_breathsStuckAt_13 : decode cX4_breathsStuckAt 13 = .ok (.invokevirtual 88, 3) := by decide +kernel
theorem dX4_breathsStuckAt_16 : decode cX4_breathsStuckAt 16 = .ok (.iload_n 1, 1) := by decide +kernel
theorem dX4_breathsStuckAt_17 : decode cX4_breathsStuckAt 17 = .ok (.if_icmp .ne 9, 3) := by decide +kernel
theorem dX4_breathsStuckAt_20 : decode cX4_breathsStuckAt 20 = .ok (.iload_n 2, 1) := by decide +kernel
theorem dX4_breathsStuckAt_21 : decode cX4_breathsStuckAt 21 = .ok (.iconst 1, 1) := by decide +kernel
theorem dX4_breathsStuckAt_22 : decode cX4_breathsStuckAt 22 = .ok (.iload_n 3, 1) := by decide +kernel
theorem dX4_breathsStuckAt_23 : decode cX4_breathsStuckAt 23 = .ok (.ishl, 1) := by decide +kernel
theorem dX4_breathsStuckAt_24 : decode cX4_breathsStuckAt 24 = .ok (.ior, 1) := by decide +kernel
theorem dX4_breathsStuckAt_25 : decode cX4_breathsStuckAt 25 = .ok (.istore_n 2, 1) := by decide +kernel
theorem dX4_breathsStuckAt_26 : decode cX4_breathsStuckAt 26 = .ok (.iinc 3 1, 3) := by decide +kernel
theorem dX4_breathsStuckAt_29 : decode cX4_breathsStuckAt 29 = .ok (.goto (-25), 3) := by decide +kernel
theorem dX4_breathsStuckAt_32 : decode cX4_breathsStuckAt 32 = .ok (.iload_n 2, 1) := by decide +kernel
theorem dX4_breathsStuckAt_33 : decode cX4_breathsStuckAt 33 = .ok (.ireturn, 1) := by decide +kernel
theorem dX4_addHeard_0 : decode cX4_addHeard 0 = .ok (.aload_n 0, 1) := by decide +kernel
theorem dX4_addHeard_1 : decode cX4_addHeard 1 = .ok (.getfield 29, 3) := by decide +kernel
theorem dX4_addHeard_4 : decode cX4_addHeard 4 = .ok (.aload_n 0, 1) := by decide +kernel
theorem dX4_addHeard_5 : decode cX4_addHeard 5 = .ok (.getfield 45, 3) := by decide +kernel
theorem dX4_addHeard_8 : decode cX4_addHeard 8 = .ok (.iload_n 1, 1) := by decide +kernel
theorem dX4_addHeard_9 : decode cX4_addHeard 9 = .ok (.iastore, 1) := by decide +kernel
theorem dX4_addHeard_10 : decode cX4_addHeard 10 = .ok (.aload_n 0, 1) := by decide +kernel
theorem dX4_addHeard_11 : decode cX4_addHeard 11 = .ok (.dup, 1) := by decide +kernel
theorem dX4_addHeard_12 : decode cX4_addHeard 12 = .ok (.getfield 45, 3) := by decide +kernel
theorem dX4_addHeard_15 : decode cX4_addHeard 15 = .ok (.iconst 1, 1) := by decide +kernel
theorem dX4_addHeard_16 : decode cX4_addHeard 16 = .ok (.iadd, 1) := by decide +kernel
theorem dX4_addHeard_17 : decode cX4_addHeard 17 = .ok (.putfield 45, 3) := by decide +kernel
theorem dX4_addHeard_20 : decode cX4_addHeard 20 = .ok (.return_, 1) := by decide +kernel
theorem dX4_breathsHeard_0 : decode cX4_breathsHeard 0 = .ok (.ldc 92, 2) := by decide +kernel
theorem dX4_breathsHeard_2 : decode cX4_breathsHeard 2 = .ok (.istore_n 1, 1) := by decide +kernel
theorem dX4_breathsHeard_3 : decode cX4_breathsHeard 3 = .ok (.iconst 0, 1) := by decide +kernel
theorem dX4_breathsHeard_4 : decode cX4_breathsHeard 4 = .ok (.istore_n 2, 1) := by decide +kernel
theorem dX4_breathsHeard_5 : decode cX4_breathsHeard 5 = .ok (.iload_n 2, 1) := by decide +kernel
theorem dX4_breathsHeard_6 : decode cX4_breathsHeard 6 = .ok (.aload_n 0, 1) := by decide +kernel
theorem dX4_breathsHeard_7 : decode cX4_breathsHeard 7 = .ok (.getfield 45, 3) := by decide +kernel
theorem dX4_breathsHeard_10 : decode cX4_breathsHeard 10 = .ok (.if_icmp .ge 18, 3) := by decide +kernel
theorem dX4_breathsHeard_13 : decode cX4_breathsHeard 13 = .ok (.iload_n 1, 1) := by decide +kernel
theorem dX4_breathsHeard_14 : decode cX4_breathsHeard 14 = .ok (.aload_n 0, 1) := by decide +kernel
theorem dX4_breathsHeard_15 : decode cX4_breathsHeard 15 = .ok (.getfield 29, 3) := by decide +kernel
theorem dX4_breathsHeard_18 : decode cX4_breathsHeard 18 = .ok (.iload_n 2, 1) := by decide +kernel
theorem dX4_breathsHeard_19 : decode cX4_breathsHeard 19 = .ok (.iaload, 1) := by decide +kernel
theorem dX4_breathsHeard_20 : decode cX4_breathsHeard 20 = .ok (.iand, 1) := by decide +kernel
theorem dX4_breathsHeard_21 : decode cX4_breathsHeard 21 = .ok (.istore_n 1, 1) := by decide +kernel
theorem dX4_breathsHeard_22 : decode cX4_breathsHeard 22 = .ok (.iinc 2 1, 3) := by decide +kernel
theorem dX4_breathsHeard_25 : decode cX4_breathsHeard 25 = .ok (.goto (-20), 3) := by decide +kernel
theorem dX4_breathsHeard_28 : decode cX4_breathsHeard 28 = .ok (.iload_n 1, 1) := by decide +kernel
theorem dX4_breathsHeard_29 : decode cX4_breathsHeard 29 = .ok (.ireturn, 1) := by decide +kernel
theorem dX4_lastIsEnded_0 : decode cX4_lastIsEnded 0 = .ok (.aload_n 0, 1) := by decide +kernel
theorem dX4_lastIsEnded_1 : decode cX4_lastIsEnded 1 = .ok (.getfield 42, 3) := by decide +kernel
theorem dX4_lastIsEnded_4 : decode cX4_lastIsEnded 4 = .ok (.ifCond .le 27, 3) := by decide +kernel
theorem dX4_lastIsEnded_7 : decode cX4_lastIsEnded 7 = .ok (.aload_n 0, 1) := by decide +kernel
theorem dX4_lastIsEnded_8 : decode cX4_lastIsEnded 8 = .ok (.getfield 25, 3) := by decide +kernel
theorem dX4_lastIsEnded_11 : decode cX4_lastIsEnded 11 = .ok (.getfield 71, 3) := by decide +kernel
theorem dX4_lastIsEnded_14 : decode cX4_lastIsEnded 14 = .ok (.aload_n 0, 1) := by decide +kernel
theorem dX4_lastIsEnded_15 : decode cX4_lastIsEnded 15 = .ok (.getfield 42, 3) := by decide +kernel
theorem dX4_lastIsEnded_18 : decode cX4_lastIsEnded 18 = .ok (.iconst 1, 1) := by decide +kernel
theorem dX4_lastIsEnded_19 : decode cX4_lastIsEnded 19 = .ok (.isub, 1) := by decide +kernel
theorem dX4_lastIsEnded_20 : decode cX4_lastIsEnded 20 = .ok (.iaload, 1) := by decide +kernel
theorem dX4_lastIsEnded_21 : decode cX4_lastIsEnded 21 = .ok (.invokestatic 93, 3) := by decide +kernel
theorem dX4_lastIsEnded_24 : decode cX4_lastIsEnded 24 = .ok (.ifCond .eq 7, 3) := by decide +kernel
theorem dX4_lastIsEnded_27 : decode cX4_lastIsEnded 27 = .ok (.iconst 1, 1) := by decide +kernel
theorem dX4_lastIsEnded_28 : decode cX4_lastIsEnded 28 = .ok (.goto 4, 3) := by decide +kernel
theorem dX4_lastIsEnded_31 : decode cX4_lastIsEnded 31 = .ok (.iconst 0, 1) := by decide +kernel
theorem dX4_lastIsEnded_32 : decode cX4_lastIsEnded 32 = .ok (.ireturn, 1) := by decide +kernel
theorem dX4_howManySentences_0 : decode cX4_howManySentences 0 = .ok (.iconst 0, 1) := by decide +kernel
theorem dX4_howManySentences_1 : decode cX4_howManySentences 1 = .ok (.istore_n 1, 1) := by decide +kernel
theorem dX4_howManySentences_2 : decode cX4_howManySentences 2 = .ok (.iconst 0, 1) := by decide +kernel
theorem dX4_howManySentences_3 : decode cX4_howManySentences 3 = .ok (.istore_n 2, 1) := by decide +kernel
theorem dX4_howManySentences_4 : decode cX4_howManySentences 4 = .ok (.iload_n 2, 1) := by decide +kernel
theorem dX4_howManySentences_5 : decode cX4_howManySentences 5 = .ok (.aload_n 0, 1) := by decide +kernel
theorem dX4_howManySentences_6 : decode cX4_howManySentences 6 = .ok (.getfield 42, 3) := by decide +kernel
theorem dX4_howManySentences_9 : decode cX4_howManySentences 9 = .ok (.if_icmp .ge 27, 3) := by decide +kernel
theorem dX4_howManySentences_12 : decode cX4_howManySentences 12 = .ok (.aload_n 0, 1) := by decide +kernel
theorem dX4_howManySentences_13 : decode cX4_howManySentences 13 = .ok (.getfield 25, 3) := by decide +kernel
theorem dX4_howManySentences_16 : decode cX4_howManySentences 16 = .ok (.getfield 71, 3) := by decide +kernel
theorem dX4_howManySentences_19 : decode cX4_howManySentences 19 = .ok (.iload_n 2, 1) := by decide +kernel
theorem dX4_howManySentences_20 : decode cX4_howManySentences 20 = .ok (.iaload, 1) := by decide +kernel
theorem dX4_howManySentences_21 : decode cX4_howManySentences 21 = .ok (.invokestatic 93, 3) := by decide +kernel
theorem dX4_howManySentences_24 : decode cX4_howManySentences 24 = .ok (.ifCond .eq 6, 3) := by decide +kernel
theorem dX4_howManySentences_27 : decode cX4_howManySentences 27 = .ok (.iinc 1 1, 3) := by decide +kernel
theorem dX4_howManySentences_30 : decode cX4_howManySentences 30 = .ok (.iinc 2 1, 3) := by decide +kernel
theorem dX4_howManySentences_33 : decode cX4_howManySentences 33 = .ok (.goto (-29), 3) := by decide +kernel
theorem dX4_howManySentences_36 : decode cX4_howManySentences 36 = .ok (.aload_n 0, 1) := by decide +kernel
theorem dX4_howManySentences_37 : decode cX4_howManySentences 37 = .ok (.getfield 42, 3) := by decide +kernel
theorem dX4_howManySentences_40 : decode cX4_howManySentences 40 = .ok (.ifCond .eq 10, 3) := by decide +kernel
theorem dX4_howManySentences_43 : decode cX4_howManySentences 43 = .ok (.aload_n 0, 1) := by decide +kernel
theorem dX4_howManySentences_44 : decode cX4_howManySentences 44 = .ok (.invokevirtual 97, 3) := by decide +kernel
theorem dX4_howManySentences_47 : decode cX4_howManySentences 47 = .ok (.ifCond .eq 7, 3) := by decide +kernel
theorem dX4_howManySentences_50 : decode cX4_howManySentences 50 = .ok (.iload_n 1, 1) := by decide +kernel
theorem dX4_howManySentences_51 : decode cX4_howManySentences 51 = .ok (.goto 6, 3) := by decide +kernel
theorem dX4_howManySentences_54 : decode cX4_howManySentences 54 = .ok (.iload_n 1, 1) := by decide +kernel
theorem dX4_howManySentences_55 : decode cX4_howManySentences 55 = .ok (.iconst 1, 1) := by decide +kernel
theorem dX4_howManySentences_56 : decode cX4_howManySentences 56 = .ok (.iadd, 1) := by decide +kernel
theorem dX4_howManySentences_57 : decode cX4_howManySentences 57 = .ok (.ireturn, 1) := by decide +kernel
theorem dX4_longestSentence_0 : decode cX4_longestSentence 0 = .ok (.iconst 0, 1) := by decide +kernel
theorem dX4_longestSentence_1 : decode cX4_longestSentence 1 = .ok (.istore_n 2, 1) := by decide +kernel
theorem dX4_longestSentence_2 : decode cX4_longestSentence 2 = .ok (.iconst (-1), 1) := by decide +kernel
theorem dX4_longestSentence_3 : decode cX4_longestSentence 3 = .ok (.istore_n 3, 1) := by decide +kernel
theorem dX4_longestSentence_4 : decode cX4_longestSentence 4 = .ok (.iconst 0, 1) := by decide +kernel
theorem dX4_longestSentence_5 : decode cX4_longestSentence 5 = .ok (.istore 4, 2) := by decide +kernel
theorem dX4_longestSentence_7 : decode cX4_longestSentence 7 = .ok (.iconst 0, 1) := by decide +kernel
theorem dX4_longestSentence_8 : decode cX4_longestSentence 8 = .ok (.istore 5, 2) := by decide +kernel
theorem dX4_longestSentence_10 : decode cX4_longestSentence 10 = .ok (.iconst 0, 1) := by decide +kernel
theorem dX4_longestSentence_11 : decode cX4_longestSentence 11 = .ok (.istore 6, 2) := by decide +kernel
theorem dX4_longestSentence_13 : decode cX4_longestSentence 13 = .ok (.iload 6, 2) := by decide +kernel
theorem dX4_longestSentence_15 : decode cX4_longestSentence 15 = .ok (.aload_n 0, 1) := by decide +kernel
theorem dX4_longestSentence_16 : decode cX4_longestSentence 16 = .ok (.getfield 42, 3) := by decide +kernel
theorem dX4_longestSentence_19 : decode cX4_longestSentence 19 = .ok (.if_icmp .ge 46, 3) := by decide +kernel
theorem dX4_longestSentence_22 : decode cX4_longestSentence 22 = .ok (.iinc 5 1, 3) := by decide +kernel
theorem dX4_longestSentence_25 : decode cX4_longestSentence 25 = .ok (.iload 5, 2) := by decide +kernel
theorem dX4_longestSentence_27 : decode cX4_longestSentence 27 = .ok (.iload_n 2, 1) := by decide +kernel
theorem dX4_longestSentence_28 : decode cX4_longestSentence 28 = .ok (.if_icmp .le 9, 3) := by decide +kernel
theorem dX4_longestSentence_31 : decode cX4_longestSentence 31 = .ok (.iload 5, 2) := by decide +kernel
theorem dX4_longestSentence_33 : decode cX4_longestSentence 33 = .ok (.istore_n 2, 1) := by decide +kernel
theorem dX4_longestSentence_34 : decode cX4_longestSentence 34 = .ok (.iload 4, 2) := by decide +kernel
theorem dX4_longestSentence_36 : decode cX4_longestSentence 36 = .ok (.istore_n 3, 1) := by decide +kernel
theorem dX4_longestSentence_37 : decode cX4_longestSentence 37 = .ok (.aload_n 0, 1) := by decide +kernel
theorem dX4_longestSentence_38 : decode cX4_longestSentence 38 = .ok (.getfield 25, 3) := by decide +kernel
theorem dX4_longestSentence_41 : decode cX4_longestSentence 41 = .ok (.getfield 71, 3) := by decide +kernel
theorem dX4_longestSentence_44 : decode cX4_longestSentence 44 = .ok (.iload 6, 2) := by decide +kernel
theorem dX4_longestSentence_46 : decode cX4_longestSentence 46 = .ok (.iaload, 1) := by decide +kernel
theorem dX4_longestSentence_47 : decode cX4_longestSentence 47 = .ok (.invokestatic 93, 3) := by decide +kernel
theorem dX4_longestSentence_50 : decode cX4_longestSentence 50 = .ok (.ifCond .eq 9, 3) := by decide +kernel
theorem dX4_longestSentence_53 : decode cX4_longestSentence 53 = .ok (.iinc 4 1, 3) := by decide +kernel
theorem dX4_longestSentence_56 : decode cX4_longestSentence 56 = .ok (.iconst 0, 1) := by decide +kernel
theorem dX4_longestSentence_57 : decode cX4_longestSentence 57 = .ok (.istore 5, 2) := by decide +kernel
theorem dX4_longestSentence_59 : decode cX4_longestSentence 59 = .ok (.iinc 6 1, 3) := by decide +kernel
theorem dX4_longestSentence_62 : decode cX4_longestSentence 62 = .ok (.goto (-49), 3) := by decide +kernel
theorem dX4_longestSentence_65 : decode cX4_longestSentence 65 = .ok (.iload_n 1, 1) := by decide +kernel
theorem dX4_longestSentence_66 : decode cX4_longestSentence 66 = .ok (.ifCond .eq 7, 3) := by decide +kernel
theorem dX4_longestSentence_69 : decode cX4_longestSentence 69 = .ok (.iload_n 3, 1) := by decide +kernel
theorem dX4_longestSentence_70 : decode cX4_longestSentence 70 = .ok (.goto 4, 3) := by decide +kernel
theorem dX4_longestSentence_73 : decode cX4_longestSentence 73 = .ok (.iload_n 2, 1) := by decide +kernel
theorem dX4_longestSentence_74 : decode cX4_longestSentence 74 = .ok (.ireturn, 1) := by decide +kernel
theorem dX5_init_0 : decode cX5_init 0 = .ok (.aload_n 0, 1) := by decide +kernel
theorem dX5_init_1 : decode cX5_init 1 = .ok (.invokespecial 3, 3) := by decide +kernel
theorem dX5_init_4 : decode cX5_init 4 = .ok (.aload_n 0, 1) := by decide +kernel
theorem dX5_init_5 : decode cX5_init 5 = .ok (.bipush 13, 2) := by decide +kernel
theorem dX5_init_7 : decode cX5_init 7 = .ok (.bipush 31, 2) := by decide +kernel
theorem dX5_init_9 : decode cX5_init 9 = .ok (.multianewarray 9 2, 4) := by decide +kernel
theorem dX5_init_13 : decode cX5_init 13 = .ok (.putfield 11, 3) := by decide +kernel
theorem dX5_init_16 : decode cX5_init 16 = .ok (.aload_n 0, 1) := by decide +kernel
theorem dX5_init_17 : decode cX5_init 17 = .ok (.bipush 13, 2) := by decide +kernel
theorem dX5_init_19 : decode cX5_init 19 = .ok (.bipush 31, 2) := by decide +kernel
theorem dX5_init_21 : decode cX5_init 21 = .ok (.multianewarray 9 2, 4) := by decide +kernel
theorem dX5_init_25 : decode cX5_init 25 = .ok (.putfield 16, 3) := by decide +kernel
theorem dX5_init_28 : decode cX5_init 28 = .ok (.aload_n 0, 1) := by decide +kernel
theorem dX5_init_29 : decode cX5_init 29 = .ok (.bipush 12, 2) := by decide +kernel
theorem dX5_init_31 : decode cX5_init 31 = .ok (.bipush 31, 2) := by decide +kernel
theorem dX5_init_33 : decode cX5_init 33 = .ok (.multianewarray 9 2, 4) := by decide +kernel
theorem dX5_init_37 : decode cX5_init 37 = .ok (.putfield 19, 3) := by decide +kernel
theorem dX5_init_40 : decode cX5_init 40 = .ok (.aload_n 0, 1) := by decide +kernel
theorem dX5_init_41 : decode cX5_init 41 = .ok (.bipush 31, 2) := by decide +kernel
theorem dX5_init_43 : decode cX5_init 43 = .ok (.newarray .int, 2) := by decide +kernel
theorem dX5_init_45 : decode cX5_init 45 = .ok (.putfield 22, 3) := by decide +kernel
theorem dX5_init_48 : decode cX5_init 48 = .ok (.aload_n 0, 1) := by decide +kernel
theorem dX5_init_49 : decode cX5_init 49 = .ok (.bipush 31, 2) := by decide +kernel
theorem dX5_init_51 : decode cX5_init 51 = .ok (.newarray .int, 2) := by decide +kernel
theorem dX5_init_53 : decode cX5_init 53 = .ok (.putfield 26, 3) := by decide +kernel
theorem dX5_init_56 : decode cX5_init 56 = .ok (.return_, 1) := by decide +kernel
theorem dX5_make_0 : decode cX5_make 0 = .ok (.aload_n 1, 1) := by decide +kernel
theorem dX5_make_1 : decode cX5_make 1 = .ok (.getfield 29, 3) := by decide +kernel
theorem dX5_make_4 : decode cX5_make 4 = .ok (.istore 4, 2) := by decide +kernel
theorem dX5_make_6 : decode cX5_make 6 = .ok (.aload_n 0, 1) := by decide +kernel
theorem dX5_make_7 : decode cX5_make 7 = .ok (.getfield 11, 3) := by decide +kernel
theorem dX5_make_10 : decode cX5_make 10 = .ok (.iload 4, 2) := by decide +kernel
theorem dX5_make_12 : decode cX5_make 12 = .ok (.aaload, 1) := by decide +kernel
theorem dX5_make_13 : decode cX5_make 13 = .ok (.iconst 0, 1) := by decide +kernel
theorem dX5_make_14 : decode cX5_make 14 = .ok (.invokestatic 35, 3) := by decide +kernel
theorem dX5_make_17 : decode cX5_make 17 = .ok (.aload_n 0, 1) := by decide +kernel
theorem dX5_make_18 : decode cX5_make 18 = .ok (.getfield 16, 3) := by decide +kernel
theorem dX5_make_21 : decode cX5_make 21 = .ok (.iload 4, 2) := by decide +kernel
theorem dX5_make_23 : decode cX5_make 23 = .ok (.aaload, 1) := by decide +kernel
theorem dX5_make_24 : decode cX5_make 24 = .ok (.iconst 0, 1) := by decide +kernel
theorem dX5_make_25 : decode cX5_make 25 = .ok (.invokestatic 35, 3) := by decide +kernel
theorem dX5_make_28 : decode cX5_make 28 = .ok (.iload 4, 2) := by decide +kernel
theorem dX5_make_30 : decode cX5_make 30 = .ok (.iconst 1, 1) := by decide +kernel
theorem dX5_make_31 : decode cX5_make 31 = .ok (.isub, 1) := by decide +kernel
theorem dX5_make_32 : decode cX5_make 32 = .ok (.istore 5, 2) := by decide +kernel
theorem dX5_make_34 : decode cX5_make 34 = .ok (.iload 5, 2) := by decide +kernel
theorem dX5_make_36 : decode cX5_make 36 = .ok (.ifCond .lt 85, 3) := by decide +kernel
theorem dX5_make_39 : decode cX5_make 39 = .ok (.iload_n 3, 1) := by decide +kernel
theorem dX5_make_40 : decode cX5_make 40 = .ok (.ifCond .eq 16, 3) := by decide +kernel
theorem dX5_make_43 : decode cX5_make 43 = .ok (.iload 5, 2) := by decide +kernel
theorem dX5_make_45 : decode cX5_make 45 = .ok (.iload 4, 2) := by decide +kernel
theorem dX5_make_47 : decode cX5_make 47 = .ok (.iconst 1, 1) := by decide +kernel
theorem dX5_make_48 : decode cX5_make 48 = .ok (.isub, 1) := by decide +kernel
theorem dX5_make_49 : decode cX5_make 49 = .ok (.if_icmp .ne 7, 3) := by decide +kernel
theorem dX5_make_52 : decode cX5_make 52 = .ok (.iconst 1, 1) := by decide +kernel
theorem dX5_make_53 : decode cX5_make 53 = .ok (.goto 4, 3) := by decide +kernel
theorem dX5_make_56 : decode cX5_make 56 = .ok (.iconst 0, 1) := by decide +kernel
theorem dX5_make_57 : decode cX5_make 57 = .ok (.istore 6, 2) := by decide +kernel
theorem dX5_make_59 : decode cX5_make 59 = .ok (.aload_n 0, 1) := by decide +kernel
theorem dX5_make_60 : decode cX5_make 60 = .ok (.getfield 11, 3) := by decide +kernel
theorem dX5_make_63 : decode cX5_make 63 = .ok (.iload 5, 2) := by decide +kernel
theorem dX5_make_65 : decode cX5_make 65 = .ok (.aaload, 1) := by decide +kernel
theorem dX5_make_66 : decode cX5_make 66 = .ok (.ldc 41, 2) := by decide +kernel
theorem dX5_make_68 : decode cX5_make 68 = .ok (.invokestatic 35, 3) := by decide +kernel
theorem dX5_make_71 : decode cX5_make 71 = .ok (.aload_n 0, 1) := by decide +kernel
theorem dX5_make_72 : decode cX5_make 72 = .ok (.getfield 19, 3) := by decide +kernel
theorem dX5_make_75 : decode cX5_make 75 = .ok (.iload 5, 2) := by decide +kernel
theorem dX5_make_77 : decode cX5_make 77 = .ok (.aaload, 1) := by decide +kernel
theorem dX5_make_78 : decode cX5_make 78 = .ok (.iconst (-1), 1) := by decide +kernel
theorem dX5_make_79 : decode cX5_make 79 = .ok (.invokestatic 35, 3) := by decide +kernel
theorem dX5_make_82 : decode cX5_make 82 = .ok (.aload_n 1, 1) := by decide +kernel
theorem dX5_make_83 : decode cX5_make 83 = .ok (.getfield 42, 3) := by decide +kernel
theorem dX5_make_86 : decode cX5_make 86 = .ok (.iload 5, 2) := by decide +kernel
theorem dX5_make_88 : decode cX5_make 88 = .ok (.iaload, 1) := by decide +kernel
theorem dX5_make_89 : decode cX5_make 89 = .ok (.istore 7, 2) := by decide +kernel
theorem dX5_make_91 : decode cX5_make 91 = .ok (.iload 7, 2) := by decide +kernel
theorem dX5_make_93 : decode cX5_make 93 = .ok (.iload_n 2, 1) := by decide +kernel
theorem dX5_make_94 : decode cX5_make 94 = .ok (.if_icmp .gt 21, 3) := by decide +kernel
theorem dX5_make_97 : decode cX5_make 97 = .ok (.aload_n 0, 1) := by decide +kernel
theorem dX5_make_98 : decode cX5_make 98 = .ok (.aload_n 1, 1) := by decide +kernel
theorem dX5_make_99 : decode cX5_make 99 = .ok (.iload 5, 2) := by decide +kernel
theorem dX5_make_101 : decode cX5_make 101 = .ok (.iload 7, 2) := by decide +kernel
theorem dX5_make_103 : decode cX5_make 103 = .ok (.iload_n 2, 1) := by decide +kernel
theorem dX5_make_104 : decode cX5_make 104 = .ok (.iload 6, 2) := by decide +kernel
theorem dX5_make_106 : decode cX5_make 106 = .ok (.invokevirtual 45, 3) := by decide +kernel
theorem dX5_make_109 : decode cX5_make 109 = .ok (.iinc 7 1, 3) := by decide +kernel
theorem dX5_make_112 : decode cX5_make 112 = .ok (.goto (-21), 3) := by decide +kernel
theorem dX5_make_115 : decode cX5_make 115 = .ok (.iinc 5 (-1), 3) := by decide +kernel
theorem dX5_make_118 : decode cX5_make 118 = .ok (.goto (-84), 3) := by decide +kernel
theorem dX5_make_121 : decode cX5_make 121 = .ok (.return_, 1) := by decide +kernel
theorem dX5_choose_0 : decode cX5_choose 0 = .ok (.aload_n 1, 1) := by decide +kernel
theorem dX5_choose_1 : decode cX5_choose 1 = .ok (.getfield 49, 3) := by decide +kernel
theorem dX5_choose_4 : decode cX5_choose 4 = .ok (.getfield 53, 3) := by decide +kernel
theorem dX5_choose_7 : decode cX5_choose 7 = .ok (.iload_n 2, 1) := by decide +kernel
theorem dX5_choose_8 : decode cX5_choose 8 = .ok (.iaload, 1) := by decide +kernel
theorem dX5_choose_9 : decode cX5_choose 9 = .ok (.istore 6, 2) := by decide +kernel
theorem dX5_choose_11 : decode cX5_choose 11 = .ok (.iload 6, 2) := by decide +kernel
theorem dX5_choose_13 : decode cX5_choose 13 = .ok (.iconst (-1), 1) := by decide +kernel
theorem dX5_choose_14 : decode cX5_choose 14 = .ok (.if_icmp .ne 7, 3) := by decide +kernel
theorem dX5_choose_17 : decode cX5_choose 17 = .ok (.iconst 5, 1) := by decide +kernel
theorem dX5_choose_18 : decode cX5_choose 18 = .ok (.goto 4, 3) := by decide +kernel
theorem dX5_choose_21 : decode cX5_choose 21 = .ok (.iconst (-1), 1) := by decide +kernel
theorem dX5_choose_22 : decode cX5_choose 22 = .ok (.istore 7, 2) := by decide +kernel
theorem dX5_choose_24 : decode cX5_choose 24 = .ok (.iconst (-1), 1) := by decide +kernel
theorem dX5_choose_25 : decode cX5_choose 25 = .ok (.istore 8, 2) := by decide +kernel
theorem dX5_choose_27 : decode cX5_choose 27 = .ok (.iload 8, 2) := by decide +kernel
theorem dX5_choose_29 : decode cX5_choose 29 = .ok (.iload 7, 2) := by decide +kernel
theorem dX5_choose_31 : decode cX5_choose 31 = .ok (.if_icmp .gt 187, 3) := by decide +kernel
theorem dX5_choose_34 : decode cX5_choose 34 = .ok (.iload 8, 2) := by decide +kernel
theorem dX5_choose_36 : decode cX5_choose 36 = .ok (.iconst (-1), 1) := by decide +kernel
theorem dX5_choose_37 : decode cX5_choose 37 = .ok (.if_icmp .ne 8, 3) := by decide +kernel
theorem dX5_choose_40 : decode cX5_choose 40 = .ok (.iload 6, 2) := by decide +kernel
theorem dX5_choose_42 : decode cX5_choose 42 = .ok (.goto 5, 3) := by decide +kernel
theorem dX5_choose_45 : decode cX5_choose 45 = .ok (.iload 8, 2) := by decide +kernel
theorem dX5_choose_47 : decode cX5_choose 47 = .ok (.istore 9, 2) := by decide +kernel
theorem dX5_choose_49 : decode cX5_choose 49 = .ok (.iload 9, 2) := by decide +kernel
theorem dX5_choose_51 : decode cX5_choose 51 = .ok (.iload_n 3, 1) := by decide +kernel
theorem dX5_choose_52 : decode cX5_choose 52 = .ok (.aload_n 1, 1) := by decide +kernel
theorem dX5_choose_53 : decode cX5_choose 53 = .ok (.getfield 42, 3) := by decide +kernel
theorem dX5_choose_56 : decode cX5_choose 56 = .ok (.iload_n 2, 1) := by decide +kernel
theorem dX5_choose_57 : decode cX5_choose 57 = .ok (.iaload, 1) := by decide +kernel
theorem dX5_choose_58 : decode cX5_choose 58 = .ok (.isub, 1) := by decide +kernel
theorem dX5_choose_59 : decode cX5_choose 59 = .ok (.iload 4, 2) := by decide +kernel
theorem dX5_choose_61 : decode cX5_choose 61 = .ok (.invokestatic 60, 3) := by decide +kernel
theorem dX5_choose_64 : decode cX5_choose 64 = .ok (.istore 10, 2) := by decide +kernel
theorem dX5_choose_66 : decode cX5_choose 66 = .ok (.aload_n 0, 1) := by decide +kernel
theorem dX5_choose_67 : decode cX5_choose 67 = .ok (.getfield 11, 3) := by decide +kernel
theorem dX5_choose_70 : decode cX5_choose 70 = .ok (.iload_n 2, 1) := by decide +kernel
theorem dX5_choose_71 : decode cX5_choose 71 = .ok (.iconst 1, 1) := by decide +kernel
theorem dX5_choose_72 : decode cX5_choose 72 = .ok (.iadd, 1) := by decide +kernel
theorem dX5_choose_73 : decode cX5_choose 73 = .ok (.aaload, 1) := by decide +kernel
theorem dX5_choose_74 : decode cX5_choose 74 = .ok (.iload 10, 2) := by decide +kernel
theorem dX5_choose_76 : decode cX5_choose 76 = .ok (.iaload, 1) := by decide +kernel
theorem dX5_choose_77 : decode cX5_choose 77 = .ok (.aload_n 1, 1) := by decide +kernel
theorem dX5_choose_78 : decode cX5_choose 78 = .ok (.iload 8, 2) := by decide +kernel
theorem dX5_choose_80 : decode cX5_choose 80 = .ok (.invokevirtual 64, 3) := by decide +kernel
theorem dX5_choose_83 : decode cX5_choose 83 = .ok (.iadd, 1) := by decide +kernel
theorem dX5_choose_84 : decode cX5_choose 84 = .ok (.istore 11, 2) := by decide +kernel
theorem dX5_choose_86 : decode cX5_choose 86 = .ok (.aload_n 0, 1) := by decide +kernel
theorem dX5_choose_87 : decode cX5_choose 87 = .ok (.getfield 16, 3) := by decide +kernel
theorem dX5_choose_90 : decode cX5_choose 90 = .ok (.iload_n 2, 1) := by decide +kernel
theorem dX5_choose_91 : decode cX5_choose 91 = .ok (.iconst 1, 1) := by decide +kernel
theorem dX5_choose_92 : decode cX5_choose 92 = .ok (.iadd, 1) := by decide +kernel
theorem dX5_choose_93 : decode cX5_choose 93 = .ok (.aaload, 1) := by decide +kernel
theorem dX5_choose_94 : decode cX5_choose 94 = .ok (.iload 10, 2) := by decide +kernel
theorem dX5_choose_96 : decode cX5_choose 96 = .ok (.iaload, 1) := by decide +kernel
theorem dX5_choose_97 : decode cX5_choose 97 = .ok (.iload 8, 2) := by decide +kernel
theorem dX5_choose_99 : decode cX5_choose 99 = .ok (.iconst (-1), 1) := by decide +kernel
theorem dX5_choose_100 : decode cX5_choose 100 = .ok (.if_icmp .ne 7, 3) := by decide +kernel
theorem dX5_choose_103 : decode cX5_choose 103 = .ok (.iconst 0, 1) := by decide +kernel
theorem dX5_choose_104 : decode cX5_choose 104 = .ok (.goto 4, 3) := by decide +kernel
theorem dX5_choose_107 : decode cX5_choose 107 = .ok (.iconst 1, 1) := by decide +kernel
theorem dX5_choose_108 : decode cX5_choose 108 = .ok (.iadd, 1) := by decide +kernel
theorem dX5_choose_109 : decode cX5_choose 109 = .ok (.istore 12, 2) := by decide +kernel
theorem dX5_choose_111 : decode cX5_choose 111 = .ok (.iload 11, 2) := by decide +kernel
theorem dX5_choose_113 : decode cX5_choose 113 = .ok (.aload_n 0, 1) := by decide +kernel
theorem dX5_choose_114 : decode cX5_choose 114 = .ok (.getfield 11, 3) := by decide +kernel
theorem dX5_choose_117 : decode cX5_choose 117 = .ok (.iload_n 2, 1) := by decide +kernel
theorem dX5_choose_118 : decode cX5_choose 118 = .ok (.aaload, 1) := by decide +kernel
theorem dX5_choose_119 : decode cX5_choose 119 = .ok (.iload_n 3, 1) := by decide +kernel
theorem dX5_choose_120 : decode cX5_choose 120 = .ok (.iaload, 1) := by decide +kernel
theorem dX5_choose_121 : decode cX5_choose 121 = .ok (.if_icmp .lt 29, 3) := by decide +kernel
theorem dX5_choose_124 : decode cX5_choose 124 = .ok (.iload 11, 2) := by decide +kernel
theorem dX5_choose_126 : decode cX5_choose 126 = .ok (.aload_n 0, 1) := by decide +kernel
theorem dX5_choose_127 : decode cX5_choose 127 = .ok (.getfield 11, 3) := by decide +kernel
theorem dX5_choose_130 : decode cX5_choose 130 = .ok (.iload_n 2, 1) := by decide +kernel
theorem dX5_choose_131 : decode cX5_choose 131 = .ok (.aaload, 1) := by decide +kernel
theorem dX5_choose_132 : decode cX5_choose 132 = .ok (.iload_n 3, 1) := by decide +kernel
theorem dX5_choose_133 : decode cX5_choose 133 = .ok (.iaload, 1) := by decide +kernel
theorem dX5_choose_134 : decode cX5_choose 134 = .ok (.if_icmp .ne 20, 3) := by decide +kernel
theorem dX5_choose_137 : decode cX5_choose 137 = .ok (.iload 12, 2) := by decide +kernel
theorem dX5_choose_139 : decode cX5_choose 139 = .ok (.aload_n 0, 1) := by decide +kernel
theorem dX5_choose_140 : decode cX5_choose 140 = .ok (.getfield 16, 3) := by decide +kernel
theorem dX5_choose_143 : decode cX5_choose 143 = .ok (.iload_n 2, 1) := by decide +kernel
theorem dX5_choose_144 : decode cX5_choose 144 = .ok (.aaload, 1) := by decide +kernel
theorem dX5_choose_145 : decode cX5_choose 145 = .ok (.iload_n 3, 1) := by decide +kernel
theorem dX5_choose_146 : decode cX5_choose 146 = .ok (.iaload, 1) := by decide +kernel
theorem dX5_choose_147 : decode cX5_choose 147 = .ok (.if_icmp .ge 7, 3) := by decide +kernel
theorem dX5_choose_150 : decode cX5_choose 150 = .ok (.iconst 1, 1) := by decide +kernel
theorem dX5_choose_151 : decode cX5_choose 151 = .ok (.goto 4, 3) := by decide +kernel
theorem dX5_choose_154 : decode cX5_choose 154 = .ok (.iconst 0, 1) := by decide +kernel
theorem dX5_choose_155 : decode cX5_choose 155 = .ok (.istore 13, 2) := by decide +kernel
theorem dX5_choose_157 : decode cX5_choose 157 = .ok (.iload 11, 2) := by decide +kernel
theorem dX5_choose_159 : decode cX5_choose 159 = .ok (.ldc 41, 2) := by decide +kernel
theorem dX5_choose_161 : decode cX5_choose 161 = .ok (.if_icmp .ge 51, 3) := by decide +kernel
theorem dX5_choose_164 : decode cX5_choose 164 = .ok (.iload 13, 2) := by decide +kernel
theorem dX5_choose_166 : decode cX5_choose 166 = .ok (.ifCond .eq 46, 3) := by decide +kernel
theorem dX5_choose_169 : decode cX5_choose 169 = .ok (.iload 5, 2) := by decide +kernel
theorem dX5_choose_171 : decode cX5_choose 171 = .ok (.ifCond .eq 11, 3) := by decide +kernel
theorem dX5_choose_174 : decode cX5_choose 174 = .ok (.iload 9, 2) := by decide +kernel
theorem dX5_choose_176 : decode cX5_choose 176 = .ok (.invokestatic 68, 3) := by decide +kernel
theorem dX5_choose_179 : decode cX5_choose 179 = .ok (.ifCond .eq 33, 3) := by decide +kernel
theorem dX5_choose_182 : decode cX5_choose 182 = .ok (.aload_n 0, 1) := by decide +kernel
theorem dX5_choose_183 : decode cX5_choose 183 = .ok (.getfield 11, 3) := by decide +kernel
theorem dX5_choose_186 : decode cX5_choose 186 = .ok (.iload_n 2, 1) := by decide +kernel
theorem dX5_choose_187 : decode cX5_choose 187 = .ok (.aaload, 1) := by decide +kernel
theorem dX5_choose_188 : decode cX5_choose 188 = .ok (.iload_n 3, 1) := by decide +kernel
theorem dX5_choose_189 : decode cX5_choose 189 = .ok (.iload 11, 2) := by decide +kernel
theorem dX5_choose_191 : decode cX5_choose 191 = .ok (.iastore, 1) := by decide +kernel
theorem dX5_choose_192 : decode cX5_choose 192 = .ok (.aload_n 0, 1) := by decide +kernel
theorem dX5_choose_193 : decode cX5_choose 193 = .ok (.getfield 16, 3) := by decide +kernel
theorem dX5_choose_196 : decode cX5_choose 196 = .ok (.iload_n 2, 1) := by decide +kernel
theorem dX5_choose_197 : decode cX5_choose 197 = .ok (.aaload, 1) := by decide +kernel
theorem dX5_choose_198 : decode cX5_choose 198 = .ok (.iload_n 3, 1) := by decide +kernel
theorem dX5_choose_199 : decode cX5_choose 199 = .ok (.iload 12, 2) := by decide +kernel
theorem dX5_choose_201 : decode cX5_choose 201 = .ok (.iastore, 1) := by decide +kernel
theorem dX5_choose_202 : decode cX5_choose 202 = .ok (.aload_n 0, 1) := by decide +kernel
theorem dX5_choose_203 : decode cX5_choose 203 = .ok (.getfield 19, 3) := by decide +kernel
theorem dX5_choose_206 : decode cX5_choose 206 = .ok (.iload_n 2, 1) := by decide +kernel
theorem dX5_choose_207 : decode cX5_choose 207 = .ok (.aaload, 1) := by decide +kernel
theorem dX5_choose_208 : decode cX5_choose 208 = .ok (.iload_n 3, 1) := by decide +kernel
theorem dX5_choose_209 : decode cX5_choose 209 = .ok (.iload 8, 2) := by decide +kernel
theorem dX5_choose_211 : decode cX5_choose 211 = .ok (.iastore, 1) := by decide +kernel
theorem dX5_choose_212 : decode cX5_choose 212 = .ok (.iinc 8 1, 3) := by decide +kernel
theorem dX5_choose_215 : decode cX5_choose 215 = .ok (.goto (-188), 3) := by decide +kernel
theorem dX5_choose_218 : decode cX5_choose 218 = .ok (.return_, 1) := by decide +kernel
theorem dX5_isThere_0 : decode cX5_isThere 0 = .ok (.aload_n 0, 1) := by decide +kernel
theorem dX5_isThere_1 : decode cX5_isThere 1 = .ok (.getfield 11, 3) := by decide +kernel
theorem dX5_isThere_4 : decode cX5_isThere 4 = .ok (.iconst 0, 1) := by decide +kernel
theorem dX5_isThere_5 : decode cX5_isThere 5 = .ok (.aaload, 1) := by decide +kernel
theorem dX5_isThere_6 : decode cX5_isThere 6 = .ok (.iload_n 1, 1) := by decide +kernel
theorem dX5_isThere_7 : decode cX5_isThere 7 = .ok (.iaload, 1) := by decide +kernel
theorem dX5_isThere_8 : decode cX5_isThere 8 = .ok (.ldc 41, 2) := by decide +kernel
theorem dX5_isThere_10 : decode cX5_isThere 10 = .ok (.if_icmp .ge 7, 3) := by decide +kernel
theorem dX5_isThere_13 : decode cX5_isThere 13 = .ok (.iconst 1, 1) := by decide +kernel
theorem dX5_isThere_14 : decode cX5_isThere 14 = .ok (.goto 4, 3) := by decide +kernel
theorem dX5_isThere_17 : decode cX5_isThere 17 = .ok (.iconst 0, 1) := by decide +kernel
theorem dX5_isThere_18 : decode cX5_isThere 18 = .ok (.ireturn, 1) := by decide +kernel
theorem dX5_cost_0 : decode cX5_cost 0 = .ok (.aload_n 0, 1) := by decide +kernel
theorem dX5_cost_1 : decode cX5_cost 1 = .ok (.getfield 11, 3) := by decide +kernel
theorem dX5_cost_4 : decode cX5_cost 4 = .ok (.iconst 0, 1) := by decide +kernel
theorem dX5_cost_5 : decode cX5_cost 5 = .ok (.aaload, 1) := by decide +kernel
theorem dX5_cost_6 : decode cX5_cost 6 = .ok (.iload_n 1, 1) := by decide +kernel
theorem dX5_cost_7 : decode cX5_cost 7 = .ok (.iaload, 1) := by decide +kernel
theorem dX5_cost_8 : decode cX5_cost 8 = .ok (.ireturn, 1) := by decide +kernel
theorem dX5_kindBehind_0 : decode cX5_kindBehind 0 = .ok (.iload_n 2, 1) := by decide +kernel
theorem dX5_kindBehind_1 : decode cX5_kindBehind 1 = .ok (.istore 4, 2) := by decide +kernel
theorem dX5_kindBehind_3 : decode cX5_kindBehind 3 = .ok (.iconst 0, 1) := by decide +kernel
theorem dX5_kindBehind_4 : decode cX5_kindBehind 4 = .ok (.istore 5, 2) := by decide +kernel
theorem dX5_kindBehind_6 : decode cX5_kindBehind 6 = .ok (.iload 5, 2) := by decide +kernel
theorem dX5_kindBehind_8 : decode cX5_kindBehind 8 = .ok (.iload_n 3, 1) := by decide +kernel
theorem dX5_kindBehind_9 : decode cX5_kindBehind 9 = .ok (.if_icmp .ge 62, 3) := by decide +kernel
theorem dX5_kindBehind_12 : decode cX5_kindBehind 12 = .ok (.aload_n 1, 1) := by decide +kernel
theorem dX5_kindBehind_13 : decode cX5_kindBehind 13 = .ok (.getfield 49, 3) := by decide +kernel
theorem dX5_kindBehind_16 : decode cX5_kindBehind 16 = .ok (.getfield 53, 3) := by decide +kernel
theorem dX5_kindBehind_19 : decode cX5_kindBehind 19 = .ok (.iload 5, 2) := by decide +kernel
theorem dX5_kindBehind_21 : decode cX5_kindBehind 21 = .ok (.iaload, 1) := by decide +kernel
theorem dX5_kindBehind_22 : decode cX5_kindBehind 22 = .ok (.istore 6, 2) := by decide +kernel
theorem dX5_kindBehind_24 : decode cX5_kindBehind 24 = .ok (.iload 6, 2) := by decide +kernel
theorem dX5_kindBehind_26 : decode cX5_kindBehind 26 = .ok (.iconst (-1), 1) := by decide +kernel
theorem dX5_kindBehind_27 : decode cX5_kindBehind 27 = .ok (.if_icmp .ne 16, 3) := by decide +kernel
theorem dX5_kindBehind_30 : decode cX5_kindBehind 30 = .ok (.aload_n 0, 1) := by decide +kernel
theorem dX5_kindBehind_31 : decode cX5_kindBehind 31 = .ok (.getfield 19, 3) := by decide +kernel
theorem dX5_kindBehind_34 : decode cX5_kindBehind 34 = .ok (.iload 5, 2) := by decide +kernel
theorem dX5_kindBehind_36 : decode cX5_kindBehind 36 = .ok (.aaload, 1) := by decide +kernel
theorem dX5_kindBehind_37 : decode cX5_kindBehind 37 = .ok (.iload 4, 2) := by decide +kernel
theorem dX5_kindBehind_39 : decode cX5_kindBehind 39 = .ok (.iaload, 1) := by decide +kernel
theorem dX5_kindBehind_40 : decode cX5_kindBehind 40 = .ok (.goto 5, 3) := by decide +kernel
theorem dX5_kindBehind_43 : decode cX5_kindBehind 43 = .ok (.iload 6, 2) := by decide +kernel
theorem dX5_kindBehind_45 : decode cX5_kindBehind 45 = .ok (.istore 7, 2) := by decide +kernel
theorem dX5_kindBehind_47 : decode cX5_kindBehind 47 = .ok (.iload 7, 2) := by decide +kernel
theorem dX5_kindBehind_49 : decode cX5_kindBehind 49 = .ok (.iload 4, 2) := by decide +kernel
theorem dX5_kindBehind_51 : decode cX5_kindBehind 51 = .ok (.aload_n 1, 1) := by decide +kernel
theorem dX5_kindBehind_52 : decode cX5_kindBehind 52 = .ok (.getfield 42, 3) := by decide +kernel
theorem dX5_kindBehind_55 : decode cX5_kindBehind 55 = .ok (.iload 5, 2) := by decide +kernel
theorem dX5_kindBehind_57 : decode cX5_kindBehind 57 = .ok (.iaload, 1) := by decide +kernel
theorem dX5_kindBehind_58 : decode cX5_kindBehind 58 = .ok (.isub, 1) := by decide +kernel
theorem dX5_kindBehind_59 : decode cX5_kindBehind 59 = .ok (.iload_n 2, 1) := by decide +kernel
theorem dX5_kindBehind_60 : decode cX5_kindBehind 60 = .ok (.invokestatic 60, 3) := by decide +kernel
theorem dX5_kindBehind_63 : decode cX5_kindBehind 63 = .ok (.istore 4, 2) := by decide +kernel
theorem dX5_kindBehind_65 : decode cX5_kindBehind 65 = .ok (.iinc 5 1, 3) := by decide +kernel
theorem dX5_kindBehind_68 : decode cX5_kindBehind 68 = .ok (.goto (-62), 3) := by decide +kernel
theorem dX5_kindBehind_71 : decode cX5_kindBehind 71 = .ok (.aload_n 0, 1) := by decide +kernel
theorem dX5_kindBehind_72 : decode cX5_kindBehind 72 = .ok (.getfield 19, 3) := by decide +kernel
theorem dX5_kindBehind_75 : decode cX5_kindBehind 75 = .ok (.iload_n 3, 1) := by decide +kernel
theorem dX5_kindBehind_76 : decode cX5_kindBehind 76 = .ok (.aaload, 1) := by decide +kernel
theorem dX5_kindBehind_77 : decode cX5_kindBehind 77 = .ok (.iload 4, 2) := by decide +kernel
theorem dX5_kindBehind_79 : decode cX5_kindBehind 79 = .ok (.iaload, 1) := by decide +kernel
theorem dX5_kindBehind_80 : decode cX5_kindBehind 80 = .ok (.ireturn, 1) := by decide +kernel
theorem dX5_reachFor_0 : decode cX5_reachFor 0 = .ok (.aload_n 0, 1) := by decide +kernel
theorem dX5_reachFor_1 : decode cX5_reachFor 1 = .ok (.getfield 22, 3) := by decide +kernel
theorem dX5_reachFor_4 : decode cX5_reachFor 4 = .ok (.ldc 41, 2) := by decide +kernel
theorem dX5_reachFor_6 : decode cX5_reachFor 6 = .ok (.invokestatic 35, 3) := by decide +kernel
theorem dX5_reachFor_9 : decode cX5_reachFor 9 = .ok (.aload_n 0, 1) := by decide +kernel
theorem dX5_reachFor_10 : decode cX5_reachFor 10 = .ok (.getfield 22, 3) := by decide +kernel
theorem dX5_reachFor_13 : decode cX5_reachFor 13 = .ok (.aload_n 1, 1) := by decide +kernel
theorem dX5_reachFor_14 : decode cX5_reachFor 14 = .ok (.getfield 72, 3) := by decide +kernel
theorem dX5_reachFor_17 : decode cX5_reachFor 17 = .ok (.iconst 0, 1) := by decide +kernel
theorem dX5_reachFor_18 : decode cX5_reachFor 18 = .ok (.iastore, 1) := by decide +kernel
theorem dX5_reachFor_19 : decode cX5_reachFor 19 = .ok (.iconst 0, 1) := by decide +kernel
theorem dX5_reachFor_20 : decode cX5_reachFor 20 = .ok (.istore_n 3, 1) := by decide +kernel
theorem dX5_reachFor_21 : decode cX5_reachFor 21 = .ok (.iload_n 3, 1) := by decide +kernel
theorem dX5_reachFor_22 : decode cX5_reachFor 22 = .ok (.aload_n 1, 1) := by decide +kernel
theorem dX5_reachFor_23 : decode cX5_reachFor 23 = .ok (.getfield 29, 3) := by decide +kernel
theorem dX5_reachFor_26 : decode cX5_reachFor 26 = .ok (.if_icmp .ge 91, 3) := by decide +kernel
theorem dX5_reachFor_29 : decode cX5_reachFor 29 = .ok (.aload_n 0, 1) := by decide +kernel
theorem dX5_reachFor_30 : decode cX5_reachFor 30 = .ok (.getfield 26, 3) := by decide +kernel
theorem dX5_reachFor_33 : decode cX5_reachFor 33 = .ok (.ldc 41, 2) := by decide +kernel
theorem dX5_reachFor_35 : decode cX5_reachFor 35 = .ok (.invokestatic 35, 3) := by decide +kernel
theorem dX5_reachFor_38 : decode cX5_reachFor 38 = .ok (.iconst 0, 1) := by decide +kernel
theorem dX5_reachFor_39 : decode cX5_reachFor 39 = .ok (.istore 4, 2) := by decide +kernel
theorem dX5_reachFor_41 : decode cX5_reachFor 41 = .ok (.aload_n 1, 1) := by decide +kernel
theorem dX5_reachFor_42 : decode cX5_reachFor 42 = .ok (.getfield 42, 3) := by decide +kernel
theorem dX5_reachFor_45 : decode cX5_reachFor 45 = .ok (.iload_n 3, 1) := by decide +kernel
theorem dX5_reachFor_46 : decode cX5_reachFor 46 = .ok (.iaload, 1) := by decide +kernel
theorem dX5_reachFor_47 : decode cX5_reachFor 47 = .ok (.istore 5, 2) := by decide +kernel
theorem dX5_reachFor_49 : decode cX5_reachFor 49 = .ok (.iload 5, 2) := by decide +kernel
theorem dX5_reachFor_51 : decode cX5_reachFor 51 = .ok (.aload_n 1, 1) := by decide +kernel
theorem dX5_reachFor_52 : decode cX5_reachFor 52 = .ok (.getfield 72, 3) := by decide +kernel
theorem dX5_reachFor_55 : decode cX5_reachFor 55 = .ok (.if_icmp .gt 31, 3) := by decide +kernel
theorem dX5_reachFor_58 : decode cX5_reachFor 58 = .ok (.aload_n 0, 1) := by decide +kernel
theorem dX5_reachFor_59 : decode cX5_reachFor 59 = .ok (.getfield 22, 3) := by decide +kernel
theorem dX5_reachFor_62 : decode cX5_reachFor 62 = .ok (.iload 5, 2) := by decide +kernel
theorem dX5_reachFor_64 : decode cX5_reachFor 64 = .ok (.iaload, 1) := by decide +kernel
theorem dX5_reachFor_65 : decode cX5_reachFor 65 = .ok (.iload_n 2, 1) := by decide +kernel
theorem dX5_reachFor_66 : decode cX5_reachFor 66 = .ok (.if_icmp .gt 14, 3) := by decide +kernel
theorem dX5_reachFor_69 : decode cX5_reachFor 69 = .ok (.iconst 1, 1) := by decide +kernel
theorem dX5_reachFor_70 : decode cX5_reachFor 70 = .ok (.istore 4, 2) := by decide +kernel
theorem dX5_reachFor_72 : decode cX5_reachFor 72 = .ok (.aload_n 0, 1) := by decide +kernel
theorem dX5_reachFor_73 : decode cX5_reachFor 73 = .ok (.aload_n 1, 1) := by decide +kernel
theorem dX5_reachFor_74 : decode cX5_reachFor 74 = .ok (.iload_n 3, 1) := by decide +kernel
theorem dX5_reachFor_75 : decode cX5_reachFor 75 = .ok (.iload 5, 2) := by decide +kernel
theorem dX5_reachFor_77 : decode cX5_reachFor 77 = .ok (.invokevirtual 75, 3) := by decide +kernel
theorem dX5_reachFor_80 : decode cX5_reachFor 80 = .ok (.iinc 5 1, 3) := by decide +kernel
theorem dX5_reachFor_83 : decode cX5_reachFor 83 = .ok (.goto (-34), 3) := by decide +kernel
theorem dX5_reachFor_86 : decode cX5_reachFor 86 = .ok (.iload 4, 2) := by decide +kernel
theorem dX5_reachFor_88 : decode cX5_reachFor 88 = .ok (.ifCond .ne 5, 3) := by decide +kernel
theorem dX5_reachFor_91 : decode cX5_reachFor 91 = .ok (.iload_n 3, 1) := by decide +kernel
theorem dX5_reachFor_92 : decode cX5_reachFor 92 = .ok (.ireturn, 1) := by decide +kernel
theorem dX5_reachFor_93 : decode cX5_reachFor 93 = .ok (.aload_n 0, 1) := by decide +kernel
theorem dX5_reachFor_94 : decode cX5_reachFor 94 = .ok (.getfield 26, 3) := by decide +kernel
theorem dX5_reachFor_97 : decode cX5_reachFor 97 = .ok (.iconst 0, 1) := by decide +kernel
theorem dX5_reachFor_98 : decode cX5_reachFor 98 = .ok (.aload_n 0, 1) := by decide +kernel
theorem dX5_reachFor_99 : decode cX5_reachFor 99 = .ok (.getfield 22, 3) := by decide +kernel
theorem dX5_reachFor_102 : decode cX5_reachFor 102 = .ok (.iconst 0, 1) := by decide +kernel
theorem dX5_reachFor_103 : decode cX5_reachFor 103 = .ok (.aload_n 0, 1) := by decide +kernel
theorem dX5_reachFor_104 : decode cX5_reachFor 104 = .ok (.getfield 22, 3) := by decide +kernel
theorem dX5_reachFor_107 : decode cX5_reachFor 107 = .ok (.arraylength, 1) := by decide +kernel
theorem dX5_reachFor_108 : decode cX5_reachFor 108 = .ok (.invokestatic 79, 3) := by decide +kernel
theorem dX5_reachFor_111 : decode cX5_reachFor 111 = .ok (.iinc 3 1, 3) := by decide +kernel
theorem dX5_reachFor_114 : decode cX5_reachFor 114 = .ok (.goto (-93), 3) := by decide +kernel
theorem dX5_reachFor_117 : decode cX5_reachFor 117 = .ok (.aload_n 1, 1) := by decide +kernel
theorem dX5_reachFor_118 : decode cX5_reachFor 118 = .ok (.getfield 29, 3) := by decide +kernel
theorem dX5_reachFor_121 : decode cX5_reachFor 121 = .ok (.ireturn, 1) := by decide +kernel
theorem dX5_spread_0 : decode cX5_spread 0 = .ok (.aload_n 1, 1) := by decide +kernel
theorem dX5_spread_1 : decode cX5_spread 1 = .ok (.getfield 49, 3) := by decide +kernel
theorem dX5_spread_4 : decode cX5_spread 4 = .ok (.getfield 53, 3) := by decide +kernel
theorem dX5_spread_7 : decode cX5_spread 7 = .ok (.iload_n 2, 1) := by decide +kernel
theorem dX5_spread_8 : decode cX5_spread 8 = .ok (.iaload, 1) := by decide +kernel
theorem dX5_spread_9 : decode cX5_spread 9 = .ok (.istore 4, 2) := by decide +kernel
theorem dX5_spread_11 : decode cX5_spread 11 = .ok (.iload 4, 2) := by decide +kernel
theorem dX5_spread_13 : decode cX5_spread 13 = .ok (.iconst (-1), 1) := by decide +kernel
theorem dX5_spread_14 : decode cX5_spread 14 = .ok (.if_icmp .ne 7, 3) := by decide +kernel
theorem dX5_spread_17 : decode cX5_spread 17 = .ok (.iconst 5, 1) := by decide +kernel
theorem dX5_spread_18 : decode cX5_spread 18 = .ok (.goto 4, 3) := by decide +kernel
theorem dX5_spread_21 : decode cX5_spread 21 = .ok (.iconst (-1), 1) := by decide +kernel
theorem dX5_spread_22 : decode cX5_spread 22 = .ok (.istore 5, 2) := by decide +kernel
theorem dX5_spread_24 : decode cX5_spread 24 = .ok (.iconst (-1), 1) := by decide +kernel
theorem dX5_spread_25 : decode cX5_spread 25 = .ok (.istore 6, 2) := by decide +kernel
theorem dX5_spread_27 : decode cX5_spread 27 = .ok (.iload 6, 2) := by decide +kernel
theorem dX5_spread_29 : decode cX5_spread 29 = .ok (.iload 5, 2) := by decide +kernel
theorem dX5_spread_31 : decode cX5_spread 31 = .ok (.if_icmp .gt 73, 3) := by decide +kernel
theorem dX5_spread_34 : decode cX5_spread 34 = .ok (.iload 6, 2) := by decide +kernel
theorem dX5_spread_36 : decode cX5_spread 36 = .ok (.iconst (-1), 1) := by decide +kernel
theorem dX5_spread_37 : decode cX5_spread 37 = .ok (.if_icmp .ne 8, 3) := by decide +kernel
theorem dX5_spread_40 : decode cX5_spread 40 = .ok (.iload 4, 2) := by decide +kernel
theorem dX5_spread_42 : decode cX5_spread 42 = .ok (.goto 5, 3) := by decide +kernel
theorem dX5_spread_45 : decode cX5_spread 45 = .ok (.iload 6, 2) := by decide +kernel
theorem dX5_spread_47 : decode cX5_spread 47 = .ok (.istore 7, 2) := by decide +kernel
theorem dX5_spread_49 : decode cX5_spread 49 = .ok (.iload 7, 2) := by decide +kernel
theorem dX5_spread_51 : decode cX5_spread 51 = .ok (.iload_n 3, 1) := by decide +kernel
theorem dX5_spread_52 : decode cX5_spread 52 = .ok (.aload_n 1, 1) := by decide +kernel
theorem dX5_spread_53 : decode cX5_spread 53 = .ok (.getfield 42, 3) := by decide +kernel
theorem dX5_spread_56 : decode cX5_spread 56 = .ok (.iload_n 2, 1) := by decide +kernel
theorem dX5_spread_57 : decode cX5_spread 57 = .ok (.iaload, 1) := by decide +kernel
theorem dX5_spread_58 : decode cX5_spread 58 = .ok (.isub, 1) := by decide +kernel
theorem dX5_spread_59 : decode cX5_spread 59 = .ok (.aload_n 1, 1) := by decide +kernel
theorem dX5_spread_60 : decode cX5_spread 60 = .ok (.getfield 72, 3) := by decide +kernel
theorem dX5_spread_63 : decode cX5_spread 63 = .ok (.invokestatic 60, 3) := by decide +kernel
theorem dX5_spread_66 : decode cX5_spread 66 = .ok (.istore 8, 2) := by decide +kernel
theorem dX5_spread_68 : decode cX5_spread 68 = .ok (.aload_n 0, 1) := by decide +kernel
theorem dX5_spread_69 : decode cX5_spread 69 = .ok (.getfield 26, 3) := by decide +kernel
theorem dX5_spread_72 : decode cX5_spread 72 = .ok (.iload 8, 2) := by decide +kernel
theorem dX5_spread_74 : decode cX5_spread 74 = .ok (.aload_n 0, 1) := by decide +kernel
theorem dX5_spread_75 : decode cX5_spread 75 = .ok (.getfield 26, 3) := by decide +kernel
theorem dX5_spread_78 : decode cX5_spread 78 = .ok (.iload 8, 2) := by decide +kernel
theorem dX5_spread_80 : decode cX5_spread 80 = .ok (.iaload, 1) := by decide +kernel
theorem dX5_spread_81 : decode cX5_spread 81 = .ok (.aload_n 0, 1) := by decide +kernel
theorem dX5_spread_82 : decode cX5_spread 82 = .ok (.getfield 22, 3) := by decide +kernel
theorem dX5_spread_85 : decode cX5_spread 85 = .ok (.iload_n 3, 1) := by decide +kernel
theorem dX5_spread_86 : decode cX5_spread 86 = .ok (.iaload, 1) := by decide +kernel
theorem dX5_spread_87 : decode cX5_spread 87 = .ok (.aload_n 1, 1) := by decide +kernel
theorem dX5_spread_88 : decode cX5_spread 88 = .ok (.iload 6, 2) := by decide +kernel
theorem dX5_spread_90 : decode cX5_spread 90 = .ok (.invokevirtual 64, 3) := by decide +kernel
theorem dX5_spread_93 : decode cX5_spread 93 = .ok (.iadd, 1) := by decide +kernel
theorem dX5_spread_94 : decode cX5_spread 94 = .ok (.invokestatic 85, 3) := by decide +kernel
theorem dX5_spread_97 : decode cX5_spread 97 = .ok (.iastore, 1) := by decide +kernel
theorem dX5_spread_98 : decode cX5_spread 98 = .ok (.iinc 6 1, 3) := by decide +kernel
theorem dX5_spread_101 : decode cX5_spread 101 = .ok (.goto (-74), 3) := by decide +kernel
theorem dX5_spread_104 : decode cX5_spread 104 = .ok (.return_, 1) := by decide +kernel
theorem dX6_init_0 : decode cX6_init 0 = .ok (.aload_n 0, 1) := by decide +kernel
theorem dX6_init_1 : decode cX6_init 1 = .ok (.invokespecial 3, 3) := by decide +kernel
theorem dX6_init_4 : decode cX6_init 4 = .ok (.aload_n 0, 1) := by decide +kernel
theorem dX6_init_5 : decode cX6_init 5 = .ok (.sipush 150, 3) := by decide +kernel
theorem dX6_init_8 : decode cX6_init 8 = .ok (.newarray .int, 2) := by decide +kernel
theorem dX6_init_10 : decode cX6_init 10 = .ok (.putfield 9, 3) := by decide +kernel
theorem dX6_init_13 : decode cX6_init 13 = .ok (.aload_n 0, 1) := by decide +kernel
theorem dX6_init_14 : decode cX6_init 14 = .ok (.sipush 150, 3) := by decide +kernel
theorem dX6_init_17 : decode cX6_init 17 = .ok (.newarray .int, 2) := by decide +kernel
theorem dX6_init_19 : decode cX6_init 19 = .ok (.putfield 15, 3) := by decide +kernel
theorem dX6_init_22 : decode cX6_init 22 = .ok (.aload_n 0, 1) := by decide +kernel
theorem dX6_init_23 : decode cX6_init 23 = .ok (.sipush 150, 3) := by decide +kernel
theorem dX6_init_26 : decode cX6_init 26 = .ok (.newarray .int, 2) := by decide +kernel
theorem dX6_init_28 : decode cX6_init 28 = .ok (.putfield 18, 3) := by decide +kernel
theorem dX6_init_31 : decode cX6_init 31 = .ok (.aload_n 0, 1) := by decide +kernel
theorem dX6_init_32 : decode cX6_init 32 = .ok (.sipush 150, 3) := by decide +kernel
theorem dX6_init_35 : decode cX6_init 35 = .ok (.newarray .int, 2) := by decide +kernel
theorem dX6_init_37 : decode cX6_init 37 = .ok (.putfield 21, 3) := by decide +kernel
theorem dX6_init_40 : decode cX6_init 40 = .ok (.return_, 1) := by decide +kernel
theorem dX6_add_0 : decode cX6_add 0 = .ok (.aload_n 0, 1) := by decide +kernel
theorem dX6_add_1 : decode cX6_add 1 = .ok (.getfield 9, 3) := by decide +kernel
theorem dX6_add_4 : decode cX6_add 4 = .ok (.aload_n 0, 1) := by decide +kernel
theorem dX6_add_5 : decode cX6_add 5 = .ok (.getfield 24, 3) := by decide +kernel
theorem dX6_add_8 : decode cX6_add 8 = .ok (.iload_n 1, 1) := by decide +kernel
theorem dX6_add_9 : decode cX6_add 9 = .ok (.iastore, 1) := by decide +kernel
theorem dX6_add_10 : decode cX6_add 10 = .ok (.aload_n 0, 1) := by decide +kernel
theorem dX6_add_11 : decode cX6_add 11 = .ok (.dup, 1) := by decide +kernel
theorem dX6_add_12 : decode cX6_add 12 = .ok (.getfield 24, 3) := by decide +kernel
theorem dX6_add_15 : decode cX6_add 15 = .ok (.iconst 1, 1) := by decide +kernel
theorem dX6_add_16 : decode cX6_add 16 = .ok (.iadd, 1) := by decide +kernel
theorem dX6_add_17 : decode cX6_add 17 = .ok (.putfield 24, 3) := by decide +kernel
theorem dX6_add_20 : decode cX6_add 20 = .ok (.return_, 1) := by decide +kernel
theorem dX6_findFault_0 : decode cX6_findFault 0 = .ok (.aload_n 0, 1) := by decide +kernel
theorem dX6_findFault_1 : decode cX6_findFault 1 = .ok (.iconst 0, 1) := by decide +kernel
theorem dX6_findFault_2 : decode cX6_findFault 2 = .ok (.putfield 28, 3) := by decide +kernel
theorem dX6_findFault_5 : decode cX6_findFault 5 = .ok (.aload_n 0, 1) := by decide +kernel
theorem dX6_findFault_6 : decode cX6_findFault 6 = .ok (.invokevirtual 31, 3) := by decide +kernel
theorem dX6_findFault_9 : decode cX6_findFault 9 = .ok (.aload_n 0, 1) := by decide +kernel
theorem dX6_findFault_10 : decode cX6_findFault 10 = .ok (.iconst 0, 1) := by decide +kernel
theorem dX6_findFault_11 : decode cX6_findFault 11 = .ok (.putfield 34, 3) := by decide +kernel
theorem dX6_findFault_14 : decode cX6_findFault 14 = .ok (.aload_n 0, 1) := by decide +kernel
theorem dX6_findFault_15 : decode cX6_findFault 15 = .ok (.getfield 34, 3) := by decide +kernel
theorem dX6_findFault_18 : decode cX6_findFault 18 = .ok (.sipush 150, 3) := by decide +kernel
theorem dX6_findFault_21 : decode cX6_findFault 21 = .ok (.if_icmp .ge 42, 3) := by decide +kernel
theorem dX6_findFault_24 : decode cX6_findFault 24 = .ok (.aload_n 0, 1) := by decide +kernel
theorem dX6_findFault_25 : decode cX6_findFault 25 = .ok (.getfield 37, 3) := by decide +kernel
theorem dX6_findFault_28 : decode cX6_findFault 28 = .ok (.ifCond .eq 35, 3) := by decide +kernel
theorem dX6_findFault_31 : decode cX6_findFault 31 = .ok (.aload_n 0, 1) := by decide +kernel
theorem dX6_findFault_32 : decode cX6_findFault 32 = .ok (.invokevirtual 40, 3) := by decide +kernel
theorem dX6_findFault_35 : decode cX6_findFault 35 = .ok (.ifCond .eq 10, 3) := by decide +kernel
theorem dX6_findFault_38 : decode cX6_findFault 38 = .ok (.aload_n 0, 1) := by decide +kernel
theorem dX6_findFault_39 : decode cX6_findFault 39 = .ok (.invokevirtual 44, 3) := by decide +kernel
theorem dX6_findFault_42 : decode cX6_findFault 42 = .ok (.ifCond .ne 8, 3) := by decide +kernel
theorem dX6_findFault_45 : decode cX6_findFault 45 = .ok (.aload_n 0, 1) := by decide +kernel
theorem dX6_findFault_46 : decode cX6_findFault 46 = .ok (.getfield 47, 3) := by decide +kernel
theorem dX6_findFault_49 : decode cX6_findFault 49 = .ok (.ireturn, 1) := by decide +kernel
theorem dX6_findFault_50 : decode cX6_findFault 50 = .ok (.aload_n 0, 1) := by decide +kernel
theorem dX6_findFault_51 : decode cX6_findFault 51 = .ok (.dup, 1) := by decide +kernel
theorem dX6_findFault_52 : decode cX6_findFault 52 = .ok (.getfield 34, 3) := by decide +kernel
theorem dX6_findFault_55 : decode cX6_findFault 55 = .ok (.iconst 1, 1) := by decide +kernel
theorem dX6_findFault_56 : decode cX6_findFault 56 = .ok (.iadd, 1) := by decide +kernel
theorem dX6_findFault_57 : decode cX6_findFault 57 = .ok (.putfield 34, 3) := by decide +kernel
theorem dX6_findFault_60 : decode cX6_findFault 60 = .ok (.goto (-46), 3) := by decide +kernel
theorem dX6_findFault_63 : decode cX6_findFault 63 = .ok (.aload_n 0, 1) := by decide +kernel
theorem dX6_findFault_64 : decode cX6_findFault 64 = .ok (.getfield 34, 3) := by decide +kernel
theorem dX6_findFault_67 : decode cX6_findFault 67 = .ok (.ifCond .ne 10, 3) := by decide +kernel
theorem dX6_findFault_70 : decode cX6_findFault 70 = .ok (.aload_n 0, 1) := by decide +kernel
theorem dX6_findFault_71 : decode cX6_findFault 71 = .ok (.getfield 24, 3) := by decide +kernel
theorem dX6_findFault_74 : decode cX6_findFault 74 = .ok (.goto 4, 3) := by decide +kernel
theorem dX6_findFault_77 : decode cX6_findFault 77 = .ok (.iconst (-1), 1) := by decide +kernel
theorem dX6_findFault_78 : decode cX6_findFault 78 = .ok (.ireturn, 1) := by decide +kernel
theorem dX6_mayBegin_0 : decode cX6_mayBegin 0 = .ok (.aload_n 0, 1) := by decide +kernel
theorem dX6_mayBegin_1 : decode cX6_mayBegin 1 = .ok (.getfield 34, 3) := by decide +kernel
theorem dX6_mayBegin_4 : decode cX6_mayBegin 4 = .ok (.ifCond .ne 19, 3) := by decide +kernel
theorem dX6_mayBegin_7 : decode cX6_mayBegin 7 = .ok (.aload_n 0, 1) := by decide +kernel
theorem dX6_mayBegin_8 : decode cX6_mayBegin 8 = .ok (.getfield 37, 3) := by decide +kernel
theorem dX6_mayBegin_11 : decode cX6_mayBegin 11 = .ok (.iconst 1, 1) := by decide +kernel
theorem dX6_mayBegin_12 : decode cX6_mayBegin 12 = .ok (.if_icmp .ne 7, 3) := by decide +kernel
theorem dX6_mayBegin_15 : decode cX6_mayBegin 15 = .ok (.iconst 1, 1) := by decide +kernel
theorem dX6_mayBegin_16 : decode cX6_mayBegin 16 = .ok (.goto 28, 3) := by decide +kernel
theorem dX6_mayBegin_19 : decode cX6_mayBegin 19 = .ok (.iconst 0, 1) := by decide +kernel
theorem dX6_mayBegin_20 : decode cX6_mayBegin 20 = .ok (.goto 24, 3) := by decide +kernel
theorem dX6_mayBegin_23 : decode cX6_mayBegin 23 = .ok (.aload_n 0, 1) := by decide +kernel
theorem dX6_mayBegin_24 : decode cX6_mayBegin 24 = .ok (.getfield 37, 3) := by decide +kernel
theorem dX6_mayBegin_27 : decode cX6_mayBegin 27 = .ok (.iconst 2, 1) := by decide +kernel
theorem dX6_mayBegin_28 : decode cX6_mayBegin 28 = .ok (.if_icmp .eq 11, 3) := by decide +kernel
theorem dX6_mayBegin_31 : decode cX6_mayBegin 31 = .ok (.aload_n 0, 1) := by decide +kernel
theorem dX6_mayBegin_32 : decode cX6_mayBegin 32 = .ok (.getfield 37, 3) := by decide +kernel
theorem dX6_mayBegin_35 : decode cX6_mayBegin 35 = .ok (.iconst 3, 1) := by decide +kernel
theorem dX6_mayBegin_36 : decode cX6_mayBegin 36 = .ok (.if_icmp .ne 7, 3) := by decide +kernel
theorem dX6_mayBegin_39 : decode cX6_mayBegin 39 = .ok (.iconst 1, 1) := by decide +kernel
theorem dX6_mayBegin_40 : decode cX6_mayBegin 40 = .ok (.goto 4, 3) := by decide +kernel
theorem dX6_mayBegin_43 : decode cX6_mayBegin 43 = .ok (.iconst 0, 1) := by decide +kernel
theorem dX6_mayBegin_44 : decode cX6_mayBegin 44 = .ok (.ireturn, 1) := by decide +kernel
theorem dX6_takeItem_0 : decode cX6_takeItem 0 = .ok (.aload_n 0, 1) := by decide +kernel
theorem dX6_takeItem_1 : decode cX6_takeItem 1 = .ok (.getfield 15, 3) := by decide +kernel
theorem dX6_takeItem_4 : decode cX6_takeItem 4 = .ok (.aload_n 0, 1) := by decide +kernel
theorem dX6_takeItem_5 : decode cX6_takeItem 5 = .ok (.getfield 34, 3) := by decide +kernel
theorem dX6_takeItem_8 : decode cX6_takeItem 8 = .ok (.aload_n 0, 1) := by decide +kernel
theorem dX6_takeItem_9 : decode cX6_takeItem 9 = .ok (.getfield 37, 3) := by decide +kernel
theorem dX6_takeItem_12 : decode cX6_takeItem 12 = .ok (.iastore, 1) := by decide +kernel
theorem dX6_takeItem_13 : decode cX6_takeItem 13 = .ok (.aload_n 0, 1) := by decide +kernel
theorem dX6_takeItem_14 : decode cX6_takeItem 14 = .ok (.getfield 37, 3) := by decide +kernel
theorem dX6_takeItem_17 : decode cX6_takeItem 17 = .ok (.iconst 2, 1) := by decide +kernel
theorem dX6_takeItem_18 : decode cX6_takeItem 18 = .ok (.if_icmp .ne 7, 3) := by decide +kernel
theorem dX6_takeItem_21 : decode cX6_takeItem 21 = .ok (.iconst 1, 1) := by decide +kernel
theorem dX6_takeItem_22 : decode cX6_takeItem 22 = .ok (.goto 4, 3) := by decide +kernel
theorem dX6_takeItem_25 : decode cX6_takeItem 25 = .ok (.iconst 2, 1) := by decide +kernel
theorem dX6_takeItem_26 : decode cX6_takeItem 26 = .ok (.istore_n 1, 1) := by decide +kernel
theorem dX6_takeItem_27 : decode cX6_takeItem 27 = .ok (.aload_n 0, 1) := by decide +kernel
theorem dX6_takeItem_28 : decode cX6_takeItem 28 = .ok (.invokevirtual 31, 3) := by decide +kernel
theorem dX6_takeItem_31 : decode cX6_takeItem 31 = .ok (.aload_n 0, 1) := by decide +kernel
theorem dX6_takeItem_32 : decode cX6_takeItem 32 = .ok (.getfield 18, 3) := by decide +kernel
theorem dX6_takeItem_35 : decode cX6_takeItem 35 = .ok (.aload_n 0, 1) := by decide +kernel
theorem dX6_takeItem_36 : decode cX6_takeItem 36 = .ok (.getfield 34, 3) := by decide +kernel
theorem dX6_takeItem_39 : decode cX6_takeItem 39 = .ok (.aload_n 0, 1) := by decide +kernel
theorem dX6_takeItem_40 : decode cX6_takeItem 40 = .ok (.getfield 50, 3) := by decide +kernel
theorem dX6_takeItem_43 : decode cX6_takeItem 43 = .ok (.iastore, 1) := by decide +kernel
theorem dX6_takeItem_44 : decode cX6_takeItem 44 = .ok (.aload_n 0, 1) := by decide +kernel
theorem dX6_takeItem_45 : decode cX6_takeItem 45 = .ok (.getfield 37, 3) := by decide +kernel
theorem dX6_takeItem_48 : decode cX6_takeItem 48 = .ok (.iconst 4, 1) := by decide +kernel
theorem dX6_takeItem_49 : decode cX6_takeItem 49 = .ok (.if_icmp .eq 5, 3) := by decide +kernel
theorem dX6_takeItem_52 : decode cX6_takeItem 52 = .ok (.iconst 0, 1) := by decide +kernel
theorem dX6_takeItem_53 : decode cX6_takeItem 53 = .ok (.ireturn, 1) := by decide +kernel
theorem dX6_takeItem_54 : decode cX6_takeItem 54 = .ok (.iload_n 1, 1) := by decide +kernel
theorem dX6_takeItem_55 : decode cX6_takeItem 55 = .ok (.iconst 2, 1) := by decide +kernel
theorem dX6_takeItem_56 : decode cX6_takeItem 56 = .ok (.if_icmp .ne 17, 3) := by decide +kernel
theorem dX6_takeItem_59 : decode cX6_takeItem 59 = .ok (.aload_n 0, 1) := by decide +kernel
theorem dX6_takeItem_60 : decode cX6_takeItem 60 = .ok (.invokevirtual 31, 3) := by decide +kernel
theorem dX6_takeItem_63 : decode cX6_takeItem 63 = .ok (.aload_n 0, 1) := by decide +kernel
theorem dX6_takeItem_64 : decode cX6_takeItem 64 = .ok (.getfield 37, 3) := by decide +kernel
theorem dX6_takeItem_67 : decode cX6_takeItem 67 = .ok (.iconst 4, 1) := by decide +kernel
theorem dX6_takeItem_68 : decode cX6_takeItem 68 = .ok (.if_icmp .eq 5, 3) := by decide +kernel
theorem dX6_takeItem_71 : decode cX6_takeItem 71 = .ok (.iconst 0, 1) := by decide +kernel
theorem dX6_takeItem_72 : decode cX6_takeItem 72 = .ok (.ireturn, 1) := by decide +kernel
theorem dX6_takeItem_73 : decode cX6_takeItem 73 = .ok (.aload_n 0, 1) := by decide +kernel
theorem dX6_takeItem_74 : decode cX6_takeItem 74 = .ok (.getfield 21, 3) := by decide +kernel
theorem dX6_takeItem_77 : decode cX6_takeItem 77 = .ok (.aload_n 0, 1) := by decide +kernel
theorem dX6_takeItem_78 : decode cX6_takeItem 78 = .ok (.getfield 34, 3) := by decide +kernel
theorem dX6_takeItem_81 : decode cX6_takeItem 81 = .ok (.aload_n 0, 1) := by decide +kernel
theorem dX6_takeItem_82 : decode cX6_takeItem 82 = .ok (.getfield 50, 3) := by decide +kernel
theorem dX6_takeItem_85 : decode cX6_takeItem 85 = .ok (.iastore, 1) := by decide +kernel
theorem dX6_takeItem_86 : decode cX6_takeItem 86 = .ok (.aload_n 0, 1) := by decide +kernel
theorem dX6_takeItem_87 : decode cX6_takeItem 87 = .ok (.invokevirtual 31, 3) := by decide +kernel
theorem dX6_takeItem_90 : decode cX6_takeItem 90 = .ok (.aload_n 0, 1) := by decide +kernel
theorem dX6_takeItem_91 : decode cX6_takeItem 91 = .ok (.getfield 37, 3) := by decide +kernel
theorem dX6_takeItem_94 : decode cX6_takeItem 94 = .ok (.iconst 5, 1) := by decide +kernel
theorem dX6_takeItem_95 : decode cX6_takeItem 95 = .ok (.if_icmp .eq 5, 3) := by decide +kernel
theorem dX6_takeItem_98 : decode cX6_takeItem 98 = .ok (.iconst 0, 1) := by decide +kernel
theorem dX6_takeItem_99 : decode cX6_takeItem 99 = .ok (.ireturn, 1) := by decide +kernel
theorem dX6_takeItem_100 : decode cX6_takeItem 100 = .ok (.aload_n 0, 1) := by decide +kernel
theorem dX6_takeItem_101 : decode cX6_takeItem 101 = .ok (.invokevirtual 31, 3) := by decide +kernel
theorem dX6_takeItem_104 : decode cX6_takeItem 104 = .ok (.iconst 1, 1) := by decide +kernel
theorem dX6_takeItem_105 : decode cX6_takeItem 105 = .ok (.ireturn, 1) := by decide +kernel
theorem dX6_next_0 : decode cX6_next 0 = .ok (.aload_n 0, 1) := by decide +kernel
theorem dX6_next_1 : decode cX6_next 1 = .ok (.aload_n 0, 1) := by decide +kernel
theorem dX6_next_2 : decode cX6_next 2 = .ok (.aload_n 0, 1) := by decide +kernel
theorem dX6_next_3 : decode cX6_next 3 = .ok (.getfield 28, 3) := by decide +kernel
theorem dX6_next_6 : decode cX6_next 6 = .ok (.bipush 32, 2) := by decide +kernel
theorem dX6_next_8 : decode cX6_next 8 = .ok (.bipush 32, 2) := by decide +kernel
theorem dX6_next_10 : decode cX6_next 10 = .ok (.invokevirtual 53, 3) := by decide +kernel
theorem dX6_next_13 : decode cX6_next 13 = .ok (.putfield 47, 3) := by decide +kernel
theorem dX6_next_16 : decode cX6_next 16 = .ok (.aload_n 0, 1) := by decide +kernel
theorem dX6_next_17 : decode cX6_next 17 = .ok (.getfield 47, 3) := by decide +kernel
theorem dX6_next_20 : decode cX6_next 20 = .ok (.aload_n 0, 1) := by decide +kernel
theorem dX6_next_21 : decode cX6_next 21 = .ok (.getfield 24, 3) := by decide +kernel
theorem dX6_next_24 : decode cX6_next 24 = .ok (.if_icmp .lt 9, 3) := by decide +kernel
theorem dX6_next_27 : decode cX6_next 27 = .ok (.aload_n 0, 1) := by decide +kernel
theorem dX6_next_28 : decode cX6_next 28 = .ok (.iconst 0, 1) := by decide +kernel
theorem dX6_next_29 : decode cX6_next 29 = .ok (.putfield 37, 3) := by decide +kernel
theorem dX6_next_32 : decode cX6_next 32 = .ok (.return_, 1) := by decide +kernel
theorem dX6_next_33 : decode cX6_next 33 = .ok (.aload_n 0, 1) := by decide +kernel
theorem dX6_next_34 : decode cX6_next 34 = .ok (.getfield 9, 3) := by decide +kernel
theorem dX6_next_37 : decode cX6_next 37 = .ok (.aload_n 0, 1) := by decide +kernel
theorem dX6_next_38 : decode cX6_next 38 = .ok (.getfield 47, 3) := by decide +kernel
theorem dX6_next_41 : decode cX6_next 41 = .ok (.iaload, 1) := by decide +kernel
theorem dX6_next_42 : decode cX6_next 42 = .ok (.istore_n 1, 1) := by decide +kernel
theorem dX6_next_43 : decode cX6_next 43 = .ok (.iload_n 1, 1) := by decide +kernel
theorem dX6_next_44 : decode cX6_next 44 = .ok (.bipush 97, 2) := by decide +kernel
theorem dX6_next_46 : decode cX6_next 46 = .ok (.if_icmp .lt 36, 3) := by decide +kernel
theorem dX6_next_49 : decode cX6_next 49 = .ok (.iload_n 1, 1) := by decide +kernel
theorem dX6_next_50 : decode cX6_next 50 = .ok (.bipush 122, 2) := by decide +kernel
theorem dX6_next_52 : decode cX6_next 52 = .ok (.if_icmp .gt 30, 3) := by decide +kernel
theorem dX6_next_55 : decode cX6_next 55 = .ok (.aload_n 0, 1) := by decide +kernel
theorem dX6_next_56 : decode cX6_next 56 = .ok (.aload_n 0, 1) := by decide +kernel
theorem dX6_next_57 : decode cX6_next 57 = .ok (.aload_n 0, 1) := by decide +kernel
theorem dX6_next_58 : decode cX6_next 58 = .ok (.getfield 47, 3) := by decide +kernel
theorem dX6_next_61 : decode cX6_next 61 = .ok (.bipush 97, 2) := by decide +kernel
theorem dX6_next_63 : decode cX6_next 63 = .ok (.bipush 122, 2) := by decide +kernel
theorem dX6_next_65 : decode cX6_next 65 = .ok (.invokevirtual 53, 3) := by decide +kernel
theorem dX6_next_68 : decode cX6_next 68 = .ok (.putfield 28, 3) := by decide +kernel
theorem dX6_next_71 : decode cX6_next 71 = .ok (.aload_n 0, 1) := by decide +kernel
theorem dX6_next_72 : decode cX6_next 72 = .ok (.aload_n 0, 1) := by decide +kernel
theorem dX6_next_73 : decode cX6_next 73 = .ok (.invokevirtual 57, 3) := by decide +kernel
theorem dX6_next_76 : decode cX6_next 76 = .ok (.putfield 37, 3) := by decide +kernel
theorem dX6_next_79 : decode cX6_next 79 = .ok (.goto 68, 3) := by decide +kernel
theorem dX6_next_82 : decode cX6_next 82 = .ok (.iload_n 1, 1) := by decide +kernel
theorem dX6_next_83 : decode cX6_next 83 = .ok (.bipush 48, 2) := by decide +kernel
theorem dX6_next_85 : decode cX6_next 85 = .ok (.if_icmp .lt 36, 3) := by decide +kernel
theorem dX6_next_88 : decode cX6_next 88 = .ok (.iload_n 1, 1) := by decide +kernel
theorem dX6_next_89 : decode cX6_next 89 = .ok (.bipush 57, 2) := by decide +kernel
theorem dX6_next_91 : decode cX6_next 91 = .ok (.if_icmp .gt 30, 3) := by decide +kernel
theorem dX6_next_94 : decode cX6_next 94 = .ok (.aload_n 0, 1) := by decide +kernel
theorem dX6_next_95 : decode cX6_next 95 = .ok (.aload_n 0, 1) := by decide +kernel
theorem dX6_next_96 : decode cX6_next 96 = .ok (.aload_n 0, 1) := by decide +kernel
theorem dX6_next_97 : decode cX6_next 97 = .ok (.getfield 47, 3) := by decide +kernel
theorem dX6_next_100 : decode cX6_next 100 = .ok (.bipush 48, 2) := by decide +kernel
theorem dX6_next_102 : decode cX6_next 102 = .ok (.bipush 57, 2) := by decide +kernel
theorem dX6_next_104 : decode cX6_next 104 = .ok (.invokevirtual 53, 3) := by decide +kernel
theorem dX6_next_107 : decode cX6_next 107 = .ok (.putfield 28, 3) := by decide +kernel
theorem dX6_next_110 : decode cX6_next 110 = .ok (.aload_n 0, 1) := by decide +kernel
theorem dX6_next_111 : decode cX6_next 111 = .ok (.aload_n 0, 1) := by decide +kernel
theorem dX6_next_112 : decode cX6_next 112 = .ok (.invokevirtual 61, 3) := by decide +kernel
theorem dX6_next_115 : decode cX6_next 115 = .ok (.putfield 37, 3) := by decide +kernel
theorem dX6_next_118 : decode cX6_next 118 = .ok (.goto 29, 3) := by decide +kernel
theorem dX6_next_121 : decode cX6_next 121 = .ok (.aload_n 0, 1) := by decide +kernel
theorem dX6_next_122 : decode cX6_next 122 = .ok (.aload_n 0, 1) := by decide +kernel
theorem dX6_next_123 : decode cX6_next 123 = .ok (.getfield 47, 3) := by decide +kernel
theorem dX6_next_126 : decode cX6_next 126 = .ok (.iconst 1, 1) := by decide +kernel
theorem dX6_next_127 : decode cX6_next 127 = .ok (.iadd, 1) := by decide +kernel
theorem dX6_next_128 : decode cX6_next 128 = .ok (.putfield 28, 3) := by decide +kernel
theorem dX6_next_131 : decode cX6_next 131 = .ok (.aload_n 0, 1) := by decide +kernel
theorem dX6_next_132 : decode cX6_next 132 = .ok (.iload_n 1, 1) := by decide +kernel
theorem dX6_next_133 : decode cX6_next 133 = .ok (.bipush 59, 2) := by decide +kernel
theorem dX6_next_135 : decode cX6_next 135 = .ok (.if_icmp .ne 7, 3) := by decide +kernel
theorem dX6_next_138 : decode cX6_next 138 = .ok (.iconst 5, 1) := by decide +kernel
theorem dX6_next_139 : decode cX6_next 139 = .ok (.goto 5, 3) := by decide +kernel
theorem dX6_next_142 : decode cX6_next 142 = .ok (.bipush 6, 2) := by decide +kernel
theorem dX6_next_144 : decode cX6_next 144 = .ok (.putfield 37, 3) := by decide +kernel
theorem dX6_next_147 : decode cX6_next 147 = .ok (.return_, 1) := by decide +kernel
theorem dX6_runEnd_0 : decode cX6_runEnd 0 = .ok (.iload_n 1, 1) := by decide +kernel
theorem dX6_runEnd_1 : decode cX6_runEnd 1 = .ok (.istore 4, 2) := by decide +kernel
theorem dX6_runEnd_3 : decode cX6_runEnd 3 = .ok (.iload 4, 2) := by decide +kernel
theorem dX6_runEnd_5 : decode cX6_runEnd 5 = .ok (.aload_n 0, 1) := by decide +kernel
theorem dX6_runEnd_6 : decode cX6_runEnd 6 = .ok (.getfield 24, 3) := by decide +kernel
theorem dX6_runEnd_9 : decode cX6_runEnd 9 = .ok (.if_icmp .ge 31, 3) := by decide +kernel
theorem dX6_runEnd_12 : decode cX6_runEnd 12 = .ok (.aload_n 0, 1) := by decide +kernel
theorem dX6_runEnd_13 : decode cX6_runEnd 13 = .ok (.getfield 9, 3) := by decide +kernel
theorem dX6_runEnd_16 : decode cX6_runEnd 16 = .ok (.iload 4, 2) := by decide +kernel
theorem dX6_runEnd_18 : decode cX6_runEnd 18 = .ok (.iaload, 1) := by decide +kernel
theorem dX6_runEnd_19 : decode cX6_runEnd 19 = .ok (.iload_n 2, 1) := by decide +kernel
theorem dX6_runEnd_20 : decode cX6_runEnd 20 = .ok (.if_icmp .lt 20, 3) := by decide +kernel
theorem dX6_runEnd_23 : decode cX6_runEnd 23 = .ok (.aload_n 0, 1) := by decide +kernel
theorem dX6_runEnd_24 : decode cX6_runEnd 24 = .ok (.getfield 9, 3) := by decide +kernel
theorem dX6_runEnd_27 : decode cX6_runEnd 27 = .ok (.iload 4, 2) := by decide +kernel
theorem dX6_runEnd_29 : decode cX6_runEnd 29 = .ok (.iaload, 1) := by decide +kernel
theorem dX6_runEnd_30 : decode cX6_runEnd 30 = .ok (.iload_n 3, 1) := by decide +kernel
theorem dX6_runEnd_31 : decode cX6_runEnd 31 = .ok (.if_icmp .gt 9, 3) := by decide +kernel
theorem dX6_runEnd_34 : decode cX6_runEnd 34 = .ok (.iinc 4 1, 3) := by decide +kernel
theorem dX6_runEnd_37 : decode cX6_runEnd 37 = .ok (.goto (-34), 3) := by decide +kernel
theorem dX6_runEnd_40 : decode cX6_runEnd 40 = .ok (.iload 4, 2) := by decide +kernel
theorem dX6_runEnd_42 : decode cX6_runEnd 42 = .ok (.ireturn, 1) := by decide +kernel
theorem dX6_wordHere_0 : decode cX6_wordHere 0 = .ok (.aload_n 0, 1) := by decide +kernel
theorem dX6_wordHere_1 : decode cX6_wordHere 1 = .ok (.ldc 64, 2) := by decide +kernel
theorem dX6_wordHere_3 : decode cX6_wordHere 3 = .ok (.invokevirtual 66, 3) := by decide +kernel
theorem dX6_wordHere_6 : decode cX6_wordHere 6 = .ok (.ifCond .eq 5, 3) := by decide +kernel
theorem dX6_wordHere_9 : decode cX6_wordHere 9 = .ok (.iconst 1, 1) := by decide +kernel
theorem dX6_wordHere_10 : decode cX6_wordHere 10 = .ok (.ireturn, 1) := by decide +kernel
theorem dX6_wordHere_11 : decode cX6_wordHere 11 = .ok (.aload_n 0, 1) := by decide +kernel
theorem dX6_wordHere_12 : decode cX6_wordHere 12 = .ok (.ldc 70, 2) := by decide +kernel
theorem dX6_wordHere_14 : decode cX6_wordHere 14 = .ok (.invokevirtual 66, 3) := by decide +kernel
theorem dX6_wordHere_17 : decode cX6_wordHere 17 = .ok (.ifCond .eq 5, 3) := by decide +kernel
theorem dX6_wordHere_20 : decode cX6_wordHere 20 = .ok (.iconst 2, 1) := by decide +kernel
theorem dX6_wordHere_21 : decode cX6_wordHere 21 = .ok (.ireturn, 1) := by decide +kernel
theorem dX6_wordHere_22 : decode cX6_wordHere 22 = .ok (.aload_n 0, 1) := by decide +kernel
theorem dX6_wordHere_23 : decode cX6_wordHere 23 = .ok (.ldc 72, 2) := by decide +kernel
theorem dX6_wordHere_25 : decode cX6_wordHere 25 = .ok (.invokevirtual 66, 3) := by decide +kernel
theorem dX6_wordHere_28 : decode cX6_wordHere 28 = .ok (.ifCond .eq 7, 3) := by decide +kernel
theorem dX6_wordHere_31 : decode cX6_wordHere 31 = .ok (.iconst 3, 1) := by decide +kernel
theorem dX6_wordHere_32 : decode cX6_wordHere 32 = .ok (.goto 5, 3) := by decide +kernel
theorem dX6_wordHere_35 : decode cX6_wordHere 35 = .ok (.bipush 6, 2) := by decide +kernel
theorem dX6_wordHere_37 : decode cX6_wordHere 37 = .ok (.ireturn, 1) := by decide +kernel
theorem dX6_isHere_0 : decode cX6_isHere 0 = .ok (.aload_n 0, 1) := by decide +kernel
theorem dX6_isHere_1 : decode cX6_isHere 1 = .ok (.getfield 28, 3) := by decide +kernel
theorem dX6_isHere_4 : decode cX6_isHere 4 = .ok (.aload_n 0, 1) := by decide +kernel
theorem dX6_isHere_5 : decode cX6_isHere 5 = .ok (.getfield 47, 3) := by decide +kernel
theorem dX6_isHere_8 : decode cX6_isHere 8 = .ok (.isub, 1) := by decide +kernel
theorem dX6_isHere_9 : decode cX6_isHere 9 = .ok (.aload_n 1, 1) := by decide +kernel
theorem dX6_isHere_10 : decode cX6_isHere 10 = .ok (.invokevirtual 74, 3) := by decide +kernel
theorem dX6_isHere_13 : decode cX6_isHere 13 = .ok (.if_icmp .eq 5, 3) := by decide +kernel
theorem dX6_isHere_16 : decode cX6_isHere 16 = .ok (.iconst 0, 1) := by decide +kernel
theorem dX6_isHere_17 : decode cX6_isHere 17 = .ok (.ireturn, 1) := by decide +kernel
theorem dX6_isHere_18 : decode cX6_isHere 18 = .ok (.iconst 0, 1) := by decide +kernel
theorem dX6_isHere_19 : decode cX6_isHere 19 = .ok (.istore_n 2, 1) := by decide +kernel
theorem dX6_isHere_20 : decode cX6_isHere 20 = .ok (.iload_n 2, 1) := by decide +kernel
theorem dX6_isHere_21 : decode cX6_isHere 21 = .ok (.aload_n 1, 1) := by decide +kernel
theorem dX6_isHere_22 : decode cX6_isHere 22 = .ok (.invokevirtual 74, 3) := by decide +kernel
theorem dX6_isHere_25 : decode cX6_isHere 25 = .ok (.if_icmp .ge 30, 3) := by decide +kernel
theorem dX6_isHere_28 : decode cX6_isHere 28 = .ok (.aload_n 0, 1) := by decide +kernel
theorem dX6_isHere_29 : decode cX6_isHere 29 = .ok (.getfield 9, 3) := by decide +kernel
theorem dX6_isHere_32 : decode cX6_isHere 32 = .ok (.aload_n 0, 1) := by decide +kernel
theorem dX6_isHere_33 : decode cX6_isHere 33 = .ok (.getfield 47, 3) := by decide +kernel
theorem dX6_isHere_36 : decode cX6_isHere 36 = .ok (.iload_n 2, 1) := by decide +kernel
theorem dX6_isHere_37 : decode cX6_isHere 37 = .ok (.iadd, 1) := by decide +kernel
theorem dX6_isHere_38 : decode cX6_isHere 38 = .ok (.iaload, 1) := by decide +kernel
theorem dX6_isHere_39 : decode cX6_isHere 39 = .ok (.aload_n 1, 1) := by decide +kernel
theorem dX6_isHere_40 : decode cX6_isHere 40 = .ok (.iload_n 2, 1) := by decide +kernel
theorem dX6_isHere_41 : decode cX6_isHere 41 = .ok (.invokevirtual 79, 3) := by decide +kernel
theorem dX6_isHere_44 : decode cX6_isHere 44 = .ok (.if_icmp .eq 5, 3) := by decide +kernel
theorem dX6_isHere_47 : decode cX6_isHere 47 = .ok (.iconst 0, 1) := by decide +kernel
theorem dX6_isHere_48 : decode cX6_isHere 48 = .ok (.ireturn, 1) := by decide +kernel
theorem dX6_isHere_49 : decode cX6_isHere 49 = .ok (.iinc 2 1, 3) := by decide +kernel
theorem dX6_isHere_52 : decode cX6_isHere 52 = .ok (.goto (-32), 3) := by decide +kernel
theorem dX6_isHere_55 : decode cX6_isHere 55 = .ok (.iconst 1, 1) := by decide +kernel
theorem dX6_isHere_56 : decode cX6_isHere 56 = .ok (.ireturn, 1) := by decide +kernel
theorem dX6_numberHere_0 : decode cX6_numberHere 0 = .ok (.aload_n 0, 1) := by decide +kernel
theorem dX6_numberHere_1 : decode cX6_numberHere 1 = .ok (.getfield 28, 3) := by decide +kernel
theorem dX6_numberHere_4 : decode cX6_numberHere 4 = .ok (.aload_n 0, 1) := by decide +kernel
theorem dX6_numberHere_5 : decode cX6_numberHere 5 = .ok (.getfield 47, 3) := by decide +kernel
theorem dX6_numberHere_8 : decode cX6_numberHere 8 = .ok (.isub, 1) := by decide +kernel
theorem dX6_numberHere_9 : decode cX6_numberHere 9 = .ok (.iconst 2, 1) := by decide +kernel
theorem dX6_numberHere_10 : decode cX6_numberHere 10 = .ok (.if_icmp .le 6, 3) := by decide +kernel
theorem dX6_numberHere_13 : decode cX6_numberHere 13 = .ok (.bipush 6, 2) := by decide +kernel
theorem dX6_numberHere_15 : decode cX6_numberHere 15 = .ok (.ireturn, 1) := by decide +kernel
theorem dX6_numberHere_16 : decode cX6_numberHere 16 = .ok (.aload_n 0, 1) := by decide +kernel
theorem dX6_numberHere_17 : decode cX6_numberHere 17 = .ok (.iconst 0, 1) := by decide +kernel
theorem dX6_numberHere_18 : decode cX6_numberHere 18 = .ok (.putfield 50, 3) := by decide +kernel
theorem dX6_numberHere_21 : decode cX6_numberHere 21 = .ok (.aload_n 0, 1) := by decide +kernel
theorem dX6_numberHere_22 : decode cX6_numberHere 22 = .ok (.getfield 47, 3) := by decide +kernel
theorem dX6_numberHere_25 : decode cX6_numberHere 25 = .ok (.istore_n 1, 1) := by decide +kernel
theorem dX6_numberHere_26 : decode cX6_numberHere 26 = .ok (.iload_n 1, 1) := by decide +kernel
theorem dX6_numberHere_27 : decode cX6_numberHere 27 = .ok (.aload_n 0, 1) := by decide +kernel
theorem dX6_numberHere_28 : decode cX6_numberHere 28 = .ok (.getfield 28, 3) := by decide +kernel
theorem dX6_numberHere_31 : decode cX6_numberHere 31 = .ok (.if_icmp .ge 30, 3) := by decide +kernel
theorem dX6_numberHere_34 : decode cX6_numberHere 34 = .ok (.aload_n 0, 1) := by decide +kernel
theorem dX6_numberHere_35 : decode cX6_numberHere 35 = .ok (.bipush 10, 2) := by decide +kernel
theorem dX6_numberHere_37 : decode cX6_numberHere 37 = .ok (.aload_n 0, 1) := by decide +kernel
theorem dX6_numberHere_38 : decode cX6_numberHere 38 = .ok (.getfield 50, 3) := by decide +kernel
theorem dX6_numberHere_41 : decode cX6_numberHere 41 = .ok (.imul, 1) := by decide +kernel
theorem dX6_numberHere_42 : decode cX6_numberHere 42 = .ok (.aload_n 0, 1) := by decide +kernel
theorem dX6_numberHere_43 : decode cX6_numberHere 43 = .ok (.getfield 9, 3) := by decide +kernel
theorem dX6_numberHere_46 : decode cX6_numberHere 46 = .ok (.iload_n 1, 1) := by decide +kernel
theorem dX6_numberHere_47 : decode cX6_numberHere 47 = .ok (.iaload, 1) := by decide +kernel
theorem dX6_numberHere_48 : decode cX6_numberHere 48 = .ok (.iadd, 1) := by decide +kernel
theorem dX6_numberHere_49 : decode cX6_numberHere 49 = .ok (.bipush 48, 2) := by decide +kernel
theorem dX6_numberHere_51 : decode cX6_numberHere 51 = .ok (.isub, 1) := by decide +kernel
theorem dX6_numberHere_52 : decode cX6_numberHere 52 = .ok (.putfield 50, 3) := by decide +kernel
theorem dX6_numberHere_55 : decode cX6_numberHere 55 = .ok (.iinc 1 1, 3) := by decide +kernel
theorem dX6_numberHere_58 : decode cX6_numberHere 58 = .ok (.goto (-32), 3) := by decide +kernel
theorem dX6_numberHere_61 : decode cX6_numberHere 61 = .ok (.iconst 4, 1) := by decide +kernel
theorem dX6_numberHere_62 : decode cX6_numberHere 62 = .ok (.ireturn, 1) := by decide +kernel
theorem dX7_init_0 : decode cX7_init 0 = .ok (.aload_n 0, 1) := by decide +kernel
theorem dX7_init_1 : decode cX7_init 1 = .ok (.invokespecial 1, 3) := by decide +kernel
theorem dX7_init_4 : decode cX7_init 4 = .ok (.aload_n 0, 1) := by decide +kernel
theorem dX7_init_5 : decode cX7_init 5 = .ok (.new 7, 3) := by decide +kernel
theorem dX7_init_8 : decode cX7_init 8 = .ok (.dup, 1) := by decide +kernel
theorem dX7_init_9 : decode cX7_init 9 = .ok (.invokespecial 9, 3) := by decide +kernel
theorem dX7_init_12 : decode cX7_init 12 = .ok (.putfield 10, 3) := by decide +kernel
theorem dX7_init_15 : decode cX7_init 15 = .ok (.aload_n 0, 1) := by decide +kernel
theorem dX7_init_16 : decode cX7_init 16 = .ok (.new 7, 3) := by decide +kernel
theorem dX7_init_19 : decode cX7_init 19 = .ok (.dup, 1) := by decide +kernel
theorem dX7_init_20 : decode cX7_init 20 = .ok (.invokespecial 9, 3) := by decide +kernel
theorem dX7_init_23 : decode cX7_init 23 = .ok (.putfield 16, 3) := by decide +kernel
theorem dX7_init_26 : decode cX7_init 26 = .ok (.aload_n 0, 1) := by decide +kernel
theorem dX7_init_27 : decode cX7_init 27 = .ok (.iconst 2, 1) := by decide +kernel
theorem dX7_init_28 : decode cX7_init 28 = .ok (.anewarray 7, 3) := by decide +kernel
theorem dX7_init_31 : decode cX7_init 31 = .ok (.dup, 1) := by decide +kernel
theorem dX7_init_32 : decode cX7_init 32 = .ok (.iconst 0, 1) := by decide +kernel
theorem dX7_init_33 : decode cX7_init 33 = .ok (.new 7, 3) := by decide +kernel
theorem dX7_init_36 : decode cX7_init 36 = .ok (.dup, 1) := by decide +kernel
theorem dX7_init_37 : decode cX7_init 37 = .ok (.invokespecial 9, 3) := by decide +kernel
theorem dX7_init_40 : decode cX7_init 40 = .ok (.aastore, 1) := by decide +kernel
theorem dX7_init_41 : decode cX7_init 41 = .ok (.dup, 1) := by decide +kernel
theorem dX7_init_42 : decode cX7_init 42 = .ok (.iconst 1, 1) := by decide +kernel
theorem dX7_init_43 : decode cX7_init 43 = .ok (.new 7, 3) := by decide +kernel
theorem dX7_init_46 : decode cX7_init 46 = .ok (.dup, 1) := by decide +kernel
theorem dX7_init_47 : decode cX7_init 47 = .ok (.invokespecial 9, 3) := by decide +kernel
theorem dX7_init_50 : decode cX7_init 50 = .ok (.aastore, 1) := by decide +kernel
theorem dX7_init_51 : decode cX7_init 51 = .ok (.putfield 19, 3) := by decide +kernel
theorem dX7_init_54 : decode cX7_init 54 = .ok (.aload_n 0, 1) := by decide +kernel
theorem dX7_init_55 : decode cX7_init 55 = .ok (.iconst 2, 1) := by decide +kernel
theorem dX7_init_56 : decode cX7_init 56 = .ok (.newarray .boolean, 2) := by decide +kernel
theorem dX7_init_58 : decode cX7_init 58 = .ok (.putfield 23, 3) := by decide +kernel
theorem dX7_init_61 : decode cX7_init 61 = .ok (.aload_n 0, 1) := by decide +kernel
theorem dX7_init_62 : decode cX7_init 62 = .ok (.new 27, 3) := by decide +kernel
theorem dX7_init_65 : decode cX7_init 65 = .ok (.dup, 1) := by decide +kernel
theorem dX7_init_66 : decode cX7_init 66 = .ok (.invokespecial 29, 3) := by decide +kernel
theorem dX7_init_69 : decode cX7_init 69 = .ok (.putfield 30, 3) := by decide +kernel
theorem dX7_init_72 : decode cX7_init 72 = .ok (.aload_n 0, 1) := by decide +kernel
theorem dX7_init_73 : decode cX7_init 73 = .ok (.new 34, 3) := by decide +kernel
theorem dX7_init_76 : decode cX7_init 76 = .ok (.dup, 1) := by decide +kernel
theorem dX7_init_77 : decode cX7_init 77 = .ok (.invokespecial 36, 3) := by decide +kernel
theorem dX7_init_80 : decode cX7_init 80 = .ok (.putfield 37, 3) := by decide +kernel
theorem dX7_init_83 : decode cX7_init 83 = .ok (.aload_n 0, 1) := by decide +kernel
theorem dX7_init_84 : decode cX7_init 84 = .ok (.new 41, 3) := by decide +kernel
theorem dX7_init_87 : decode cX7_init 87 = .ok (.dup, 1) := by decide +kernel
theorem dX7_init_88 : decode cX7_init 88 = .ok (.invokespecial 43, 3) := by decide +kernel
theorem dX7_init_91 : decode cX7_init 91 = .ok (.putfield 44, 3) := by decide +kernel
theorem dX7_init_94 : decode cX7_init 94 = .ok (.aload_n 0, 1) := by decide +kernel
theorem dX7_init_95 : decode cX7_init 95 = .ok (.new 48, 3) := by decide +kernel
theorem dX7_init_98 : decode cX7_init 98 = .ok (.dup, 1) := by decide +kernel
theorem dX7_init_99 : decode cX7_init 99 = .ok (.invokespecial 50, 3) := by decide +kernel
theorem dX7_init_102 : decode cX7_init 102 = .ok (.putfield 51, 3) := by decide +kernel
theorem dX7_init_105 : decode cX7_init 105 = .ok (.aload_n 0, 1) := by decide +kernel
theorem dX7_init_106 : decode cX7_init 106 = .ok (.bipush 13, 2) := by decide +kernel
theorem dX7_init_108 : decode cX7_init 108 = .ok (.newarray .int, 2) := by decide +kernel
theorem dX7_init_110 : decode cX7_init 110 = .ok (.putfield 55, 3) := by decide +kernel
theorem dX7_init_113 : decode cX7_init 113 = .ok (.return_, 1) := by decide +kernel
theorem dX7_page_0 : decode cX7_page 0 = .ok (.iload_n 1, 1) := by decide +kernel
theorem dX7_page_1 : decode cX7_page 1 = .ok (.invokestatic 59, 3) := by decide +kernel
theorem dX7_page_4 : decode cX7_page 4 = .ok (.ifCond .eq 10, 3) := by decide +kernel
theorem dX7_page_7 : decode cX7_page 7 = .ok (.iload_n 2, 1) := by decide +kernel
theorem dX7_page_8 : decode cX7_page 8 = .ok (.invokestatic 63, 3) := by decide +kernel
theorem dX7_page_11 : decode cX7_page 11 = .ok (.ifCond .ne 10, 3) := by decide +kernel
theorem dX7_page_14 : decode cX7_page 14 = .ok (.aload_n 0, 1) := by decide +kernel
theorem dX7_page_15 : decode cX7_page 15 = .ok (.bipush (-2), 2) := by decide +kernel
theorem dX7_page_17 : decode cX7_page 17 = .ok (.invokevirtual 66, 3) := by decide +kernel
theorem dX7_page_20 : decode cX7_page 20 = .ok (.ireturn, 1) := by decide +kernel
theorem dX7_page_21 : decode cX7_page 21 = .ok (.aload_n 0, 1) := by decide +kernel
theorem dX7_page_22 : decode cX7_page 22 = .ok (.getfield 10, 3) := by decide +kernel
theorem dX7_page_25 : decode cX7_page 25 = .ok (.getfield 70, 3) := by decide +kernel
theorem dX7_page_28 : decode cX7_page 28 = .ok (.istore_n 3, 1) := by decide +kernel
theorem dX7_page_29 : decode cX7_page 29 = .ok (.aload_n 0, 1) := by decide +kernel
theorem dX7_page_30 : decode cX7_page 30 = .ok (.getfield 10, 3) := by decide +kernel
theorem dX7_page_33 : decode cX7_page 33 = .ok (.iload_n 1, 1) := by decide +kernel
theorem dX7_page_34 : decode cX7_page 34 = .ok (.iload_n 2, 1) := by decide +kernel
theorem dX7_page_35 : decode cX7_page 35 = .ok (.invokevirtual 74, 3) := by decide +kernel
theorem dX7_page_38 : decode cX7_page 38 = .ok (.iload_n 3, 1) := by decide +kernel
theorem dX7_page_39 : decode cX7_page 39 = .ok (.ireturn, 1) := by decide +kernel
theorem dX7_word_0 : decode cX7_word 0 = .ok (.iload_n 1, 1) := by decide +kernel
theorem dX7_word_1 : decode cX7_word 1 = .ok (.invokestatic 78, 3) := by decide +kernel
theorem dX7_word_4 : decode cX7_word 4 = .ok (.ifCond .ne 10, 3) := by decide +kernel
theorem dX7_word_7 : decode cX7_word 7 = .ok (.aload_n 0, 1) := by decide +kernel
theorem dX7_word_8 : decode cX7_word 8 = .ok (.bipush (-2), 2) := by decide +kernel
theorem dX7_word_10 : decode cX7_word 10 = .ok (.invokevirtual 66, 3) := by decide +kernel
theorem dX7_word_13 : decode cX7_word 13 = .ok (.ireturn, 1) := by decide +kernel
theorem dX7_word_14 : decode cX7_word 14 = .ok (.aload_n 0, 1) := by decide +kernel
theorem dX7_word_15 : decode cX7_word 15 = .ok (.getfield 10, 3) := by decide +kernel
theorem dX7_word_18 : decode cX7_word 18 = .ok (.invokevirtual 81, 3) := by decide +kernel
theorem dX7_word_21 : decode cX7_word 21 = .ok (.ifCond .ne 10, 3) := by decide +kernel
theorem dX7_word_24 : decode cX7_word 24 = .ok (.aload_n 0, 1) := by decide +kernel
theorem dX7_word_25 : decode cX7_word 25 = .ok (.bipush (-4), 2) := by decide +kernel
theorem dX7_word_27 : decode cX7_word 27 = .ok (.invokevirtual 85, 3) := by decide +kernel
theorem dX7_word_30 : decode cX7_word 30 = .ok (.ireturn, 1) := by decide +kernel
theorem dX7_word_31 : decode cX7_word 31 = .ok (.aload_n 0, 1) := by decide +kernel
theorem dX7_word_32 : decode cX7_word 32 = .ok (.getfield 10, 3) := by decide +kernel
theorem dX7_word_35 : decode cX7_word 35 = .ok (.iload_n 1, 1) := by decide +kernel
theorem dX7_word_36 : decode cX7_word 36 = .ok (.invokevirtual 88, 3) := by decide +kernel
theorem dX7_word_39 : decode cX7_word 39 = .ok (.aload_n 0, 1) := by decide +kernel
theorem dX7_word_40 : decode cX7_word 40 = .ok (.getfield 10, 3) := by decide +kernel
theorem dX7_word_43 : decode cX7_word 43 = .ok (.getfield 70, 3) := by decide +kernel
theorem dX7_word_46 : decode cX7_word 46 = .ok (.iconst 1, 1) := by decide +kernel
theorem dX7_word_47 : decode cX7_word 47 = .ok (.isub, 1) := by decide +kernel
theorem dX7_word_48 : decode cX7_word 48 = .ok (.ireturn, 1) := by decide +kernel
theorem dX7_breath_0 : decode cX7_breath 0 = .ok (.iload_n 1, 1) := by decide +kernel
theorem dX7_breath_1 : decode cX7_breath 1 = .ok (.invokestatic 59, 3) := by decide +kernel
theorem dX7_breath_4 : decode cX7_breath 4 = .ok (.ifCond .ne 10, 3) := by decide +kernel
theorem dX7_breath_7 : decode cX7_breath 7 = .ok (.aload_n 0, 1) := by decide +kernel
theorem dX7_breath_8 : decode cX7_breath 8 = .ok (.bipush (-2), 2) := by decide +kernel
theorem dX7_breath_10 : decode cX7_breath 10 = .ok (.invokevirtual 66, 3) := by decide +kernel
theorem dX7_breath_13 : decode cX7_breath 13 = .ok (.ireturn, 1) := by decide +kernel
theorem dX7_breath_14 : decode cX7_breath 14 = .ok (.aload_n 0, 1) := by decide +kernel
theorem dX7_breath_15 : decode cX7_breath 15 = .ok (.getfield 10, 3) := by decide +kernel
theorem dX7_breath_18 : decode cX7_breath 18 = .ok (.getfield 92, 3) := by decide +kernel
theorem dX7_breath_21 : decode cX7_breath 21 = .ok (.istore_n 2, 1) := by decide +kernel
theorem dX7_breath_22 : decode cX7_breath 22 = .ok (.aload_n 0, 1) := by decide +kernel
theorem dX7_breath_23 : decode cX7_breath 23 = .ok (.getfield 10, 3) := by decide +kernel
theorem dX7_breath_26 : decode cX7_breath 26 = .ok (.iload_n 1, 1) := by decide +kernel
theorem dX7_breath_27 : decode cX7_breath 27 = .ok (.putfield 92, 3) := by decide +kernel
theorem dX7_breath_30 : decode cX7_breath 30 = .ok (.iload_n 2, 1) := by decide +kernel
theorem dX7_breath_31 : decode cX7_breath 31 = .ok (.ireturn, 1) := by decide +kernel
theorem dX7_price_0 : decode cX7_price 0 = .ok (.iload_n 1, 1) := by decide +kernel
theorem dX7_price_1 : decode cX7_price 1 = .ok (.invokestatic 63, 3) := by decide +kernel
theorem dX7_price_4 : decode cX7_price 4 = .ok (.ifCond .ne 10, 3) := by decide +kernel
theorem dX7_price_7 : decode cX7_price 7 = .ok (.aload_n 0, 1) := by decide +kernel
theorem dX7_price_8 : decode cX7_price 8 = .ok (.bipush (-2), 2) := by decide +kernel
theorem dX7_price_10 : decode cX7_price 10 = .ok (.invokevirtual 66, 3) := by decide +kernel
theorem dX7_price_13 : decode cX7_price 13 = .ok (.ireturn, 1) := by decide +kernel
theorem dX7_price_14 : decode cX7_price 14 = .ok (.aload_n 0, 1) := by decide +kernel
theorem dX7_price_15 : decode cX7_price 15 = .ok (.getfield 10, 3) := by decide +kernel
theorem dX7_price_18 : decode cX7_price 18 = .ok (.getfield 95, 3) := by decide +kernel
theorem dX7_price_21 : decode cX7_price 21 = .ok (.istore_n 2, 1) := by decide +kernel
theorem dX7_price_22 : decode cX7_price 22 = .ok (.aload_n 0, 1) := by decide +kernel
theorem dX7_price_23 : decode cX7_price 23 = .ok (.getfield 10, 3) := by decide +kernel
theorem dX7_price_26 : decode cX7_price 26 = .ok (.iload_n 1, 1) := by decide +kernel
theorem dX7_price_27 : decode cX7_price 27 = .ok (.putfield 95, 3) := by decide +kernel
theorem dX7_price_30 : decode cX7_price 30 = .ok (.iload_n 2, 1) := by decide +kernel
theorem dX7_price_31 : decode cX7_price 31 = .ok (.ireturn, 1) := by decide +kernel
theorem dX7_purse_0 : decode cX7_purse 0 = .ok (.iload_n 1, 1) := by decide +kernel
theorem dX7_purse_1 : decode cX7_purse 1 = .ok (.iconst 0, 1) := by decide +kernel
theorem dX7_purse_2 : decode cX7_purse 2 = .ok (.sipush 999, 3) := by decide +kernel
theorem dX7_purse_5 : decode cX7_purse 5 = .ok (.invokestatic 98, 3) := by decide +kernel
theorem dX7_purse_8 : decode cX7_purse 8 = .ok (.ifCond .ne 10, 3) := by decide +kernel
theorem dX7_purse_11 : decode cX7_purse 11 = .ok (.aload_n 0, 1) := by decide +kernel
theorem dX7_purse_12 : decode cX7_purse 12 = .ok (.bipush (-2), 2) := by decide +kernel
theorem dX7_purse_14 : decode cX7_purse 14 = .ok (.invokevirtual 66, 3) := by decide +kernel
theorem dX7_purse_17 : decode cX7_purse 17 = .ok (.ireturn, 1) := by decide +kernel
theorem dX7_purse_18 : decode cX7_purse 18 = .ok (.aload_n 0, 1) := by decide +kernel
theorem dX7_purse_19 : decode cX7_purse 19 = .ok (.getfield 10, 3) := by decide +kernel
theorem dX7_purse_22 : decode cX7_purse 22 = .ok (.getfield 102, 3) := by decide +kernel
theorem dX7_purse_25 : decode cX7_purse 25 = .ok (.getfield 106, 3) := by decide +kernel
theorem dX7_purse_28 : decode cX7_purse 28 = .ok (.istore_n 2, 1) := by decide +kernel
theorem dX7_purse_29 : decode cX7_purse 29 = .ok (.aload_n 0, 1) := by decide +kernel
theorem dX7_purse_30 : decode cX7_purse 30 = .ok (.getfield 10, 3) := by decide +kernel
theorem dX7_purse_33 : decode cX7_purse 33 = .ok (.getfield 102, 3) := by decide +kernel
theorem dX7_purse_36 : decode cX7_purse 36 = .ok (.iload_n 1, 1) := by decide +kernel
theorem dX7_purse_37 : decode cX7_purse 37 = .ok (.putfield 106, 3) := by decide +kernel
theorem dX7_purse_40 : decode cX7_purse 40 = .ok (.iload_n 2, 1) := by decide +kernel
theorem dX7_purse_41 : decode cX7_purse 41 = .ok (.ireturn, 1) := by decide +kernel
theorem dX7_put_0 : decode cX7_put 0 = .ok (.aload_n 0, 1) := by decide +kernel
theorem dX7_put_1 : decode cX7_put 1 = .ok (.getfield 10, 3) := by decide +kernel
theorem dX7_put_4 : decode cX7_put 4 = .ok (.iload_n 1, 1) := by decide +kernel
theorem dX7_put_5 : decode cX7_put 5 = .ok (.invokevirtual 111, 3) := by decide +kernel
theorem dX7_put_8 : decode cX7_put 8 = .ok (.ifCond .eq 10, 3) := by decide +kernel
theorem dX7_put_11 : decode cX7_put 11 = .ok (.iload_n 2, 1) := by decide +kernel
theorem dX7_put_12 : decode cX7_put 12 = .ok (.invokestatic 114, 3) := by decide +kernel
theorem dX7_put_15 : decode cX7_put 15 = .ok (.ifCond .ne 10, 3) := by decide +kernel
theorem dX7_put_18 : decode cX7_put 18 = .ok (.aload_n 0, 1) := by decide +kernel
theorem dX7_put_19 : decode cX7_put 19 = .ok (.bipush (-10), 2) := by decide +kernel
theorem dX7_put_21 : decode cX7_put 21 = .ok (.invokevirtual 66, 3) := by decide +kernel
theorem dX7_put_24 : decode cX7_put 24 = .ok (.ireturn, 1) := by decide +kernel
theorem dX7_put_25 : decode cX7_put 25 = .ok (.aload_n 0, 1) := by decide +kernel
theorem dX7_put_26 : decode cX7_put 26 = .ok (.getfield 10, 3) := by decide +kernel
theorem dX7_put_29 : decode cX7_put 29 = .ok (.getfield 102, 3) := by decide +kernel
theorem dX7_put_32 : decode cX7_put 32 = .ok (.getfield 119, 3) := by decide +kernel
theorem dX7_put_35 : decode cX7_put 35 = .ok (.iload_n 1, 1) := by decide +kernel
theorem dX7_put_36 : decode cX7_put 36 = .ok (.iaload, 1) := by decide +kernel
theorem dX7_put_37 : decode cX7_put 37 = .ok (.istore_n 3, 1) := by decide +kernel
theorem dX7_put_38 : decode cX7_put 38 = .ok (.aload_n 0, 1) := by decide +kernel
theorem dX7_put_39 : decode cX7_put 39 = .ok (.getfield 10, 3) := by decide +kernel
theorem dX7_put_42 : decode cX7_put 42 = .ok (.iload_n 1, 1) := by decide +kernel
theorem dX7_put_43 : decode cX7_put 43 = .ok (.iload_n 2, 1) := by decide +kernel
theorem dX7_put_44 : decode cX7_put 44 = .ok (.invokevirtual 122, 3) := by decide +kernel
theorem dX7_put_47 : decode cX7_put 47 = .ok (.iload_n 3, 1) := by decide +kernel
theorem dX7_put_48 : decode cX7_put 48 = .ok (.ireturn, 1) := by decide +kernel
theorem dX7_type_0 : decode cX7_type 0 = .ok (.iload_n 1, 1) := by decide +kernel
theorem dX7_type_1 : decode cX7_type 1 = .ok (.iconst 0, 1) := by decide +kernel
theorem dX7_type_2 : decode cX7_type 2 = .ok (.bipush 127, 2) := by decide +kernel
theorem dX7_type_4 : decode cX7_type 4 = .ok (.invokestatic 98, 3) := by decide +kernel
theorem dX7_type_7 : decode cX7_type 7 = .ok (.ifCond .ne 10, 3) := by decide +kernel
theorem dX7_type_10 : decode cX7_type 10 = .ok (.aload_n 0, 1) := by decide +kernel
theorem dX7_type_11 : decode cX7_type 11 = .ok (.bipush (-2), 2) := by decide +kernel
theorem dX7_type_13 : decode cX7_type 13 = .ok (.invokevirtual 66, 3) := by decide +kernel
theorem dX7_type_16 : decode cX7_type 16 = .ok (.ireturn, 1) := by decide +kernel
theorem dX7_type_17 : decode cX7_type 17 = .ok (.aload_n 0, 1) := by decide +kernel
theorem dX7_type_18 : decode cX7_type 18 = .ok (.getfield 30, 3) := by decide +kernel
theorem dX7_type_21 : decode cX7_type 21 = .ok (.getfield 125, 3) := by decide +kernel
theorem dX7_type_24 : decode cX7_type 24 = .ok (.sipush 150, 3) := by decide +kernel
theorem dX7_type_27 : decode cX7_type 27 = .ok (.if_icmp .lt 10, 3) := by decide +kernel
theorem dX7_type_30 : decode cX7_type 30 = .ok (.aload_n 0, 1) := by decide +kernel
theorem dX7_type_31 : decode cX7_type 31 = .ok (.bipush (-4), 2) := by decide +kernel
theorem dX7_type_33 : decode cX7_type 33 = .ok (.invokevirtual 85, 3) := by decide +kernel
theorem dX7_type_36 : decode cX7_type 36 = .ok (.ireturn, 1) := by decide +kernel
theorem dX7_type_37 : decode cX7_type 37 = .ok (.aload_n 0, 1) := by decide +kernel
theorem dX7_type_38 : decode cX7_type 38 = .ok (.getfield 30, 3) := by decide +kernel
theorem dX7_type_41 : decode cX7_type 41 = .ok (.iload_n 1, 1) := by decide +kernel
theorem dX7_type_42 : decode cX7_type 42 = .ok (.invokevirtual 128, 3) := by decide +kernel
theorem dX7_type_45 : decode cX7_type 45 = .ok (.aload_n 0, 1) := by decide +kernel
theorem dX7_type_46 : decode cX7_type 46 = .ok (.getfield 30, 3) := by decide +kernel
theorem dX7_type_49 : decode cX7_type 49 = .ok (.getfield 125, 3) := by decide +kernel
theorem dX7_type_52 : decode cX7_type 52 = .ok (.ireturn, 1) := by decide +kernel
theorem dX7_clear_0 : decode cX7_clear 0 = .ok (.aload_n 0, 1) := by decide +kernel
theorem dX7_clear_1 : decode cX7_clear 1 = .ok (.getfield 30, 3) := by decide +kernel
theorem dX7_clear_4 : decode cX7_clear 4 = .ok (.getfield 125, 3) := by decide +kernel
theorem dX7_clear_7 : decode cX7_clear 7 = .ok (.istore_n 1, 1) := by decide +kernel
theorem dX7_clear_8 : decode cX7_clear 8 = .ok (.aload_n 0, 1) := by decide +kernel
theorem dX7_clear_9 : decode cX7_clear 9 = .ok (.getfield 30, 3) := by decide +kernel
theorem dX7_clear_12 : decode cX7_clear 12 = .ok (.iconst 0, 1) := by decide +kernel
theorem dX7_clear_13 : decode cX7_clear 13 = .ok (.putfield 125, 3) := by decide +kernel
theorem dX7_clear_16 : decode cX7_clear 16 = .ok (.iload_n 1, 1) := by decide +kernel
theorem dX7_clear_17 : decode cX7_clear 17 = .ok (.ireturn, 1) := by decide +kernel
theorem dX7_read_0 : decode cX7_read 0 = .ok (.aload_n 0, 1) := by decide +kernel
theorem dX7_read_1 : decode cX7_read 1 = .ok (.getfield 30, 3) := by decide +kernel
theorem dX7_read_4 : decode cX7_read 4 = .ok (.invokevirtual 131, 3) := by decide +kernel
theorem dX7_read_7 : decode cX7_read 7 = .ok (.istore_n 1, 1) := by decide +kernel
theorem dX7_read_8 : decode cX7_read 8 = .ok (.iload_n 1, 1) := by decide +kernel
theorem dX7_read_9 : decode cX7_read 9 = .ok (.iconst (-1), 1) := by decide +kernel
theorem dX7_read_10 : decode cX7_read 10 = .ok (.if_icmp .eq 8, 3) := by decide +kernel
theorem dX7_read_13 : decode cX7_read 13 = .ok (.bipush (-10), 2) := by decide +kernel
theorem dX7_read_15 : decode cX7_read 15 = .ok (.iload_n 1, 1) := by decide +kernel
theorem dX7_read_16 : decode cX7_read 16 = .ok (.isub, 1) := by decide +kernel
theorem dX7_read_17 : decode cX7_read 17 = .ok (.ireturn, 1) := by decide +kernel
theorem dX7_read_18 : decode cX7_read 18 = .ok (.iconst 0, 1) := by decide +kernel
theorem dX7_read_19 : decode cX7_read 19 = .ok (.istore_n 2, 1) := by decide +kernel
theorem dX7_read_20 : decode cX7_read 20 = .ok (.iload_n 2, 1) := by decide +kernel
theorem dX7_read_21 : decode cX7_read 21 = .ok (.aload_n 0, 1) := by decide +kernel
theorem dX7_read_22 : decode cX7_read 22 = .ok (.getfield 30, 3) := by decide +kernel
theorem dX7_read_25 : decode cX7_read 25 = .ok (.getfield 135, 3) := by decide +kernel
theorem dX7_read_28 : decode cX7_read 28 = .ok (.if_icmp .ge 23, 3) := by decide +kernel
theorem dX7_read_31 : decode cX7_read 31 = .ok (.aload_n 0, 1) := by decide +kernel
theorem dX7_read_32 : decode cX7_read 32 = .ok (.iload_n 2, 1) := by decide +kernel
theorem dX7_read_33 : decode cX7_read 33 = .ok (.invokevirtual 138, 3) := by decide +kernel
theorem dX7_read_36 : decode cX7_read 36 = .ok (.ifCond .ne 9, 3) := by decide +kernel
theorem dX7_read_39 : decode cX7_read 39 = .ok (.sipush (-1000), 3) := by decide +kernel
theorem dX7_read_42 : decode cX7_read 42 = .ok (.iload_n 2, 1) := by decide +kernel
theorem dX7_read_43 : decode cX7_read 43 = .ok (.isub, 1) := by decide +kernel
theorem dX7_read_44 : decode cX7_read 44 = .ok (.ireturn, 1) := by decide +kernel
theorem dX7_read_45 : decode cX7_read 45 = .ok (.iinc 2 1, 3) := by decide +kernel
theorem dX7_read_48 : decode cX7_read 48 = .ok (.goto (-28), 3) := by decide +kernel
theorem dX7_read_51 : decode cX7_read 51 = .ok (.aload_n 0, 1) := by decide +kernel
theorem dX7_read_52 : decode cX7_read 52 = .ok (.getfield 10, 3) := by decide +kernel
theorem dX7_read_55 : decode cX7_read 55 = .ok (.aload_n 0, 1) := by decide +kernel
theorem dX7_read_56 : decode cX7_read 56 = .ok (.getfield 16, 3) := by decide +kernel
theorem dX7_read_59 : decode cX7_read 59 = .ok (.invokevirtual 141, 3) := by decide +kernel
theorem dX7_read_62 : decode cX7_read 62 = .ok (.aload_n 0, 1) := by decide +kernel
theorem dX7_read_63 : decode cX7_read 63 = .ok (.getfield 30, 3) := by decide +kernel
theorem dX7_read_66 : decode cX7_read 66 = .ok (.getfield 135, 3) := by decide +kernel
theorem dX7_read_69 : decode cX7_read 69 = .ok (.ireturn, 1) := by decide +kernel
theorem dX7_buy_0 : decode cX7_buy 0 = .ok (.aload_n 0, 1) := by decide +kernel
theorem dX7_buy_1 : decode cX7_buy 1 = .ok (.getfield 10, 3) := by decide +kernel
theorem dX7_buy_4 : decode cX7_buy 4 = .ok (.iload_n 1, 1) := by decide +kernel
theorem dX7_buy_5 : decode cX7_buy 5 = .ok (.invokevirtual 111, 3) := by decide +kernel
theorem dX7_buy_8 : decode cX7_buy 8 = .ok (.ifCond .eq 10, 3) := by decide +kernel
theorem dX7_buy_11 : decode cX7_buy 11 = .ok (.iload_n 2, 1) := by decide +kernel
theorem dX7_buy_12 : decode cX7_buy 12 = .ok (.invokestatic 114, 3) := by decide +kernel
theorem dX7_buy_15 : decode cX7_buy 15 = .ok (.ifCond .ne 10, 3) := by decide +kernel
theorem dX7_buy_18 : decode cX7_buy 18 = .ok (.aload_n 0, 1) := by decide +kernel
theorem dX7_buy_19 : decode cX7_buy 19 = .ok (.bipush (-2), 2) := by decide +kernel
theorem dX7_buy_21 : decode cX7_buy 21 = .ok (.invokevirtual 66, 3) := by decide +kernel
theorem dX7_buy_24 : decode cX7_buy 24 = .ok (.ireturn, 1) := by decide +kernel
theorem dX7_buy_25 : decode cX7_buy 25 = .ok (.aload_n 0, 1) := by decide +kernel
theorem dX7_buy_26 : decode cX7_buy 26 = .ok (.getfield 10, 3) := by decide +kernel
theorem dX7_buy_29 : decode cX7_buy 29 = .ok (.iload_n 2, 1) := by decide +kernel
theorem dX7_buy_30 : decode cX7_buy 30 = .ok (.invokevirtual 145, 3) := by decide +kernel
theorem dX7_buy_33 : decode cX7_buy 33 = .ok (.istore_n 3, 1) := by decide +kernel
theorem dX7_buy_34 : decode cX7_buy 34 = .ok (.aload_n 0, 1) := by decide +kernel
theorem dX7_buy_35 : decode cX7_buy 35 = .ok (.getfield 10, 3) := by decide +kernel
theorem dX7_buy_38 : decode cX7_buy 38 = .ok (.getfield 102, 3) := by decide +kernel
theorem dX7_buy_41 : decode cX7_buy 41 = .ok (.getfield 119, 3) := by decide +kernel
theorem dX7_buy_44 : decode cX7_buy 44 = .ok (.iload_n 1, 1) := by decide +kernel
theorem dX7_buy_45 : decode cX7_buy 45 = .ok (.iaload, 1) := by decide +kernel
theorem dX7_buy_46 : decode cX7_buy 46 = .ok (.iconst (-1), 1) := by decide +kernel
theorem dX7_buy_47 : decode cX7_buy 47 = .ok (.if_icmp .ne 17, 3) := by decide +kernel
theorem dX7_buy_50 : decode cX7_buy 50 = .ok (.aload_n 0, 1) := by decide +kernel
theorem dX7_buy_51 : decode cX7_buy 51 = .ok (.getfield 10, 3) := by decide +kernel
theorem dX7_buy_54 : decode cX7_buy 54 = .ok (.getfield 102, 3) := by decide +kernel
theorem dX7_buy_57 : decode cX7_buy 57 = .ok (.getfield 106, 3) := by decide +kernel
theorem dX7_buy_60 : decode cX7_buy 60 = .ok (.iload_n 3, 1) := by decide +kernel
theorem dX7_buy_61 : decode cX7_buy 61 = .ok (.if_icmp .ge 10, 3) := by decide +kernel
theorem dX7_buy_64 : decode cX7_buy 64 = .ok (.aload_n 0, 1) := by decide +kernel
theorem dX7_buy_65 : decode cX7_buy 65 = .ok (.bipush (-3), 2) := by decide +kernel
theorem dX7_buy_67 : decode cX7_buy 67 = .ok (.invokevirtual 148, 3) := by decide +kernel
theorem dX7_buy_70 : decode cX7_buy 70 = .ok (.ireturn, 1) := by decide +kernel
theorem dX7_buy_71 : decode cX7_buy 71 = .ok (.aload_n 0, 1) := by decide +kernel
theorem dX7_buy_72 : decode cX7_buy 72 = .ok (.getfield 10, 3) := by decide +kernel
theorem dX7_buy_75 : decode cX7_buy 75 = .ok (.invokevirtual 151, 3) := by decide +kernel
theorem dX7_buy_78 : decode cX7_buy 78 = .ok (.aload_n 0, 1) := by decide +kernel
theorem dX7_buy_79 : decode cX7_buy 79 = .ok (.getfield 10, 3) := by decide +kernel
theorem dX7_buy_82 : decode cX7_buy 82 = .ok (.getfield 102, 3) := by decide +kernel
theorem dX7_buy_85 : decode cX7_buy 85 = .ok (.iload_n 1, 1) := by decide +kernel
theorem dX7_buy_86 : decode cX7_buy 86 = .ok (.iload_n 2, 1) := by decide +kernel
theorem dX7_buy_87 : decode cX7_buy 87 = .ok (.invokevirtual 154, 3) := by decide +kernel
theorem dX7_buy_90 : decode cX7_buy 90 = .ok (.aload_n 0, 1) := by decide +kernel
theorem dX7_buy_91 : decode cX7_buy 91 = .ok (.getfield 10, 3) := by decide +kernel
theorem dX7_buy_94 : decode cX7_buy 94 = .ok (.getfield 102, 3) := by decide +kernel
theorem dX7_buy_97 : decode cX7_buy 97 = .ok (.dup, 1) := by decide +kernel
theorem dX7_buy_98 : decode cX7_buy 98 = .ok (.getfield 106, 3) := by decide +kernel
theorem dX7_buy_101 : decode cX7_buy 101 = .ok (.iload_n 3, 1) := by decide +kernel
theorem dX7_buy_102 : decode cX7_buy 102 = .ok (.isub, 1) := by decide +kernel
theorem dX7_buy_103 : decode cX7_buy 103 = .ok (.putfield 106, 3) := by decide +kernel
theorem dX7_buy_106 : decode cX7_buy 106 = .ok (.iload_n 3, 1) := by decide +kernel
theorem dX7_buy_107 : decode cX7_buy 107 = .ok (.ireturn, 1) := by decide +kernel
theorem dX7_sell_0 : decode cX7_sell 0 = .ok (.aload_n 0, 1) := by decide +kernel
theorem dX7_sell_1 : decode cX7_sell 1 = .ok (.getfield 10, 3) := by decide +kernel
theorem dX7_sell_4 : decode cX7_sell 4 = .ok (.iload_n 1, 1) := by decide +kernel
theorem dX7_sell_5 : decode cX7_sell 5 = .ok (.invokevirtual 111, 3) := by decide +kernel
theorem dX7_sell_8 : decode cX7_sell 8 = .ok (.ifCond .ne 10, 3) := by decide +kernel
theorem dX7_sell_11 : decode cX7_sell 11 = .ok (.aload_n 0, 1) := by decide +kernel
theorem dX7_sell_12 : decode cX7_sell 12 = .ok (.bipush (-2), 2) := by decide +kernel
theorem dX7_sell_14 : decode cX7_sell 14 = .ok (.invokevirtual 66, 3) := by decide +kernel
theorem dX7_sell_17 : decode cX7_sell 17 = .ok (.ireturn, 1) := by decide +kernel
theorem dX7_sell_18 : decode cX7_sell 18 = .ok (.aload_n 0, 1) := by decide +kernel
theorem dX7_sell_19 : decode cX7_sell 19 = .ok (.getfield 10, 3) := by decide +kernel
theorem dX7_sell_22 : decode cX7_sell 22 = .ok (.getfield 102, 3) := by decide +kernel
theorem dX7_sell_25 : decode cX7_sell 25 = .ok (.getfield 119, 3) := by decide +kernel
theorem dX7_sell_28 : decode cX7_sell 28 = .ok (.iload_n 1, 1) := by decide +kernel
theorem dX7_sell_29 : decode cX7_sell 29 = .ok (.iaload, 1) := by decide +kernel
theorem dX7_sell_30 : decode cX7_sell 30 = .ok (.iconst (-1), 1) := by decide +kernel
theorem dX7_sell_31 : decode cX7_sell 31 = .ok (.if_icmp .ne 10, 3) := by decide +kernel
theorem dX7_sell_34 : decode cX7_sell 34 = .ok (.aload_n 0, 1) := by decide +kernel
theorem dX7_sell_35 : decode cX7_sell 35 = .ok (.bipush (-3), 2) := by decide +kernel
theorem dX7_sell_37 : decode cX7_sell 37 = .ok (.invokevirtual 148, 3) := by decide +kernel
theorem dX7_sell_40 : decode cX7_sell 40 = .ok (.ireturn, 1) := by decide +kernel
theorem dX7_sell_41 : decode cX7_sell 41 = .ok (.aload_n 0, 1) := by decide +kernel
theorem dX7_sell_42 : decode cX7_sell 42 = .ok (.getfield 10, 3) := by decide +kernel
theorem dX7_sell_45 : decode cX7_sell 45 = .ok (.aload_n 0, 1) := by decide +kernel
theorem dX7_sell_46 : decode cX7_sell 46 = .ok (.getfield 10, 3) := by decide +kernel
theorem dX7_sell_49 : decode cX7_sell 49 = .ok (.getfield 102, 3) := by decide +kernel
theorem dX7_sell_52 : decode cX7_sell 52 = .ok (.getfield 119, 3) := by decide +kernel
theorem dX7_sell_55 : decode cX7_sell 55 = .ok (.iload_n 1, 1) := by decide +kernel
theorem dX7_sell_56 : decode cX7_sell 56 = .ok (.iaload, 1) := by decide +kernel
theorem dX7_sell_57 : decode cX7_sell 57 = .ok (.invokevirtual 145, 3) := by decide +kernel
theorem dX7_sell_60 : decode cX7_sell 60 = .ok (.iconst 2, 1) := by decide +kernel
theorem dX7_sell_61 : decode cX7_sell 61 = .ok (.idiv, 1) := by decide +kernel
theorem dX7_sell_62 : decode cX7_sell 62 = .ok (.istore_n 2, 1) := by decide +kernel
theorem dX7_sell_63 : decode cX7_sell 63 = .ok (.aload_n 0, 1) := by decide +kernel
theorem dX7_sell_64 : decode cX7_sell 64 = .ok (.getfield 10, 3) := by decide +kernel
theorem dX7_sell_67 : decode cX7_sell 67 = .ok (.invokevirtual 151, 3) := by decide +kernel
theorem dX7_sell_70 : decode cX7_sell 70 = .ok (.aload_n 0, 1) := by decide +kernel
theorem dX7_sell_71 : decode cX7_sell 71 = .ok (.getfield 10, 3) := by decide +kernel
theorem dX7_sell_74 : decode cX7_sell 74 = .ok (.getfield 102, 3) := by decide +kernel
theorem dX7_sell_77 : decode cX7_sell 77 = .ok (.iload_n 1, 1) := by decide +kernel
theorem dX7_sell_78 : decode cX7_sell 78 = .ok (.iconst (-1), 1) := by decide +kernel
theorem dX7_sell_79 : decode cX7_sell 79 = .ok (.invokevirtual 154, 3) := by decide +kernel
theorem dX7_sell_82 : decode cX7_sell 82 = .ok (.aload_n 0, 1) := by decide +kernel
theorem dX7_sell_83 : decode cX7_sell 83 = .ok (.getfield 10, 3) := by decide +kernel
theorem dX7_sell_86 : decode cX7_sell 86 = .ok (.getfield 102, 3) := by decide +kernel
theorem dX7_sell_89 : decode cX7_sell 89 = .ok (.aload_n 0, 1) := by decide +kernel
theorem dX7_sell_90 : decode cX7_sell 90 = .ok (.getfield 10, 3) := by decide +kernel
theorem dX7_sell_93 : decode cX7_sell 93 = .ok (.getfield 102, 3) := by decide +kernel
theorem dX7_sell_96 : decode cX7_sell 96 = .ok (.getfield 106, 3) := by decide +kernel
theorem dX7_sell_99 : decode cX7_sell 99 = .ok (.iload_n 2, 1) := by decide +kernel
theorem dX7_sell_100 : decode cX7_sell 100 = .ok (.iadd, 1) := by decide +kernel
theorem dX7_sell_101 : decode cX7_sell 101 = .ok (.sipush 999, 3) := by decide +kernel
theorem dX7_sell_104 : decode cX7_sell 104 = .ok (.invokestatic 157, 3) := by decide +kernel
theorem dX7_sell_107 : decode cX7_sell 107 = .ok (.putfield 106, 3) := by decide +kernel
theorem dX7_sell_110 : decode cX7_sell 110 = .ok (.iload_n 2, 1) := by decide +kernel
theorem dX7_sell_111 : decode cX7_sell 111 = .ok (.ireturn, 1) := by decide +kernel
theorem dX7_readOut_0 : decode cX7_readOut 0 = .ok (.aload_n 0, 1) := by decide +kernel
theorem dX7_readOut_1 : decode cX7_readOut 1 = .ok (.getfield 10, 3) := by decide +kernel
theorem dX7_readOut_4 : decode cX7_readOut 4 = .ok (.invokevirtual 151, 3) := by decide +kernel
theorem dX7_readOut_7 : decode cX7_readOut 7 = .ok (.aload_n 0, 1) := by decide +kernel
theorem dX7_readOut_8 : decode cX7_readOut 8 = .ok (.getfield 10, 3) := by decide +kernel
theorem dX7_readOut_11 : decode cX7_readOut 11 = .ok (.invokevirtual 163, 3) := by decide +kernel
theorem dX7_readOut_14 : decode cX7_readOut 14 = .ok (.ireturn, 1) := by decide +kernel
theorem dX7_week_0 : decode cX7_week 0 = .ok (.iload_n 1, 1) := by decide +kernel
theorem dX7_week_1 : decode cX7_week 1 = .ok (.iconst 1, 1) := by decide +kernel
theorem dX7_week_2 : decode cX7_week 2 = .ok (.bipush 20, 2) := by decide +kernel
theorem dX7_week_4 : decode cX7_week 4 = .ok (.invokestatic 98, 3) := by decide +kernel
theorem dX7_week_7 : decode cX7_week 7 = .ok (.ifCond .ne 10, 3) := by decide +kernel
theorem dX7_week_10 : decode cX7_week 10 = .ok (.aload_n 0, 1) := by decide +kernel
theorem dX7_week_11 : decode cX7_week 11 = .ok (.bipush (-2), 2) := by decide +kernel
theorem dX7_week_13 : decode cX7_week 13 = .ok (.invokevirtual 66, 3) := by decide +kernel
theorem dX7_week_16 : decode cX7_week 16 = .ok (.ireturn, 1) := by decide +kernel
theorem dX7_week_17 : decode cX7_week 17 = .ok (.aload_n 0, 1) := by decide +kernel
theorem dX7_week_18 : decode cX7_week 18 = .ok (.getfield 10, 3) := by decide +kernel
theorem dX7_week_21 : decode cX7_week 21 = .ok (.invokevirtual 151, 3) := by decide +kernel
theorem dX7_week_24 : decode cX7_week 24 = .ok (.aload_n 0, 1) := by decide +kernel
theorem dX7_week_25 : decode cX7_week 25 = .ok (.getfield 10, 3) := by decide +kernel
theorem dX7_week_28 : decode cX7_week 28 = .ok (.getfield 102, 3) := by decide +kernel
theorem dX7_week_31 : decode cX7_week 31 = .ok (.dup, 1) := by decide +kernel
theorem dX7_week_32 : decode cX7_week 32 = .ok (.getfield 166, 3) := by decide +kernel
theorem dX7_week_35 : decode cX7_week 35 = .ok (.iload_n 1, 1) := by decide +kernel
theorem dX7_week_36 : decode cX7_week 36 = .ok (.iadd, 1) := by decide +kernel
theorem dX7_week_37 : decode cX7_week 37 = .ok (.putfield 166, 3) := by decide +kernel
theorem dX7_week_40 : decode cX7_week 40 = .ok (.aload_n 0, 1) := by decide +kernel
theorem dX7_week_41 : decode cX7_week 41 = .ok (.getfield 10, 3) := by decide +kernel
theorem dX7_week_44 : decode cX7_week 44 = .ok (.getfield 102, 3) := by decide +kernel
theorem dX7_week_47 : decode cX7_week 47 = .ok (.getfield 166, 3) := by decide +kernel
theorem dX7_week_50 : decode cX7_week 50 = .ok (.ireturn, 1) := by decide +kernel
theorem dX7_undo_0 : decode cX7_undo 0 = .ok (.aload_n 0, 1) := by decide +kernel
theorem dX7_undo_1 : decode cX7_undo 1 = .ok (.getfield 10, 3) := by decide +kernel
theorem dX7_undo_4 : decode cX7_undo 4 = .ok (.getfield 169, 3) := by decide +kernel
theorem dX7_undo_7 : decode cX7_undo 7 = .ok (.ifCond .ne 10, 3) := by decide +kernel
theorem dX7_undo_10 : decode cX7_undo 10 = .ok (.aload_n 0, 1) := by decide +kernel
theorem dX7_undo_11 : decode cX7_undo 11 = .ok (.bipush (-3), 2) := by decide +kernel
theorem dX7_undo_13 : decode cX7_undo 13 = .ok (.invokevirtual 148, 3) := by decide +kernel
theorem dX7_undo_16 : decode cX7_undo 16 = .ok (.ireturn, 1) := by decide +kernel
theorem dX7_undo_17 : decode cX7_undo 17 = .ok (.aload_n 0, 1) := by decide +kernel
theorem dX7_undo_18 : decode cX7_undo 18 = .ok (.getfield 10, 3) := by decide +kernel
theorem dX7_undo_21 : decode cX7_undo 21 = .ok (.invokevirtual 172, 3) := by decide +kernel
theorem dX7_undo_24 : decode cX7_undo 24 = .ok (.aload_n 0, 1) := by decide +kernel
theorem dX7_undo_25 : decode cX7_undo 25 = .ok (.getfield 10, 3) := by decide +kernel
theorem dX7_undo_28 : decode cX7_undo 28 = .ok (.getfield 102, 3) := by decide +kernel
theorem dX7_undo_31 : decode cX7_undo 31 = .ok (.getfield 106, 3) := by decide +kernel
theorem dX7_undo_34 : decode cX7_undo 34 = .ok (.ireturn, 1) := by decide +kernel
theorem dX7_of_0 : decode cX7_of 0 = .ok (.aload_n 0, 1) := by decide +kernel
theorem dX7_of_1 : decode cX7_of 1 = .ok (.getfield 10, 3) := by decide +kernel
theorem dX7_of_4 : decode cX7_of 4 = .ok (.iload_n 1, 1) := by decide +kernel
theorem dX7_of_5 : decode cX7_of 5 = .ok (.invokevirtual 111, 3) := by decide +kernel
theorem dX7_of_8 : decode cX7_of 8 = .ok (.ifCond .ne 10, 3) := by decide +kernel
theorem dX7_of_11 : decode cX7_of 11 = .ok (.aload_n 0, 1) := by decide +kernel
theorem dX7_of_12 : decode cX7_of 12 = .ok (.bipush (-10), 2) := by decide +kernel
theorem dX7_of_14 : decode cX7_of 14 = .ok (.invokevirtual 66, 3) := by decide +kernel
theorem dX7_of_17 : decode cX7_of 17 = .ok (.ireturn, 1) := by decide +kernel
theorem dX7_of_18 : decode cX7_of 18 = .ok (.iload_n 2, 1) := by decide +kernel
theorem dX7_of_19 : decode cX7_of 19 = .ok (.tableswitch 85 0 3 #[29, 39, 52, 65], 29) := by decide +kernel
theorem dX7_of_48 : decode cX7_of 48 = .ok (.aload_n 0, 1) := by decide +kernel
theorem dX7_of_49 : decode cX7_of 49 = .ok (.getfield 10, 3) := by decide +kernel
theorem dX7_of_52 : decode cX7_of 52 = .ok (.getfield 175, 3) := by decide +kernel
theorem dX7_of_55 : decode cX7_of 55 = .ok (.iload_n 1, 1) := by decide +kernel
theorem dX7_of_56 : decode cX7_of 56 = .ok (.iaload, 1) := by decide +kernel
theorem dX7_of_57 : decode cX7_of 57 = .ok (.ireturn, 1) := by decide +kernel
theorem dX7_of_58 : decode cX7_of 58 = .ok (.aload_n 0, 1) := by decide +kernel
theorem dX7_of_59 : decode cX7_of 59 = .ok (.getfield 10, 3) := by decide +kernel
theorem dX7_of_62 : decode cX7_of 62 = .ok (.getfield 102, 3) := by decide +kernel
theorem dX7_of_65 : decode cX7_of 65 = .ok (.getfield 119, 3) := by decide +kernel
theorem dX7_of_68 : decode cX7_of 68 = .ok (.iload_n 1, 1) := by decide +kernel
theorem dX7_of_69 : decode cX7_of 69 = .ok (.iaload, 1) := by decide +kernel
theorem dX7_of_70 : decode cX7_of 70 = .ok (.ireturn, 1) := by decide +kernel
theorem dX7_of_71 : decode cX7_of 71 = .ok (.aload_n 0, 1) := by decide +kernel
theorem dX7_of_72 : decode cX7_of 72 = .ok (.getfield 10, 3) := by decide +kernel
theorem dX7_of_75 : decode cX7_of 75 = .ok (.getfield 102, 3) := by decide +kernel
theorem dX7_of_78 : decode cX7_of 78 = .ok (.getfield 178, 3) := by decide +kernel
theorem dX7_of_81 : decode cX7_of 81 = .ok (.iload_n 1, 1) := by decide +kernel
theorem dX7_of_82 : decode cX7_of 82 = .ok (.iaload, 1) := by decide +kernel
theorem dX7_of_83 : decode cX7_of 83 = .ok (.ireturn, 1) := by decide +kernel
theorem dX7_of_84 : decode cX7_of 84 = .ok (.aload_n 0, 1) := by decide +kernel
theorem dX7_of_85 : decode cX7_of 85 = .ok (.getfield 10, 3) := by decide +kernel
theorem dX7_of_88 : decode cX7_of 88 = .ok (.aload_n 0, 1) := by decide +kernel
theorem dX7_of_89 : decode cX7_of 89 = .ok (.getfield 10, 3) := by decide +kernel
theorem dX7_of_92 : decode cX7_of 92 = .ok (.getfield 102, 3) := by decide +kernel
theorem dX7_of_95 : decode cX7_of 95 = .ok (.getfield 119, 3) := by decide +kernel
theorem dX7_of_98 : decode cX7_of 98 = .ok (.iload_n 1, 1) := by decide +kernel
theorem dX7_of_99 : decode cX7_of 99 = .ok (.iaload, 1) := by decide +kernel
theorem dX7_of_100 : decode cX7_of 100 = .ok (.invokevirtual 145, 3) := by decide +kernel
theorem dX7_of_103 : decode cX7_of 103 = .ok (.ireturn, 1) := by decide +kernel
theorem dX7_of_104 : decode cX7_of 104 = .ok (.aload_n 0, 1) := by decide +kernel
theorem dX7_of_105 : decode cX7_of 105 = .ok (.bipush (-10), 2) := by decide +kernel
theorem dX7_of_107 : decode cX7_of 107 = .ok (.invokevirtual 66, 3) := by decide +kernel
theorem dX7_of_110 : decode cX7_of 110 = .ok (.ireturn, 1) := by decide +kernel
theorem dX7_costs_0 : decode cX7_costs 0 = .ok (.iload_n 1, 1) := by decide +kernel
theorem dX7_costs_1 : decode cX7_costs 1 = .ok (.invokestatic 114, 3) := by decide +kernel
theorem dX7_costs_4 : decode cX7_costs 4 = .ok (.ifCond .eq 14, 3) := by decide +kernel
theorem dX7_costs_7 : decode cX7_costs 7 = .ok (.aload_n 0, 1) := by decide +kernel
theorem dX7_costs_8 : decode cX7_costs 8 = .ok (.getfield 10, 3) := by decide +kernel
theorem dX7_costs_11 : decode cX7_costs 11 = .ok (.iload_n 1, 1) := by decide +kernel
theorem dX7_costs_12 : decode cX7_costs 12 = .ok (.invokevirtual 145, 3) := by decide +kernel
theorem dX7_costs_15 : decode cX7_costs 15 = .ok (.goto 9, 3) := by decide +kernel
theorem dX7_costs_18 : decode cX7_costs 18 = .ok (.aload_n 0, 1) := by decide +kernel
theorem dX7_costs_19 : decode cX7_costs 19 = .ok (.bipush (-2), 2) := by decide +kernel
theorem dX7_costs_21 : decode cX7_costs 21 = .ok (.invokevirtual 66, 3) := by decide +kernel
theorem dX7_costs_24 : decode cX7_costs 24 = .ok (.ireturn, 1) := by decide +kernel
theorem dX7_gives_0 : decode cX7_gives 0 = .ok (.iload_n 1, 1) := by decide +kernel
theorem dX7_gives_1 : decode cX7_gives 1 = .ok (.invokestatic 114, 3) := by decide +kernel
theorem dX7_gives_4 : decode cX7_gives 4 = .ok (.ifCond .eq 18, 3) := by decide +kernel
theorem dX7_gives_7 : decode cX7_gives 7 = .ok (.iload_n 2, 1) := by decide +kernel
theorem dX7_gives_8 : decode cX7_gives 8 = .ok (.iconst 0, 1) := by decide +kernel
theorem dX7_gives_9 : decode cX7_gives 9 = .ok (.aload_n 0, 1) := by decide +kernel
theorem dX7_gives_10 : decode cX7_gives 10 = .ok (.getfield 10, 3) := by decide +kernel
theorem dX7_gives_13 : decode cX7_gives 13 = .ok (.getfield 92, 3) := by decide +kernel
theorem dX7_gives_16 : decode cX7_gives 16 = .ok (.invokestatic 98, 3) := by decide +kernel
theorem dX7_gives_19 : decode cX7_gives 19 = .ok (.ifCond .ne 10, 3) := by decide +kernel
theorem dX7_gives_22 : decode cX7_gives 22 = .ok (.aload_n 0, 1) := by decide +kernel
theorem dX7_gives_23 : decode cX7_gives 23 = .ok (.bipush (-2), 2) := by decide +kernel
theorem dX7_gives_25 : decode cX7_gives 25 = .ok (.invokevirtual 66, 3) := by decide +kernel
theorem dX7_gives_28 : decode cX7_gives 28 = .ok (.ireturn, 1) := by decide +kernel
theorem dX7_gives_29 : decode cX7_gives 29 = .ok (.iload_n 1, 1) := by decide +kernel
theorem dX7_gives_30 : decode cX7_gives 30 = .ok (.iload_n 2, 1) := by decide +kernel
theorem dX7_gives_31 : decode cX7_gives 31 = .ok (.aload_n 0, 1) := by decide +kernel
theorem dX7_gives_32 : decode cX7_gives 32 = .ok (.getfield 10, 3) := by decide +kernel
theorem dX7_gives_35 : decode cX7_gives 35 = .ok (.getfield 92, 3) := by decide +kernel
theorem dX7_gives_38 : decode cX7_gives 38 = .ok (.invokestatic 181, 3) := by decide +kernel
theorem dX7_gives_41 : decode cX7_gives 41 = .ok (.ireturn, 1) := by decide +kernel
theorem dX7_stuck_0 : decode cX7_stuck 0 = .ok (.aload_n 0, 1) := by decide +kernel
theorem dX7_stuck_1 : decode cX7_stuck 1 = .ok (.getfield 10, 3) := by decide +kernel
theorem dX7_stuck_4 : decode cX7_stuck 4 = .ok (.aload_n 0, 1) := by decide +kernel
theorem dX7_stuck_5 : decode cX7_stuck 5 = .ok (.getfield 10, 3) := by decide +kernel
theorem dX7_stuck_8 : decode cX7_stuck 8 = .ok (.getfield 92, 3) := by decide +kernel
theorem dX7_stuck_11 : decode cX7_stuck 11 = .ok (.iconst (-1), 1) := by decide +kernel
theorem dX7_stuck_12 : decode cX7_stuck 12 = .ok (.invokevirtual 185, 3) := by decide +kernel
theorem dX7_stuck_15 : decode cX7_stuck 15 = .ok (.ireturn, 1) := by decide +kernel
theorem dX7_sentences_0 : decode cX7_sentences 0 = .ok (.iload_n 1, 1) := by decide +kernel
theorem dX7_sentences_1 : decode cX7_sentences 1 = .ok (.tableswitch 73 0 3 #[31, 39, 55, 64], 31) := by decide +kernel
theorem dX7_sentences_32 : decode cX7_sentences 32 = .ok (.aload_n 0, 1) := by decide +kernel
theorem dX7_sentences_33 : decode cX7_sentences 33 = .ok (.getfield 10, 3) := by decide +kernel
theorem dX7_sentences_36 : decode cX7_sentences 36 = .ok (.invokevirtual 188, 3) := by decide +kernel
theorem dX7_sentences_39 : decode cX7_sentences 39 = .ok (.ireturn, 1) := by decide +kernel
theorem dX7_sentences_40 : decode cX7_sentences 40 = .ok (.aload_n 0, 1) := by decide +kernel
theorem dX7_sentences_41 : decode cX7_sentences 41 = .ok (.getfield 10, 3) := by decide +kernel
theorem dX7_sentences_44 : decode cX7_sentences 44 = .ok (.invokevirtual 191, 3) := by decide +kernel
theorem dX7_sentences_47 : decode cX7_sentences 47 = .ok (.ifCond .eq 7, 3) := by decide +kernel
theorem dX7_sentences_50 : decode cX7_sentences 50 = .ok (.iconst 1, 1) := by decide +kernel
theorem dX7_sentences_51 : decode cX7_sentences 51 = .ok (.goto 4, 3) := by decide +kernel
theorem dX7_sentences_54 : decode cX7_sentences 54 = .ok (.iconst 0, 1) := by decide +kernel
theorem dX7_sentences_55 : decode cX7_sentences 55 = .ok (.ireturn, 1) := by decide +kernel
theorem dX7_sentences_56 : decode cX7_sentences 56 = .ok (.aload_n 0, 1) := by decide +kernel
theorem dX7_sentences_57 : decode cX7_sentences 57 = .ok (.getfield 10, 3) := by decide +kernel
theorem dX7_sentences_60 : decode cX7_sentences 60 = .ok (.iconst 0, 1) := by decide +kernel
theorem dX7_sentences_61 : decode cX7_sentences 61 = .ok (.invokevirtual 194, 3) := by decide +kernel
theorem dX7_sentences_64 : decode cX7_sentences 64 = .ok (.ireturn, 1) := by decide +kernel
theorem dX7_sentences_65 : decode cX7_sentences 65 = .ok (.aload_n 0, 1) := by decide +kernel
theorem dX7_sentences_66 : decode cX7_sentences 66 = .ok (.getfield 10, 3) := by decide +kernel
theorem dX7_sentences_69 : decode cX7_sentences 69 = .ok (.iconst 1, 1) := by decide +kernel
theorem dX7_sentences_70 : decode cX7_sentences 70 = .ok (.invokevirtual 194, 3) := by decide +kernel
theorem dX7_sentences_73 : decode cX7_sentences 73 = .ok (.ireturn, 1) := by decide +kernel
theorem dX7_sentences_74 : decode cX7_sentences 74 = .ok (.aload_n 0, 1) := by decide +kernel
theorem dX7_sentences_75 : decode cX7_sentences 75 = .ok (.bipush (-2), 2) := by decide +kernel
theorem dX7_sentences_77 : decode cX7_sentences 77 = .ok (.invokevirtual 66, 3) := by decide +kernel
theorem dX7_sentences_80 : decode cX7_sentences 80 = .ok (.ireturn, 1) := by decide +kernel
theorem dX7_cheapest_0 : decode cX7_cheapest 0 = .ok (.iload_n 1, 1) := by decide +kernel
theorem dX7_cheapest_1 : decode cX7_cheapest 1 = .ok (.invokestatic 59, 3) := by decide +kernel
theorem dX7_cheapest_4 : decode cX7_cheapest 4 = .ok (.ifCond .eq 17, 3) := by decide +kernel
theorem dX7_cheapest_7 : decode cX7_cheapest 7 = .ok (.iload_n 2, 1) := by decide +kernel
theorem dX7_cheapest_8 : decode cX7_cheapest 8 = .ok (.iconst 0, 1) := by decide +kernel
theorem dX7_cheapest_9 : decode cX7_cheapest 9 = .ok (.iconst 1, 1) := by decide +kernel
theorem dX7_cheapest_10 : decode cX7_cheapest 10 = .ok (.invokestatic 98, 3) := by decide +kernel
theorem dX7_cheapest_13 : decode cX7_cheapest 13 = .ok (.ifCond .eq 8, 3) := by decide +kernel
theorem dX7_cheapest_16 : decode cX7_cheapest 16 = .ok (.iload_n 3, 1) := by decide +kernel
theorem dX7_cheapest_17 : decode cX7_cheapest 17 = .ok (.iconst (-1), 1) := by decide +kernel
theorem dX7_cheapest_18 : decode cX7_cheapest 18 = .ok (.if_icmp .ge 10, 3) := by decide +kernel
theorem dX7_cheapest_21 : decode cX7_cheapest 21 = .ok (.aload_n 0, 1) := by decide +kernel
theorem dX7_cheapest_22 : decode cX7_cheapest 22 = .ok (.bipush (-10), 2) := by decide +kernel
theorem dX7_cheapest_24 : decode cX7_cheapest 24 = .ok (.invokevirtual 66, 3) := by decide +kernel
theorem dX7_cheapest_27 : decode cX7_cheapest 27 = .ok (.ireturn, 1) := by decide +kernel
theorem dX7_cheapest_28 : decode cX7_cheapest 28 = .ok (.aload_n 0, 1) := by decide +kernel
theorem dX7_cheapest_29 : decode cX7_cheapest 29 = .ok (.getfield 37, 3) := by decide +kernel
theorem dX7_cheapest_32 : decode cX7_cheapest 32 = .ok (.aload_n 0, 1) := by decide +kernel
theorem dX7_cheapest_33 : decode cX7_cheapest 33 = .ok (.getfield 10, 3) := by decide +kernel
theorem dX7_cheapest_36 : decode cX7_cheapest 36 = .ok (.iload_n 1, 1) := by decide +kernel
theorem dX7_cheapest_37 : decode cX7_cheapest 37 = .ok (.iload_n 2, 1) := by decide +kernel
theorem dX7_cheapest_38 : decode cX7_cheapest 38 = .ok (.iconst 1, 1) := by decide +kernel
theorem dX7_cheapest_39 : decode cX7_cheapest 39 = .ok (.if_icmp .ne 7, 3) := by decide +kernel
theorem dX7_cheapest_42 : decode cX7_cheapest 42 = .ok (.iconst 1, 1) := by decide +kernel
theorem dX7_cheapest_43 : decode cX7_cheapest 43 = .ok (.goto 4, 3) := by decide +kernel
theorem dX7_cheapest_46 : decode cX7_cheapest 46 = .ok (.iconst 0, 1) := by decide +kernel
theorem dX7_cheapest_47 : decode cX7_cheapest 47 = .ok (.invokevirtual 198, 3) := by decide +kernel
theorem dX7_cheapest_50 : decode cX7_cheapest 50 = .ok (.iload_n 3, 1) := by decide +kernel
theorem dX7_cheapest_51 : decode cX7_cheapest 51 = .ok (.aload_n 0, 1) := by decide +kernel
theorem dX7_cheapest_52 : decode cX7_cheapest 52 = .ok (.getfield 10, 3) := by decide +kernel
theorem dX7_cheapest_55 : decode cX7_cheapest 55 = .ok (.getfield 70, 3) := by decide +kernel
theorem dX7_cheapest_58 : decode cX7_cheapest 58 = .ok (.if_icmp .ge 14, 3) := by decide +kernel
theorem dX7_cheapest_61 : decode cX7_cheapest 61 = .ok (.aload_n 0, 1) := by decide +kernel
theorem dX7_cheapest_62 : decode cX7_cheapest 62 = .ok (.getfield 37, 3) := by decide +kernel
theorem dX7_cheapest_65 : decode cX7_cheapest 65 = .ok (.iload_n 1, 1) := by decide +kernel
theorem dX7_cheapest_66 : decode cX7_cheapest 66 = .ok (.invokevirtual 202, 3) := by decide +kernel
theorem dX7_cheapest_69 : decode cX7_cheapest 69 = .ok (.ifCond .ne 6, 3) := by decide +kernel
theorem dX7_cheapest_72 : decode cX7_cheapest 72 = .ok (.bipush (-5), 2) := by decide +kernel
theorem dX7_cheapest_74 : decode cX7_cheapest 74 = .ok (.ireturn, 1) := by decide +kernel
theorem dX7_cheapest_75 : decode cX7_cheapest 75 = .ok (.iload_n 3, 1) := by decide +kernel
theorem dX7_cheapest_76 : decode cX7_cheapest 76 = .ok (.iconst (-1), 1) := by decide +kernel
theorem dX7_cheapest_77 : decode cX7_cheapest 77 = .ok (.if_icmp .ne 14, 3) := by decide +kernel
theorem dX7_cheapest_80 : decode cX7_cheapest 80 = .ok (.aload_n 0, 1) := by decide +kernel
theorem dX7_cheapest_81 : decode cX7_cheapest 81 = .ok (.getfield 37, 3) := by decide +kernel
theorem dX7_cheapest_84 : decode cX7_cheapest 84 = .ok (.iload_n 1, 1) := by decide +kernel
theorem dX7_cheapest_85 : decode cX7_cheapest 85 = .ok (.invokevirtual 205, 3) := by decide +kernel
theorem dX7_cheapest_88 : decode cX7_cheapest 88 = .ok (.goto 16, 3) := by decide +kernel
theorem dX7_cheapest_91 : decode cX7_cheapest 91 = .ok (.aload_n 0, 1) := by decide +kernel
theorem dX7_cheapest_92 : decode cX7_cheapest 92 = .ok (.getfield 37, 3) := by decide +kernel
theorem dX7_cheapest_95 : decode cX7_cheapest 95 = .ok (.aload_n 0, 1) := by decide +kernel
theorem dX7_cheapest_96 : decode cX7_cheapest 96 = .ok (.getfield 10, 3) := by decide +kernel
theorem dX7_cheapest_99 : decode cX7_cheapest 99 = .ok (.iload_n 1, 1) := by decide +kernel
theorem dX7_cheapest_100 : decode cX7_cheapest 100 = .ok (.iload_n 3, 1) := by decide +kernel
theorem dX7_cheapest_101 : decode cX7_cheapest 101 = .ok (.invokevirtual 208, 3) := by decide +kernel
theorem dX7_cheapest_104 : decode cX7_cheapest 104 = .ok (.ireturn, 1) := by decide +kernel
theorem dX7_reach_0 : decode cX7_reach 0 = .ok (.iload_n 1, 1) := by decide +kernel
theorem dX7_reach_1 : decode cX7_reach 1 = .ok (.iconst 0, 1) := by decide +kernel
theorem dX7_reach_2 : decode cX7_reach 2 = .ok (.sipush 999, 3) := by decide +kernel
theorem dX7_reach_5 : decode cX7_reach 5 = .ok (.invokestatic 98, 3) := by decide +kernel
theorem dX7_reach_8 : decode cX7_reach 8 = .ok (.ifCond .eq 18, 3) := by decide +kernel
theorem dX7_reach_11 : decode cX7_reach 11 = .ok (.aload_n 0, 1) := by decide +kernel
theorem dX7_reach_12 : decode cX7_reach 12 = .ok (.getfield 37, 3) := by decide +kernel
theorem dX7_reach_15 : decode cX7_reach 15 = .ok (.aload_n 0, 1) := by decide +kernel
theorem dX7_reach_16 : decode cX7_reach 16 = .ok (.getfield 10, 3) := by decide +kernel
theorem dX7_reach_19 : decode cX7_reach 19 = .ok (.iload_n 1, 1) := by decide +kernel
theorem dX7_reach_20 : decode cX7_reach 20 = .ok (.invokevirtual 212, 3) := by decide +kernel
theorem dX7_reach_23 : decode cX7_reach 23 = .ok (.goto 9, 3) := by decide +kernel
theorem dX7_reach_26 : decode cX7_reach 26 = .ok (.aload_n 0, 1) := by decide +kernel
theorem dX7_reach_27 : decode cX7_reach 27 = .ok (.bipush (-2), 2) := by decide +kernel
theorem dX7_reach_29 : decode cX7_reach 29 = .ok (.invokevirtual 66, 3) := by decide +kernel
theorem dX7_reach_32 : decode cX7_reach 32 = .ok (.ireturn, 1) := by decide +kernel
theorem dX7_order_0 : decode cX7_order 0 = .ok (.iload_n 1, 1) := by decide +kernel
theorem dX7_order_1 : decode cX7_order 1 = .ok (.iconst (-1), 1) := by decide +kernel
theorem dX7_order_2 : decode cX7_order 2 = .ok (.if_icmp .ge 10, 3) := by decide +kernel
theorem dX7_order_5 : decode cX7_order 5 = .ok (.aload_n 0, 1) := by decide +kernel
theorem dX7_order_6 : decode cX7_order 6 = .ok (.bipush (-10), 2) := by decide +kernel
theorem dX7_order_8 : decode cX7_order 8 = .ok (.invokevirtual 66, 3) := by decide +kernel
theorem dX7_order_11 : decode cX7_order 11 = .ok (.ireturn, 1) := by decide +kernel
theorem dX7_order_12 : decode cX7_order 12 = .ok (.aload_n 0, 1) := by decide +kernel
theorem dX7_order_13 : decode cX7_order 13 = .ok (.getfield 10, 3) := by decide +kernel
theorem dX7_order_16 : decode cX7_order 16 = .ok (.getfield 70, 3) := by decide +kernel
theorem dX7_order_19 : decode cX7_order 19 = .ok (.bipush 7, 2) := by decide +kernel
theorem dX7_order_21 : decode cX7_order 21 = .ok (.if_icmp .le 10, 3) := by decide +kernel
theorem dX7_order_24 : decode cX7_order 24 = .ok (.aload_n 0, 1) := by decide +kernel
theorem dX7_order_25 : decode cX7_order 25 = .ok (.bipush (-20), 2) := by decide +kernel
theorem dX7_order_27 : decode cX7_order 27 = .ok (.invokevirtual 148, 3) := by decide +kernel
theorem dX7_order_30 : decode cX7_order 30 = .ok (.ireturn, 1) := by decide +kernel
theorem dX7_order_31 : decode cX7_order 31 = .ok (.iload_n 1, 1) := by decide +kernel
theorem dX7_order_32 : decode cX7_order 32 = .ok (.aload_n 0, 1) := by decide +kernel
theorem dX7_order_33 : decode cX7_order 33 = .ok (.getfield 10, 3) := by decide +kernel
theorem dX7_order_36 : decode cX7_order 36 = .ok (.getfield 70, 3) := by decide +kernel
theorem dX7_order_39 : decode cX7_order 39 = .ok (.if_icmp .lt 6, 3) := by decide +kernel
theorem dX7_order_42 : decode cX7_order 42 = .ok (.bipush (-5), 2) := by decide +kernel
theorem dX7_order_44 : decode cX7_order 44 = .ok (.ireturn, 1) := by decide +kernel
theorem dX7_order_45 : decode cX7_order 45 = .ok (.aload_n 0, 1) := by decide +kernel
theorem dX7_order_46 : decode cX7_order 46 = .ok (.getfield 44, 3) := by decide +kernel
theorem dX7_order_49 : decode cX7_order 49 = .ok (.aload_n 0, 1) := by decide +kernel
theorem dX7_order_50 : decode cX7_order 50 = .ok (.getfield 10, 3) := by decide +kernel
theorem dX7_order_53 : decode cX7_order 53 = .ok (.invokevirtual 216, 3) := by decide +kernel
theorem dX7_order_56 : decode cX7_order 56 = .ok (.iload_n 1, 1) := by decide +kernel
theorem dX7_order_57 : decode cX7_order 57 = .ok (.iconst (-1), 1) := by decide +kernel
theorem dX7_order_58 : decode cX7_order 58 = .ok (.if_icmp .ne 13, 3) := by decide +kernel
theorem dX7_order_61 : decode cX7_order 61 = .ok (.aload_n 0, 1) := by decide +kernel
theorem dX7_order_62 : decode cX7_order 62 = .ok (.getfield 44, 3) := by decide +kernel
theorem dX7_order_65 : decode cX7_order 65 = .ok (.getfield 219, 3) := by decide +kernel
theorem dX7_order_68 : decode cX7_order 68 = .ok (.goto 12, 3) := by decide +kernel
theorem dX7_order_71 : decode cX7_order 71 = .ok (.aload_n 0, 1) := by decide +kernel
theorem dX7_order_72 : decode cX7_order 72 = .ok (.getfield 44, 3) := by decide +kernel
theorem dX7_order_75 : decode cX7_order 75 = .ok (.getfield 222, 3) := by decide +kernel
theorem dX7_order_78 : decode cX7_order 78 = .ok (.iload_n 1, 1) := by decide +kernel
theorem dX7_order_79 : decode cX7_order 79 = .ok (.iaload, 1) := by decide +kernel
theorem dX7_order_80 : decode cX7_order 80 = .ok (.ireturn, 1) := by decide +kernel
theorem dX7_heard_0 : decode cX7_heard 0 = .ok (.iload_n 1, 1) := by decide +kernel
theorem dX7_heard_1 : decode cX7_heard 1 = .ok (.iconst (-1), 1) := by decide +kernel
theorem dX7_heard_2 : decode cX7_heard 2 = .ok (.if_icmp .eq 21, 3) := by decide +kernel
theorem dX7_heard_5 : decode cX7_heard 5 = .ok (.aload_n 0, 1) := by decide +kernel
theorem dX7_heard_6 : decode cX7_heard 6 = .ok (.getfield 10, 3) := by decide +kernel
theorem dX7_heard_9 : decode cX7_heard 9 = .ok (.iload_n 1, 1) := by decide +kernel
theorem dX7_heard_10 : decode cX7_heard 10 = .ok (.invokevirtual 111, 3) := by decide +kernel
theorem dX7_heard_13 : decode cX7_heard 13 = .ok (.ifCond .ne 10, 3) := by decide +kernel
theorem dX7_heard_16 : decode cX7_heard 16 = .ok (.aload_n 0, 1) := by decide +kernel
theorem dX7_heard_17 : decode cX7_heard 17 = .ok (.bipush (-2), 2) := by decide +kernel
theorem dX7_heard_19 : decode cX7_heard 19 = .ok (.invokevirtual 66, 3) := by decide +kernel
theorem dX7_heard_22 : decode cX7_heard 22 = .ok (.ireturn, 1) := by decide +kernel
theorem dX7_heard_23 : decode cX7_heard 23 = .ok (.aload_n 0, 1) := by decide +kernel
theorem dX7_heard_24 : decode cX7_heard 24 = .ok (.getfield 10, 3) := by decide +kernel
theorem dX7_heard_27 : decode cX7_heard 27 = .ok (.getfield 225, 3) := by decide +kernel
theorem dX7_heard_30 : decode cX7_heard 30 = .ok (.bipush 6, 2) := by decide +kernel
theorem dX7_heard_32 : decode cX7_heard 32 = .ok (.if_icmp .lt 10, 3) := by decide +kernel
theorem dX7_heard_35 : decode cX7_heard 35 = .ok (.aload_n 0, 1) := by decide +kernel
theorem dX7_heard_36 : decode cX7_heard 36 = .ok (.bipush (-4), 2) := by decide +kernel
theorem dX7_heard_38 : decode cX7_heard 38 = .ok (.invokevirtual 85, 3) := by decide +kernel
theorem dX7_heard_41 : decode cX7_heard 41 = .ok (.ireturn, 1) := by decide +kernel
theorem dX7_heard_42 : decode cX7_heard 42 = .ok (.aload_n 0, 1) := by decide +kernel
theorem dX7_heard_43 : decode cX7_heard 43 = .ok (.getfield 10, 3) := by decide +kernel
theorem dX7_heard_46 : decode cX7_heard 46 = .ok (.aload_n 0, 1) := by decide +kernel
theorem dX7_heard_47 : decode cX7_heard 47 = .ok (.getfield 10, 3) := by decide +kernel
theorem dX7_heard_50 : decode cX7_heard 50 = .ok (.iload_n 1, 1) := by decide +kernel
theorem dX7_heard_51 : decode cX7_heard 51 = .ok (.invokevirtual 228, 3) := by decide +kernel
theorem dX7_heard_54 : decode cX7_heard 54 = .ok (.invokevirtual 231, 3) := by decide +kernel
theorem dX7_heard_57 : decode cX7_heard 57 = .ok (.aload_n 0, 1) := by decide +kernel
theorem dX7_heard_58 : decode cX7_heard 58 = .ok (.getfield 10, 3) := by decide +kernel
theorem dX7_heard_61 : decode cX7_heard 61 = .ok (.getfield 225, 3) := by decide +kernel
theorem dX7_heard_64 : decode cX7_heard 64 = .ok (.ireturn, 1) := by decide +kernel
theorem dX7_forget_0 : decode cX7_forget 0 = .ok (.aload_n 0, 1) := by decide +kernel
theorem dX7_forget_1 : decode cX7_forget 1 = .ok (.getfield 10, 3) := by decide +kernel
theorem dX7_forget_4 : decode cX7_forget 4 = .ok (.getfield 225, 3) := by decide +kernel
theorem dX7_forget_7 : decode cX7_forget 7 = .ok (.istore_n 1, 1) := by decide +kernel
theorem dX7_forget_8 : decode cX7_forget 8 = .ok (.aload_n 0, 1) := by decide +kernel
theorem dX7_forget_9 : decode cX7_forget 9 = .ok (.getfield 10, 3) := by decide +kernel
theorem dX7_forget_12 : decode cX7_forget 12 = .ok (.iconst 0, 1) := by decide +kernel
theorem dX7_forget_13 : decode cX7_forget 13 = .ok (.putfield 225, 3) := by decide +kernel
theorem dX7_forget_16 : decode cX7_forget 16 = .ok (.iload_n 1, 1) := by decide +kernel
theorem dX7_forget_17 : decode cX7_forget 17 = .ok (.ireturn, 1) := by decide +kernel
theorem dX7_breaths_0 : decode cX7_breaths 0 = .ok (.aload_n 0, 1) := by decide +kernel
theorem dX7_breaths_1 : decode cX7_breaths 1 = .ok (.getfield 10, 3) := by decide +kernel
theorem dX7_breaths_4 : decode cX7_breaths 4 = .ok (.invokevirtual 234, 3) := by decide +kernel
theorem dX7_breaths_7 : decode cX7_breaths 7 = .ok (.ireturn, 1) := by decide +kernel
theorem dX7_shorter_0 : decode cX7_shorter 0 = .ok (.aload_n 0, 1) := by decide +kernel
theorem dX7_shorter_1 : decode cX7_shorter 1 = .ok (.getfield 10, 3) := by decide +kernel
theorem dX7_shorter_4 : decode cX7_shorter 4 = .ok (.invokevirtual 234, 3) := by decide +kernel
theorem dX7_shorter_7 : decode cX7_shorter 7 = .ok (.istore_n 1, 1) := by decide +kernel
theorem dX7_shorter_8 : decode cX7_shorter 8 = .ok (.iconst (-1), 1) := by decide +kernel
theorem dX7_shorter_9 : decode cX7_shorter 9 = .ok (.istore_n 2, 1) := by decide +kernel
theorem dX7_shorter_10 : decode cX7_shorter 10 = .ok (.bipush 31, 2) := by decide +kernel
theorem dX7_shorter_12 : decode cX7_shorter 12 = .ok (.istore_n 3, 1) := by decide +kernel
theorem dX7_shorter_13 : decode cX7_shorter 13 = .ok (.iload_n 1, 1) := by decide +kernel
theorem dX7_shorter_14 : decode cX7_shorter 14 = .ok (.ifCond .ne 5, 3) := by decide +kernel
theorem dX7_shorter_17 : decode cX7_shorter 17 = .ok (.iconst (-1), 1) := by decide +kernel
theorem dX7_shorter_18 : decode cX7_shorter 18 = .ok (.ireturn, 1) := by decide +kernel
theorem dX7_shorter_19 : decode cX7_shorter 19 = .ok (.iconst 0, 1) := by decide +kernel
theorem dX7_shorter_20 : decode cX7_shorter 20 = .ok (.istore 4, 2) := by decide +kernel
theorem dX7_shorter_22 : decode cX7_shorter 22 = .ok (.iload 4, 2) := by decide +kernel
theorem dX7_shorter_24 : decode cX7_shorter 24 = .ok (.aload_n 0, 1) := by decide +kernel
theorem dX7_shorter_25 : decode cX7_shorter 25 = .ok (.getfield 10, 3) := by decide +kernel
theorem dX7_shorter_28 : decode cX7_shorter 28 = .ok (.getfield 70, 3) := by decide +kernel
theorem dX7_shorter_31 : decode cX7_shorter 31 = .ok (.if_icmp .ge 30, 3) := by decide +kernel
theorem dX7_shorter_34 : decode cX7_shorter 34 = .ok (.aload_n 0, 1) := by decide +kernel
theorem dX7_shorter_35 : decode cX7_shorter 35 = .ok (.iload_n 1, 1) := by decide +kernel
theorem dX7_shorter_36 : decode cX7_shorter 36 = .ok (.iload 4, 2) := by decide +kernel
theorem dX7_shorter_38 : decode cX7_shorter 38 = .ok (.invokevirtual 237, 3) := by decide +kernel
theorem dX7_shorter_41 : decode cX7_shorter 41 = .ok (.istore 5, 2) := by decide +kernel
theorem dX7_shorter_43 : decode cX7_shorter 43 = .ok (.iload 5, 2) := by decide +kernel
theorem dX7_shorter_45 : decode cX7_shorter 45 = .ok (.iload_n 3, 1) := by decide +kernel
theorem dX7_shorter_46 : decode cX7_shorter 46 = .ok (.if_icmp .ge 9, 3) := by decide +kernel
theorem dX7_shorter_49 : decode cX7_shorter 49 = .ok (.iload 4, 2) := by decide +kernel
theorem dX7_shorter_51 : decode cX7_shorter 51 = .ok (.istore_n 2, 1) := by decide +kernel
theorem dX7_shorter_52 : decode cX7_shorter 52 = .ok (.iload 5, 2) := by decide +kernel
theorem dX7_shorter_54 : decode cX7_shorter 54 = .ok (.istore_n 3, 1) := by decide +kernel
theorem dX7_shorter_55 : decode cX7_shorter 55 = .ok (.iinc 4 1, 3) := by decide +kernel
theorem dX7_shorter_58 : decode cX7_shorter 58 = .ok (.goto (-36), 3) := by decide +kernel
theorem dX7_shorter_61 : decode cX7_shorter 61 = .ok (.iload_n 2, 1) := by decide +kernel
theorem dX7_shorter_62 : decode cX7_shorter 62 = .ok (.ireturn, 1) := by decide +kernel
theorem dX7_bid_0 : decode cX7_bid 0 = .ok (.iload_n 2, 1) := by decide +kernel
theorem dX7_bid_1 : decode cX7_bid 1 = .ok (.iconst 0, 1) := by decide +kernel
theorem dX7_bid_2 : decode cX7_bid 2 = .ok (.bipush 20, 2) := by decide +kernel
theorem dX7_bid_4 : decode cX7_bid 4 = .ok (.invokestatic 98, 3) := by decide +kernel
theorem dX7_bid_7 : decode cX7_bid 7 = .ok (.ifCond .eq 17, 3) := by decide +kernel
theorem dX7_bid_10 : decode cX7_bid 10 = .ok (.iload_n 3, 1) := by decide +kernel
theorem dX7_bid_11 : decode cX7_bid 11 = .ok (.iconst 0, 1) := by decide +kernel
theorem dX7_bid_12 : decode cX7_bid 12 = .ok (.bipush 20, 2) := by decide +kernel
theorem dX7_bid_14 : decode cX7_bid 14 = .ok (.invokestatic 98, 3) := by decide +kernel
theorem dX7_bid_17 : decode cX7_bid 17 = .ok (.ifCond .eq 7, 3) := by decide +kernel
theorem dX7_bid_20 : decode cX7_bid 20 = .ok (.iconst 1, 1) := by decide +kernel
theorem dX7_bid_21 : decode cX7_bid 21 = .ok (.goto 4, 3) := by decide +kernel
theorem dX7_bid_24 : decode cX7_bid 24 = .ok (.iconst 0, 1) := by decide +kernel
theorem dX7_bid_25 : decode cX7_bid 25 = .ok (.istore 7, 2) := by decide +kernel
theorem dX7_bid_27 : decode cX7_bid 27 = .ok (.iload 4, 2) := by decide +kernel
theorem dX7_bid_29 : decode cX7_bid 29 = .ok (.iconst 0, 1) := by decide +kernel
theorem dX7_bid_30 : decode cX7_bid 30 = .ok (.bipush 20, 2) := by decide +kernel
theorem dX7_bid_32 : decode cX7_bid 32 = .ok (.invokestatic 98, 3) := by decide +kernel
theorem dX7_bid_35 : decode cX7_bid 35 = .ok (.ifCond .eq 18, 3) := by decide +kernel
theorem dX7_bid_38 : decode cX7_bid 38 = .ok (.iload 5, 2) := by decide +kernel
theorem dX7_bid_40 : decode cX7_bid 40 = .ok (.iconst 0, 1) := by decide +kernel
theorem dX7_bid_41 : decode cX7_bid 41 = .ok (.bipush 20, 2) := by decide +kernel
theorem dX7_bid_43 : decode cX7_bid 43 = .ok (.invokestatic 98, 3) := by decide +kernel
theorem dX7_bid_46 : decode cX7_bid 46 = .ok (.ifCond .eq 7, 3) := by decide +kernel
theorem dX7_bid_49 : decode cX7_bid 49 = .ok (.iconst 1, 1) := by decide +kernel
theorem dX7_bid_50 : decode cX7_bid 50 = .ok (.goto 4, 3) := by decide +kernel
theorem dX7_bid_53 : decode cX7_bid 53 = .ok (.iconst 0, 1) := by decide +kernel
theorem dX7_bid_54 : decode cX7_bid 54 = .ok (.istore 8, 2) := by decide +kernel
theorem dX7_bid_56 : decode cX7_bid 56 = .ok (.iload_n 1, 1) := by decide +kernel
theorem dX7_bid_57 : decode cX7_bid 57 = .ok (.invokestatic 114, 3) := by decide +kernel
theorem dX7_bid_60 : decode cX7_bid 60 = .ok (.ifCond .eq 23, 3) := by decide +kernel
theorem dX7_bid_63 : decode cX7_bid 63 = .ok (.iload 7, 2) := by decide +kernel
theorem dX7_bid_65 : decode cX7_bid 65 = .ok (.ifCond .eq 18, 3) := by decide +kernel
theorem dX7_bid_68 : decode cX7_bid 68 = .ok (.iload 8, 2) := by decide +kernel
theorem dX7_bid_70 : decode cX7_bid 70 = .ok (.ifCond .eq 13, 3) := by decide +kernel
theorem dX7_bid_73 : decode cX7_bid 73 = .ok (.iload 6, 2) := by decide +kernel
theorem dX7_bid_75 : decode cX7_bid 75 = .ok (.iconst 0, 1) := by decide +kernel
theorem dX7_bid_76 : decode cX7_bid 76 = .ok (.iconst 1, 1) := by decide +kernel
theorem dX7_bid_77 : decode cX7_bid 77 = .ok (.invokestatic 98, 3) := by decide +kernel
theorem dX7_bid_80 : decode cX7_bid 80 = .ok (.ifCond .ne 10, 3) := by decide +kernel
theorem dX7_bid_83 : decode cX7_bid 83 = .ok (.aload_n 0, 1) := by decide +kernel
theorem dX7_bid_84 : decode cX7_bid 84 = .ok (.bipush (-10), 2) := by decide +kernel
theorem dX7_bid_86 : decode cX7_bid 86 = .ok (.invokevirtual 66, 3) := by decide +kernel
theorem dX7_bid_89 : decode cX7_bid 89 = .ok (.ireturn, 1) := by decide +kernel
theorem dX7_bid_90 : decode cX7_bid 90 = .ok (.aload_n 0, 1) := by decide +kernel
theorem dX7_bid_91 : decode cX7_bid 91 = .ok (.getfield 10, 3) := by decide +kernel
theorem dX7_bid_94 : decode cX7_bid 94 = .ok (.iload_n 1, 1) := by decide +kernel
theorem dX7_bid_95 : decode cX7_bid 95 = .ok (.invokevirtual 145, 3) := by decide +kernel
theorem dX7_bid_98 : decode cX7_bid 98 = .ok (.istore 9, 2) := by decide +kernel
theorem dX7_bid_100 : decode cX7_bid 100 = .ok (.iconst (-1), 1) := by decide +kernel
theorem dX7_bid_101 : decode cX7_bid 101 = .ok (.istore 10, 2) := by decide +kernel
theorem dX7_bid_103 : decode cX7_bid 103 = .ok (.iconst 0, 1) := by decide +kernel
theorem dX7_bid_104 : decode cX7_bid 104 = .ok (.istore 11, 2) := by decide +kernel
theorem dX7_bid_106 : decode cX7_bid 106 = .ok (.iconst 0, 1) := by decide +kernel
theorem dX7_bid_107 : decode cX7_bid 107 = .ok (.istore 12, 2) := by decide +kernel
theorem dX7_bid_109 : decode cX7_bid 109 = .ok (.iload 12, 2) := by decide +kernel
theorem dX7_bid_111 : decode cX7_bid 111 = .ok (.iload_n 2, 1) := by decide +kernel
theorem dX7_bid_112 : decode cX7_bid 112 = .ok (.if_icmp .gt 77, 3) := by decide +kernel
theorem dX7_bid_115 : decode cX7_bid 115 = .ok (.iconst 0, 1) := by decide +kernel
theorem dX7_bid_116 : decode cX7_bid 116 = .ok (.istore 13, 2) := by decide +kernel
theorem dX7_bid_118 : decode cX7_bid 118 = .ok (.iload 13, 2) := by decide +kernel
theorem dX7_bid_120 : decode cX7_bid 120 = .ok (.iload_n 3, 1) := by decide +kernel
theorem dX7_bid_121 : decode cX7_bid 121 = .ok (.if_icmp .gt 62, 3) := by decide +kernel
theorem dX7_bid_124 : decode cX7_bid 124 = .ok (.iload 12, 2) := by decide +kernel
theorem dX7_bid_126 : decode cX7_bid 126 = .ok (.iload_n 2, 1) := by decide +kernel
theorem dX7_bid_127 : decode cX7_bid 127 = .ok (.iload 13, 2) := by decide +kernel
theorem dX7_bid_129 : decode cX7_bid 129 = .ok (.iload 4, 2) := by decide +kernel
theorem dX7_bid_131 : decode cX7_bid 131 = .ok (.iload 9, 2) := by decide +kernel
theorem dX7_bid_133 : decode cX7_bid 133 = .ok (.invokestatic 240, 3) := by decide +kernel
theorem dX7_bid_136 : decode cX7_bid 136 = .ok (.ifCond .eq 41, 3) := by decide +kernel
theorem dX7_bid_139 : decode cX7_bid 139 = .ok (.iload 13, 2) := by decide +kernel
theorem dX7_bid_141 : decode cX7_bid 141 = .ok (.iload_n 3, 1) := by decide +kernel
theorem dX7_bid_142 : decode cX7_bid 142 = .ok (.iload 12, 2) := by decide +kernel
theorem dX7_bid_144 : decode cX7_bid 144 = .ok (.iload 5, 2) := by decide +kernel
theorem dX7_bid_146 : decode cX7_bid 146 = .ok (.iload 9, 2) := by decide +kernel
theorem dX7_bid_148 : decode cX7_bid 148 = .ok (.invokestatic 240, 3) := by decide +kernel
theorem dX7_bid_151 : decode cX7_bid 151 = .ok (.ifCond .eq 26, 3) := by decide +kernel
theorem dX7_bid_154 : decode cX7_bid 154 = .ok (.iload 11, 2) := by decide +kernel
theorem dX7_bid_156 : decode cX7_bid 156 = .ok (.ifCond .ne 14, 3) := by decide +kernel
theorem dX7_bid_159 : decode cX7_bid 159 = .ok (.bipush 100, 2) := by decide +kernel
theorem dX7_bid_161 : decode cX7_bid 161 = .ok (.iload 12, 2) := by decide +kernel
theorem dX7_bid_163 : decode cX7_bid 163 = .ok (.imul, 1) := by decide +kernel
theorem dX7_bid_164 : decode cX7_bid 164 = .ok (.iload 13, 2) := by decide +kernel
theorem dX7_bid_166 : decode cX7_bid 166 = .ok (.iadd, 1) := by decide +kernel
theorem dX7_bid_167 : decode cX7_bid 167 = .ok (.goto 5, 3) := by decide +kernel
theorem dX7_bid_170 : decode cX7_bid 170 = .ok (.iload 10, 2) := by decide +kernel
theorem dX7_bid_172 : decode cX7_bid 172 = .ok (.istore 10, 2) := by decide +kernel
theorem dX7_bid_174 : decode cX7_bid 174 = .ok (.iinc 11 1, 3) := by decide +kernel
theorem dX7_bid_177 : decode cX7_bid 177 = .ok (.iinc 13 1, 3) := by decide +kernel
theorem dX7_bid_180 : decode cX7_bid 180 = .ok (.goto (-62), 3) := by decide +kernel
theorem dX7_bid_183 : decode cX7_bid 183 = .ok (.iinc 12 1, 3) := by decide +kernel
theorem dX7_bid_186 : decode cX7_bid 186 = .ok (.goto (-77), 3) := by decide +kernel
theorem dX7_bid_189 : decode cX7_bid 189 = .ok (.iload 6, 2) := by decide +kernel
theorem dX7_bid_191 : decode cX7_bid 191 = .ok (.ifCond .ne 8, 3) := by decide +kernel
theorem dX7_bid_194 : decode cX7_bid 194 = .ok (.iload 11, 2) := by decide +kernel
theorem dX7_bid_196 : decode cX7_bid 196 = .ok (.goto 5, 3) := by decide +kernel
theorem dX7_bid_199 : decode cX7_bid 199 = .ok (.iload 10, 2) := by decide +kernel
theorem dX7_bid_201 : decode cX7_bid 201 = .ok (.ireturn, 1) := by decide +kernel
theorem dX7_odds_0 : decode cX7_odds 0 = .ok (.iload_n 1, 1) := by decide +kernel
theorem dX7_odds_1 : decode cX7_odds 1 = .ok (.iconst 0, 1) := by decide +kernel
theorem dX7_odds_2 : decode cX7_odds 2 = .ok (.bipush 10, 2) := by decide +kernel
theorem dX7_odds_4 : decode cX7_odds 4 = .ok (.invokestatic 98, 3) := by decide +kernel
theorem dX7_odds_7 : decode cX7_odds 7 = .ok (.ifCond .ne 10, 3) := by decide +kernel
theorem dX7_odds_10 : decode cX7_odds 10 = .ok (.aload_n 0, 1) := by decide +kernel
theorem dX7_odds_11 : decode cX7_odds 11 = .ok (.bipush (-2), 2) := by decide +kernel
theorem dX7_odds_13 : decode cX7_odds 13 = .ok (.invokevirtual 66, 3) := by decide +kernel
theorem dX7_odds_16 : decode cX7_odds 16 = .ok (.ireturn, 1) := by decide +kernel
theorem dX7_odds_17 : decode cX7_odds 17 = .ok (.aload_n 0, 1) := by decide +kernel
theorem dX7_odds_18 : decode cX7_odds 18 = .ok (.getfield 51, 3) := by decide +kernel
theorem dX7_odds_21 : decode cX7_odds 21 = .ok (.aload_n 0, 1) := by decide +kernel
theorem dX7_odds_22 : decode cX7_odds 22 = .ok (.getfield 10, 3) := by decide +kernel
theorem dX7_odds_25 : decode cX7_odds 25 = .ok (.iload_n 1, 1) := by decide +kernel
theorem dX7_odds_26 : decode cX7_odds 26 = .ok (.invokevirtual 244, 3) := by decide +kernel
theorem dX7_odds_29 : decode cX7_odds 29 = .ok (.iconst 1, 1) := by decide +kernel
theorem dX7_odds_30 : decode cX7_odds 30 = .ok (.ireturn, 1) := by decide +kernel
theorem dX7_drawn_0 : decode cX7_drawn 0 = .ok (.iload_n 1, 1) := by decide +kernel
theorem dX7_drawn_1 : decode cX7_drawn 1 = .ok (.iconst 0, 1) := by decide +kernel
theorem dX7_drawn_2 : decode cX7_drawn 2 = .ok (.ldc 248, 2) := by decide +kernel
theorem dX7_drawn_4 : decode cX7_drawn 4 = .ok (.invokestatic 98, 3) := by decide +kernel
theorem dX7_drawn_7 : decode cX7_drawn 7 = .ok (.ifCond .eq 13, 3) := by decide +kernel
theorem dX7_drawn_10 : decode cX7_drawn 10 = .ok (.iload_n 2, 1) := by decide +kernel
theorem dX7_drawn_11 : decode cX7_drawn 11 = .ok (.iconst 0, 1) := by decide +kernel
theorem dX7_drawn_12 : decode cX7_drawn 12 = .ok (.bipush 60, 2) := by decide +kernel
theorem dX7_drawn_14 : decode cX7_drawn 14 = .ok (.invokestatic 98, 3) := by decide +kernel
theorem dX7_drawn_17 : decode cX7_drawn 17 = .ok (.ifCond .ne 10, 3) := by decide +kernel
theorem dX7_drawn_20 : decode cX7_drawn 20 = .ok (.aload_n 0, 1) := by decide +kernel
theorem dX7_drawn_21 : decode cX7_drawn 21 = .ok (.bipush (-2), 2) := by decide +kernel
theorem dX7_drawn_23 : decode cX7_drawn 23 = .ok (.invokevirtual 66, 3) := by decide +kernel
theorem dX7_drawn_26 : decode cX7_drawn 26 = .ok (.ireturn, 1) := by decide +kernel
theorem dX7_drawn_27 : decode cX7_drawn 27 = .ok (.iload_n 1, 1) := by decide +kernel
theorem dX7_drawn_28 : decode cX7_drawn 28 = .ok (.i2l, 1) := by decide +kernel
theorem dX7_drawn_29 : decode cX7_drawn 29 = .ok (.lstore_n 3, 1) := by decide +kernel
theorem dX7_drawn_30 : decode cX7_drawn 30 = .ok (.iconst 0, 1) := by decide +kernel
theorem dX7_drawn_31 : decode cX7_drawn 31 = .ok (.istore 5, 2) := by decide +kernel
theorem dX7_drawn_33 : decode cX7_drawn 33 = .ok (.iconst 0, 1) := by decide +kernel
theorem dX7_drawn_34 : decode cX7_drawn 34 = .ok (.istore 6, 2) := by decide +kernel
theorem dX7_drawn_36 : decode cX7_drawn 36 = .ok (.iload 6, 2) := by decide +kernel
theorem dX7_drawn_38 : decode cX7_drawn 38 = .ok (.iload_n 2, 1) := by decide +kernel
theorem dX7_drawn_39 : decode cX7_drawn 39 = .ok (.if_icmp .ge 98, 3) := by decide +kernel
theorem dX7_drawn_42 : decode cX7_drawn 42 = .ok (.aload_n 0, 1) := by decide +kernel
theorem dX7_drawn_43 : decode cX7_drawn 43 = .ok (.getfield 10, 3) := by decide +kernel
theorem dX7_drawn_46 : decode cX7_drawn 46 = .ok (.getfield 92, 3) := by decide +kernel
theorem dX7_drawn_49 : decode cX7_drawn 49 = .ok (.istore 7, 2) := by decide +kernel
theorem dX7_drawn_51 : decode cX7_drawn 51 = .ok (.iconst 0, 1) := by decide +kernel
theorem dX7_drawn_52 : decode cX7_drawn 52 = .ok (.istore 8, 2) := by decide +kernel
theorem dX7_drawn_54 : decode cX7_drawn 54 = .ok (.iload 8, 2) := by decide +kernel
theorem dX7_drawn_56 : decode cX7_drawn 56 = .ok (.aload_n 0, 1) := by decide +kernel
theorem dX7_drawn_57 : decode cX7_drawn 57 = .ok (.getfield 10, 3) := by decide +kernel
theorem dX7_drawn_60 : decode cX7_drawn 60 = .ok (.getfield 70, 3) := by decide +kernel
theorem dX7_drawn_63 : decode cX7_drawn 63 = .ok (.if_icmp .ge 59, 3) := by decide +kernel
theorem dX7_drawn_66 : decode cX7_drawn 66 = .ok (.lload_n 3, 1) := by decide +kernel
theorem dX7_drawn_67 : decode cX7_drawn 67 = .ok (.ldc2_w 249, 3) := by decide +kernel
theorem dX7_drawn_70 : decode cX7_drawn 70 = .ok (.lmul, 1) := by decide +kernel
theorem dX7_drawn_71 : decode cX7_drawn 71 = .ok (.ldc2_w 251, 3) := by decide +kernel
theorem dX7_drawn_74 : decode cX7_drawn 74 = .ok (.ladd, 1) := by decide +kernel
theorem dX7_drawn_75 : decode cX7_drawn 75 = .ok (.ldc2_w 253, 3) := by decide +kernel
theorem dX7_drawn_78 : decode cX7_drawn 78 = .ok (.lrem, 1) := by decide +kernel
theorem dX7_drawn_79 : decode cX7_drawn 79 = .ok (.lstore_n 3, 1) := by decide +kernel
theorem dX7_drawn_80 : decode cX7_drawn 80 = .ok (.lload_n 3, 1) := by decide +kernel
theorem dX7_drawn_81 : decode cX7_drawn 81 = .ok (.ldc2_w 255, 3) := by decide +kernel
theorem dX7_drawn_84 : decode cX7_drawn 84 = .ok (.ldiv, 1) := by decide +kernel
theorem dX7_drawn_85 : decode cX7_drawn 85 = .ok (.ldc2_w 257, 3) := by decide +kernel
theorem dX7_drawn_88 : decode cX7_drawn 88 = .ok (.lrem, 1) := by decide +kernel
theorem dX7_drawn_89 : decode cX7_drawn 89 = .ok (.l2i, 1) := by decide +kernel
theorem dX7_drawn_90 : decode cX7_drawn 90 = .ok (.iconst 1, 1) := by decide +kernel
theorem dX7_drawn_91 : decode cX7_drawn 91 = .ok (.iadd, 1) := by decide +kernel
theorem dX7_drawn_92 : decode cX7_drawn 92 = .ok (.istore 9, 2) := by decide +kernel
theorem dX7_drawn_94 : decode cX7_drawn 94 = .ok (.aload_n 0, 1) := by decide +kernel
theorem dX7_drawn_95 : decode cX7_drawn 95 = .ok (.getfield 10, 3) := by decide +kernel
theorem dX7_drawn_98 : decode cX7_drawn 98 = .ok (.iload 8, 2) := by decide +kernel
theorem dX7_drawn_100 : decode cX7_drawn 100 = .ok (.iload 9, 2) := by decide +kernel
theorem dX7_drawn_102 : decode cX7_drawn 102 = .ok (.iload 7, 2) := by decide +kernel
theorem dX7_drawn_104 : decode cX7_drawn 104 = .ok (.aload_n 0, 1) := by decide +kernel
theorem dX7_drawn_105 : decode cX7_drawn 105 = .ok (.getfield 10, 3) := by decide +kernel
theorem dX7_drawn_108 : decode cX7_drawn 108 = .ok (.getfield 92, 3) := by decide +kernel
theorem dX7_drawn_111 : decode cX7_drawn 111 = .ok (.invokevirtual 259, 3) := by decide +kernel
theorem dX7_drawn_114 : decode cX7_drawn 114 = .ok (.istore 7, 2) := by decide +kernel
theorem dX7_drawn_116 : decode cX7_drawn 116 = .ok (.iinc 8 1, 3) := by decide +kernel
theorem dX7_drawn_119 : decode cX7_drawn 119 = .ok (.goto (-65), 3) := by decide +kernel
theorem dX7_drawn_122 : decode cX7_drawn 122 = .ok (.iload 7, 2) := by decide +kernel
theorem dX7_drawn_124 : decode cX7_drawn 124 = .ok (.iconst (-1), 1) := by decide +kernel
theorem dX7_drawn_125 : decode cX7_drawn 125 = .ok (.if_icmp .eq 6, 3) := by decide +kernel
theorem dX7_drawn_128 : decode cX7_drawn 128 = .ok (.iinc 5 1, 3) := by decide +kernel
theorem dX7_drawn_131 : decode cX7_drawn 131 = .ok (.iinc 6 1, 3) := by decide +kernel
theorem dX7_drawn_134 : decode cX7_drawn 134 = .ok (.goto (-98), 3) := by decide +kernel
theorem dX7_drawn_137 : decode cX7_drawn 137 = .ok (.iload 5, 2) := by decide +kernel
theorem dX7_drawn_139 : decode cX7_drawn 139 = .ok (.ireturn, 1) := by decide +kernel
theorem dX7_part_0 : decode cX7_part 0 = .ok (.iload_n 1, 1) := by decide +kernel
theorem dX7_part_1 : decode cX7_part 1 = .ok (.iconst 0, 1) := by decide +kernel
theorem dX7_part_2 : decode cX7_part 2 = .ok (.iconst 1, 1) := by decide +kernel
theorem dX7_part_3 : decode cX7_part 3 = .ok (.invokestatic 98, 3) := by decide +kernel
theorem dX7_part_6 : decode cX7_part 6 = .ok (.ifCond .ne 11, 3) := by decide +kernel
theorem dX7_part_9 : decode cX7_part 9 = .ok (.aload_n 0, 1) := by decide +kernel
theorem dX7_part_10 : decode cX7_part 10 = .ok (.bipush (-2), 2) := by decide +kernel
theorem dX7_part_12 : decode cX7_part 12 = .ok (.invokevirtual 66, 3) := by decide +kernel
theorem dX7_part_15 : decode cX7_part 15 = .ok (.i2l, 1) := by decide +kernel
theorem dX7_part_16 : decode cX7_part 16 = .ok (.lreturn, 1) := by decide +kernel
theorem dX7_part_17 : decode cX7_part 17 = .ok (.iload_n 1, 1) := by decide +kernel
theorem dX7_part_18 : decode cX7_part 18 = .ok (.ifCond .ne 13, 3) := by decide +kernel
theorem dX7_part_21 : decode cX7_part 21 = .ok (.aload_n 0, 1) := by decide +kernel
theorem dX7_part_22 : decode cX7_part 22 = .ok (.getfield 51, 3) := by decide +kernel
theorem dX7_part_25 : decode cX7_part 25 = .ok (.getfield 263, 3) := by decide +kernel
theorem dX7_part_28 : decode cX7_part 28 = .ok (.goto 10, 3) := by decide +kernel
theorem dX7_part_31 : decode cX7_part 31 = .ok (.aload_n 0, 1) := by decide +kernel
theorem dX7_part_32 : decode cX7_part 32 = .ok (.getfield 51, 3) := by decide +kernel
theorem dX7_part_35 : decode cX7_part 35 = .ok (.getfield 267, 3) := by decide +kernel
theorem dX7_part_38 : decode cX7_part 38 = .ok (.lreturn, 1) := by decide +kernel
theorem dX7_image_0 : decode cX7_image 0 = .ok (.iload_n 1, 1) := by decide +kernel
theorem dX7_image_1 : decode cX7_image 1 = .ok (.iconst 0, 1) := by decide +kernel
theorem dX7_image_2 : decode cX7_image 2 = .ok (.iconst 1, 1) := by decide +kernel
theorem dX7_image_3 : decode cX7_image 3 = .ok (.invokestatic 98, 3) := by decide +kernel
theorem dX7_image_6 : decode cX7_image 6 = .ok (.ifCond .ne 10, 3) := by decide +kernel
theorem dX7_image_9 : decode cX7_image 9 = .ok (.aload_n 0, 1) := by decide +kernel
theorem dX7_image_10 : decode cX7_image 10 = .ok (.bipush (-2), 2) := by decide +kernel
theorem dX7_image_12 : decode cX7_image 12 = .ok (.invokevirtual 66, 3) := by decide +kernel
theorem dX7_image_15 : decode cX7_image 15 = .ok (.ireturn, 1) := by decide +kernel
theorem dX7_image_16 : decode cX7_image 16 = .ok (.aload_n 0, 1) := by decide +kernel
theorem dX7_image_17 : decode cX7_image 17 = .ok (.getfield 19, 3) := by decide +kernel
theorem dX7_image_20 : decode cX7_image 20 = .ok (.iload_n 1, 1) := by decide +kernel
theorem dX7_image_21 : decode cX7_image 21 = .ok (.aaload, 1) := by decide +kernel
theorem dX7_image_22 : decode cX7_image 22 = .ok (.aload_n 0, 1) := by decide +kernel
theorem dX7_image_23 : decode cX7_image 23 = .ok (.getfield 10, 3) := by decide +kernel
theorem dX7_image_26 : decode cX7_image 26 = .ok (.invokevirtual 141, 3) := by decide +kernel
theorem dX7_image_29 : decode cX7_image 29 = .ok (.aload_n 0, 1) := by decide +kernel
theorem dX7_image_30 : decode cX7_image 30 = .ok (.getfield 23, 3) := by decide +kernel
theorem dX7_image_33 : decode cX7_image 33 = .ok (.iload_n 1, 1) := by decide +kernel
theorem dX7_image_34 : decode cX7_image 34 = .ok (.iconst 1, 1) := by decide +kernel
theorem dX7_image_35 : decode cX7_image 35 = .ok (.bastore, 1) := by decide +kernel
theorem dX7_image_36 : decode cX7_image 36 = .ok (.iconst 1, 1) := by decide +kernel
theorem dX7_image_37 : decode cX7_image 37 = .ok (.ireturn, 1) := by decide +kernel
theorem dX7_from_0 : decode cX7_from 0 = .ok (.iload_n 1, 1) := by decide +kernel
theorem dX7_from_1 : decode cX7_from 1 = .ok (.iconst 0, 1) := by decide +kernel
theorem dX7_from_2 : decode cX7_from 2 = .ok (.iconst 1, 1) := by decide +kernel
theorem dX7_from_3 : decode cX7_from 3 = .ok (.invokestatic 98, 3) := by decide +kernel
theorem dX7_from_6 : decode cX7_from 6 = .ok (.ifCond .ne 10, 3) := by decide +kernel
theorem dX7_from_9 : decode cX7_from 9 = .ok (.aload_n 0, 1) := by decide +kernel
theorem dX7_from_10 : decode cX7_from 10 = .ok (.bipush (-2), 2) := by decide +kernel
theorem dX7_from_12 : decode cX7_from 12 = .ok (.invokevirtual 66, 3) := by decide +kernel
theorem dX7_from_15 : decode cX7_from 15 = .ok (.ireturn, 1) := by decide +kernel
theorem dX7_from_16 : decode cX7_from 16 = .ok (.aload_n 0, 1) := by decide +kernel
theorem dX7_from_17 : decode cX7_from 17 = .ok (.getfield 23, 3) := by decide +kernel
theorem dX7_from_20 : decode cX7_from 20 = .ok (.iload_n 1, 1) := by decide +kernel
theorem dX7_from_21 : decode cX7_from 21 = .ok (.baload, 1) := by decide +kernel
theorem dX7_from_22 : decode cX7_from 22 = .ok (.ifCond .ne 10, 3) := by decide +kernel
theorem dX7_from_25 : decode cX7_from 25 = .ok (.aload_n 0, 1) := by decide +kernel
theorem dX7_from_26 : decode cX7_from 26 = .ok (.bipush (-3), 2) := by decide +kernel
theorem dX7_from_28 : decode cX7_from 28 = .ok (.invokevirtual 148, 3) := by decide +kernel
theorem dX7_from_31 : decode cX7_from 31 = .ok (.ireturn, 1) := by decide +kernel
theorem dX7_from_32 : decode cX7_from 32 = .ok (.aload_n 0, 1) := by decide +kernel
theorem dX7_from_33 : decode cX7_from 33 = .ok (.getfield 10, 3) := by decide +kernel
theorem dX7_from_36 : decode cX7_from 36 = .ok (.aload_n 0, 1) := by decide +kernel
theorem dX7_from_37 : decode cX7_from 37 = .ok (.getfield 19, 3) := by decide +kernel
theorem dX7_from_40 : decode cX7_from 40 = .ok (.iload_n 1, 1) := by decide +kernel
theorem dX7_from_41 : decode cX7_from 41 = .ok (.aaload, 1) := by decide +kernel
theorem dX7_from_42 : decode cX7_from 42 = .ok (.invokevirtual 141, 3) := by decide +kernel
theorem dX7_from_45 : decode cX7_from 45 = .ok (.iconst 1, 1) := by decide +kernel
theorem dX7_from_46 : decode cX7_from 46 = .ok (.ireturn, 1) := by decide +kernel
theorem dX7_status_0 : decode cX7_status 0 = .ok (.iload_n 1, 1) := by decide +kernel
theorem dX7_status_1 : decode cX7_status 1 = .ok (.tableswitch 42 0 2 #[27, 32, 37], 27) := by decide +kernel
theorem dX7_status_28 : decode cX7_status 28 = .ok (.aload_n 0, 1) := by decide +kernel
theorem dX7_status_29 : decode cX7_status 29 = .ok (.getfield 270, 3) := by decide +kernel
theorem dX7_status_32 : decode cX7_status 32 = .ok (.ireturn, 1) := by decide +kernel
theorem dX7_status_33 : decode cX7_status 33 = .ok (.aload_n 0, 1) := by decide +kernel
theorem dX7_status_34 : decode cX7_status 34 = .ok (.getfield 273, 3) := by decide +kernel
theorem dX7_status_37 : decode cX7_status 37 = .ok (.ireturn, 1) := by decide +kernel
theorem dX7_status_38 : decode cX7_status 38 = .ok (.aload_n 0, 1) := by decide +kernel
theorem dX7_status_39 : decode cX7_status 39 = .ok (.getfield 276, 3) := by decide +kernel
theorem dX7_status_42 : decode cX7_status 42 = .ok (.ireturn, 1) := by decide +kernel
theorem dX7_status_43 : decode cX7_status 43 = .ok (.aload_n 0, 1) := by decide +kernel
theorem dX7_status_44 : decode cX7_status 44 = .ok (.iconst (-1), 1) := by decide +kernel
theorem dX7_status_45 : decode cX7_status 45 = .ok (.invokevirtual 66, 3) := by decide +kernel
theorem dX7_status_48 : decode cX7_status 48 = .ok (.ireturn, 1) := by decide +kernel
theorem dX7_count_0 : decode cX7_count 0 = .ok (.iload_n 1, 1) := by decide +kernel
theorem dX7_count_1 : decode cX7_count 1 = .ok (.iconst 0, 1) := by decide +kernel
theorem dX7_count_2 : decode cX7_count 2 = .ok (.bipush 8, 2) := by decide +kernel
theorem dX7_count_4 : decode cX7_count 4 = .ok (.invokestatic 98, 3) := by decide +kernel
theorem dX7_count_7 : decode cX7_count 7 = .ok (.ifCond .eq 11, 3) := by decide +kernel
theorem dX7_count_10 : decode cX7_count 10 = .ok (.aload_n 0, 1) := by decide +kernel
theorem dX7_count_11 : decode cX7_count 11 = .ok (.iload_n 1, 1) := by decide +kernel
theorem dX7_count_12 : decode cX7_count 12 = .ok (.invokevirtual 279, 3) := by decide +kernel
theorem dX7_count_15 : decode cX7_count 15 = .ok (.goto 9, 3) := by decide +kernel
theorem dX7_count_18 : decode cX7_count 18 = .ok (.aload_n 0, 1) := by decide +kernel
theorem dX7_count_19 : decode cX7_count 19 = .ok (.bipush (-2), 2) := by decide +kernel
theorem dX7_count_21 : decode cX7_count 21 = .ok (.invokevirtual 66, 3) := by decide +kernel
theorem dX7_count_24 : decode cX7_count 24 = .ok (.ireturn, 1) := by decide +kernel
theorem dX7_digest_0 : decode cX7_digest 0 = .ok (.ldc2_w 282, 3) := by decide +kernel
theorem dX7_digest_3 : decode cX7_digest 3 = .ok (.lstore_n 1, 1) := by decide +kernel
theorem dX7_digest_4 : decode cX7_digest 4 = .ok (.iconst 0, 1) := by decide +kernel
theorem dX7_digest_5 : decode cX7_digest 5 = .ok (.istore_n 3, 1) := by decide +kernel
theorem dX7_digest_6 : decode cX7_digest 6 = .ok (.iload_n 3, 1) := by decide +kernel
theorem dX7_digest_7 : decode cX7_digest 7 = .ok (.bipush 9, 2) := by decide +kernel
theorem dX7_digest_9 : decode cX7_digest 9 = .ok (.if_icmp .ge 22, 3) := by decide +kernel
theorem dX7_digest_12 : decode cX7_digest 12 = .ok (.ldc2_w 284, 3) := by decide +kernel
theorem dX7_digest_15 : decode cX7_digest 15 = .ok (.lload_n 1, 1) := by decide +kernel
theorem dX7_digest_16 : decode cX7_digest 16 = .ok (.lmul, 1) := by decide +kernel
theorem dX7_digest_17 : decode cX7_digest 17 = .ok (.aload_n 0, 1) := by decide +kernel
theorem dX7_digest_18 : decode cX7_digest 18 = .ok (.iload_n 3, 1) := by decide +kernel
theorem dX7_digest_19 : decode cX7_digest 19 = .ok (.invokevirtual 279, 3) := by decide +kernel
theorem dX7_digest_22 : decode cX7_digest 22 = .ok (.i2l, 1) := by decide +kernel
theorem dX7_digest_23 : decode cX7_digest 23 = .ok (.ladd, 1) := by decide +kernel
theorem dX7_digest_24 : decode cX7_digest 24 = .ok (.lstore_n 1, 1) := by decide +kernel
theorem dX7_digest_25 : decode cX7_digest 25 = .ok (.iinc 3 1, 3) := by decide +kernel
theorem dX7_digest_28 : decode cX7_digest 28 = .ok (.goto (-22), 3) := by decide +kernel
theorem dX7_digest_31 : decode cX7_digest 31 = .ok (.iconst 0, 1) := by decide +kernel
theorem dX7_digest_32 : decode cX7_digest 32 = .ok (.istore_n 3, 1) := by decide +kernel
theorem dX7_digest_33 : decode cX7_digest 33 = .ok (.iload_n 3, 1) := by decide +kernel
theorem dX7_digest_34 : decode cX7_digest 34 = .ok (.aload_n 0, 1) := by decide +kernel
theorem dX7_digest_35 : decode cX7_digest 35 = .ok (.getfield 10, 3) := by decide +kernel
theorem dX7_digest_38 : decode cX7_digest 38 = .ok (.getfield 70, 3) := by decide +kernel
theorem dX7_digest_41 : decode cX7_digest 41 = .ok (.if_icmp .ge 66, 3) := by decide +kernel
theorem dX7_digest_44 : decode cX7_digest 44 = .ok (.ldc2_w 284, 3) := by decide +kernel
theorem dX7_digest_47 : decode cX7_digest 47 = .ok (.lload_n 1, 1) := by decide +kernel
theorem dX7_digest_48 : decode cX7_digest 48 = .ok (.lmul, 1) := by decide +kernel
theorem dX7_digest_49 : decode cX7_digest 49 = .ok (.aload_n 0, 1) := by decide +kernel
theorem dX7_digest_50 : decode cX7_digest 50 = .ok (.getfield 10, 3) := by decide +kernel
theorem dX7_digest_53 : decode cX7_digest 53 = .ok (.getfield 175, 3) := by decide +kernel
theorem dX7_digest_56 : decode cX7_digest 56 = .ok (.iload_n 3, 1) := by decide +kernel
theorem dX7_digest_57 : decode cX7_digest 57 = .ok (.iaload, 1) := by decide +kernel
theorem dX7_digest_58 : decode cX7_digest 58 = .ok (.i2l, 1) := by decide +kernel
theorem dX7_digest_59 : decode cX7_digest 59 = .ok (.ladd, 1) := by decide +kernel
theorem dX7_digest_60 : decode cX7_digest 60 = .ok (.lstore_n 1, 1) := by decide +kernel
theorem dX7_digest_61 : decode cX7_digest 61 = .ok (.ldc2_w 284, 3) := by decide +kernel
theorem dX7_digest_64 : decode cX7_digest 64 = .ok (.lload_n 1, 1) := by decide +kernel
theorem dX7_digest_65 : decode cX7_digest 65 = .ok (.lmul, 1) := by decide +kernel
theorem dX7_digest_66 : decode cX7_digest 66 = .ok (.aload_n 0, 1) := by decide +kernel
theorem dX7_digest_67 : decode cX7_digest 67 = .ok (.getfield 10, 3) := by decide +kernel
theorem dX7_digest_70 : decode cX7_digest 70 = .ok (.getfield 102, 3) := by decide +kernel
theorem dX7_digest_73 : decode cX7_digest 73 = .ok (.getfield 119, 3) := by decide +kernel
theorem dX7_digest_76 : decode cX7_digest 76 = .ok (.iload_n 3, 1) := by decide +kernel
theorem dX7_digest_77 : decode cX7_digest 77 = .ok (.iaload, 1) := by decide +kernel
theorem dX7_digest_78 : decode cX7_digest 78 = .ok (.i2l, 1) := by decide +kernel
theorem dX7_digest_79 : decode cX7_digest 79 = .ok (.ladd, 1) := by decide +kernel
theorem dX7_digest_80 : decode cX7_digest 80 = .ok (.lstore_n 1, 1) := by decide +kernel
theorem dX7_digest_81 : decode cX7_digest 81 = .ok (.ldc2_w 284, 3) := by decide +kernel
theorem dX7_digest_84 : decode cX7_digest 84 = .ok (.lload_n 1, 1) := by decide +kernel
theorem dX7_digest_85 : decode cX7_digest 85 = .ok (.lmul, 1) := by decide +kernel
theorem dX7_digest_86 : decode cX7_digest 86 = .ok (.aload_n 0, 1) := by decide +kernel
theorem dX7_digest_87 : decode cX7_digest 87 = .ok (.getfield 10, 3) := by decide +kernel
theorem dX7_digest_90 : decode cX7_digest 90 = .ok (.getfield 102, 3) := by decide +kernel
theorem dX7_digest_93 : decode cX7_digest 93 = .ok (.getfield 178, 3) := by decide +kernel
theorem dX7_digest_96 : decode cX7_digest 96 = .ok (.iload_n 3, 1) := by decide +kernel
theorem dX7_digest_97 : decode cX7_digest 97 = .ok (.iaload, 1) := by decide +kernel
theorem dX7_digest_98 : decode cX7_digest 98 = .ok (.i2l, 1) := by decide +kernel
theorem dX7_digest_99 : decode cX7_digest 99 = .ok (.ladd, 1) := by decide +kernel
theorem dX7_digest_100 : decode cX7_digest 100 = .ok (.lstore_n 1, 1) := by decide +kernel
theorem dX7_digest_101 : decode cX7_digest 101 = .ok (.iinc 3 1, 3) := by decide +kernel
theorem dX7_digest_104 : decode cX7_digest 104 = .ok (.goto (-71), 3) := by decide +kernel
theorem dX7_digest_107 : decode cX7_digest 107 = .ok (.iconst 0, 1) := by decide +kernel
theorem dX7_digest_108 : decode cX7_digest 108 = .ok (.istore_n 3, 1) := by decide +kernel
theorem dX7_digest_109 : decode cX7_digest 109 = .ok (.iload_n 3, 1) := by decide +kernel
theorem dX7_digest_110 : decode cX7_digest 110 = .ok (.aload_n 0, 1) := by decide +kernel
theorem dX7_digest_111 : decode cX7_digest 111 = .ok (.getfield 10, 3) := by decide +kernel
theorem dX7_digest_114 : decode cX7_digest 114 = .ok (.getfield 225, 3) := by decide +kernel
theorem dX7_digest_117 : decode cX7_digest 117 = .ok (.if_icmp .ge 26, 3) := by decide +kernel
theorem dX7_digest_120 : decode cX7_digest 120 = .ok (.ldc2_w 284, 3) := by decide +kernel
theorem dX7_digest_123 : decode cX7_digest 123 = .ok (.lload_n 1, 1) := by decide +kernel
theorem dX7_digest_124 : decode cX7_digest 124 = .ok (.lmul, 1) := by decide +kernel
theorem dX7_digest_125 : decode cX7_digest 125 = .ok (.aload_n 0, 1) := by decide +kernel
theorem dX7_digest_126 : decode cX7_digest 126 = .ok (.getfield 10, 3) := by decide +kernel
theorem dX7_digest_129 : decode cX7_digest 129 = .ok (.getfield 286, 3) := by decide +kernel
theorem dX7_digest_132 : decode cX7_digest 132 = .ok (.iload_n 3, 1) := by decide +kernel
theorem dX7_digest_133 : decode cX7_digest 133 = .ok (.iaload, 1) := by decide +kernel
theorem dX7_digest_134 : decode cX7_digest 134 = .ok (.i2l, 1) := by decide +kernel
theorem dX7_digest_135 : decode cX7_digest 135 = .ok (.ladd, 1) := by decide +kernel
theorem dX7_digest_136 : decode cX7_digest 136 = .ok (.lstore_n 1, 1) := by decide +kernel
theorem dX7_digest_137 : decode cX7_digest 137 = .ok (.iinc 3 1, 3) := by decide +kernel
theorem dX7_digest_140 : decode cX7_digest 140 = .ok (.goto (-31), 3) := by decide +kernel
theorem dX7_digest_143 : decode cX7_digest 143 = .ok (.ldc2_w 284, 3) := by decide +kernel
theorem dX7_digest_146 : decode cX7_digest 146 = .ok (.lload_n 1, 1) := by decide +kernel
theorem dX7_digest_147 : decode cX7_digest 147 = .ok (.lmul, 1) := by decide +kernel
theorem dX7_digest_148 : decode cX7_digest 148 = .ok (.aload_n 0, 1) := by decide +kernel
theorem dX7_digest_149 : decode cX7_digest 149 = .ok (.getfield 51, 3) := by decide +kernel
theorem dX7_digest_152 : decode cX7_digest 152 = .ok (.getfield 263, 3) := by decide +kernel
theorem dX7_digest_155 : decode cX7_digest 155 = .ok (.ladd, 1) := by decide +kernel
theorem dX7_digest_156 : decode cX7_digest 156 = .ok (.lstore_n 1, 1) := by decide +kernel
theorem dX7_digest_157 : decode cX7_digest 157 = .ok (.ldc2_w 284, 3) := by decide +kernel
theorem dX7_digest_160 : decode cX7_digest 160 = .ok (.lload_n 1, 1) := by decide +kernel
theorem dX7_digest_161 : decode cX7_digest 161 = .ok (.lmul, 1) := by decide +kernel
theorem dX7_digest_162 : decode cX7_digest 162 = .ok (.aload_n 0, 1) := by decide +kernel
theorem dX7_digest_163 : decode cX7_digest 163 = .ok (.getfield 51, 3) := by decide +kernel
theorem dX7_digest_166 : decode cX7_digest 166 = .ok (.getfield 267, 3) := by decide +kernel
theorem dX7_digest_169 : decode cX7_digest 169 = .ok (.ladd, 1) := by decide +kernel
theorem dX7_digest_170 : decode cX7_digest 170 = .ok (.lreturn, 1) := by decide +kernel
theorem dX7_bad_0 : decode cX7_bad 0 = .ok (.aload_n 0, 1) := by decide +kernel
theorem dX7_bad_1 : decode cX7_bad 1 = .ok (.dup, 1) := by decide +kernel
theorem dX7_bad_2 : decode cX7_bad 2 = .ok (.getfield 270, 3) := by decide +kernel
theorem dX7_bad_5 : decode cX7_bad 5 = .ok (.iconst 1, 1) := by decide +kernel
theorem dX7_bad_6 : decode cX7_bad 6 = .ok (.iadd, 1) := by decide +kernel
theorem dX7_bad_7 : decode cX7_bad 7 = .ok (.putfield 270, 3) := by decide +kernel
theorem dX7_bad_10 : decode cX7_bad 10 = .ok (.iload_n 1, 1) := by decide +kernel
theorem dX7_bad_11 : decode cX7_bad 11 = .ok (.ireturn, 1) := by decide +kernel
theorem dX7_no_0 : decode cX7_no 0 = .ok (.aload_n 0, 1) := by decide +kernel
theorem dX7_no_1 : decode cX7_no 1 = .ok (.dup, 1) := by decide +kernel
theorem dX7_no_2 : decode cX7_no 2 = .ok (.getfield 273, 3) := by decide +kernel
theorem dX7_no_5 : decode cX7_no 5 = .ok (.iconst 1, 1) := by decide +kernel
theorem dX7_no_6 : decode cX7_no 6 = .ok (.iadd, 1) := by decide +kernel
theorem dX7_no_7 : decode cX7_no 7 = .ok (.putfield 273, 3) := by decide +kernel
theorem dX7_no_10 : decode cX7_no 10 = .ok (.iload_n 1, 1) := by decide +kernel
theorem dX7_no_11 : decode cX7_no 11 = .ok (.ireturn, 1) := by decide +kernel
theorem dX7_full_0 : decode cX7_full 0 = .ok (.aload_n 0, 1) := by decide +kernel
theorem dX7_full_1 : decode cX7_full 1 = .ok (.dup, 1) := by decide +kernel
theorem dX7_full_2 : decode cX7_full 2 = .ok (.getfield 276, 3) := by decide +kernel
theorem dX7_full_5 : decode cX7_full 5 = .ok (.iconst 1, 1) := by decide +kernel
theorem dX7_full_6 : decode cX7_full 6 = .ok (.iadd, 1) := by decide +kernel
theorem dX7_full_7 : decode cX7_full 7 = .ok (.putfield 276, 3) := by decide +kernel
theorem dX7_full_10 : decode cX7_full 10 = .ok (.iload_n 1, 1) := by decide +kernel
theorem dX7_full_11 : decode cX7_full 11 = .ok (.ireturn, 1) := by decide +kernel
theorem dX7_isWithin_0 : decode cX7_isWithin 0 = .ok (.iload_n 0, 1) := by decide +kernel
theorem dX7_isWithin_1 : decode cX7_isWithin 1 = .ok (.iload_n 1, 1) := by decide +kernel
theorem dX7_isWithin_2 : decode cX7_isWithin 2 = .ok (.if_icmp .lt 12, 3) := by decide +kernel
theorem dX7_isWithin_5 : decode cX7_isWithin 5 = .ok (.iload_n 0, 1) := by decide +kernel
theorem dX7_isWithin_6 : decode cX7_isWithin 6 = .ok (.iload_n 2, 1) := by decide +kernel
theorem dX7_isWithin_7 : decode cX7_isWithin 7 = .ok (.if_icmp .gt 7, 3) := by decide +kernel
theorem dX7_isWithin_10 : decode cX7_isWithin 10 = .ok (.iconst 1, 1) := by decide +kernel
theorem dX7_isWithin_11 : decode cX7_isWithin 11 = .ok (.goto 4, 3) := by decide +kernel
theorem dX7_isWithin_14 : decode cX7_isWithin 14 = .ok (.iconst 0, 1) := by decide +kernel
theorem dX7_isWithin_15 : decode cX7_isWithin 15 = .ok (.ireturn, 1) := by decide +kernel
theorem dX7_isBreath_0 : decode cX7_isBreath 0 = .ok (.iload_n 0, 1) := by decide +kernel
theorem dX7_isBreath_1 : decode cX7_isBreath 1 = .ok (.iconst 1, 1) := by decide +kernel
theorem dX7_isBreath_2 : decode cX7_isBreath 2 = .ok (.bipush 30, 2) := by decide +kernel
theorem dX7_isBreath_4 : decode cX7_isBreath 4 = .ok (.invokestatic 98, 3) := by decide +kernel
theorem dX7_isBreath_7 : decode cX7_isBreath 7 = .ok (.ireturn, 1) := by decide +kernel
theorem dX7_isPrice_0 : decode cX7_isPrice 0 = .ok (.iload_n 0, 1) := by decide +kernel
theorem dX7_isPrice_1 : decode cX7_isPrice 1 = .ok (.iconst 1, 1) := by decide +kernel
theorem dX7_isPrice_2 : decode cX7_isPrice 2 = .ok (.bipush 9, 2) := by decide +kernel
theorem dX7_isPrice_4 : decode cX7_isPrice 4 = .ok (.invokestatic 98, 3) := by decide +kernel
theorem dX7_isPrice_7 : decode cX7_isPrice 7 = .ok (.ireturn, 1) := by decide +kernel
theorem dX7_isLength_0 : decode cX7_isLength 0 = .ok (.iload_n 0, 1) := by decide +kernel
theorem dX7_isLength_1 : decode cX7_isLength 1 = .ok (.iconst 1, 1) := by decide +kernel
theorem dX7_isLength_2 : decode cX7_isLength 2 = .ok (.bipush 9, 2) := by decide +kernel
theorem dX7_isLength_4 : decode cX7_isLength 4 = .ok (.invokestatic 98, 3) := by decide +kernel
theorem dX7_isLength_7 : decode cX7_isLength 7 = .ok (.ireturn, 1) := by decide +kernel
theorem dX7_countOf_0 : decode cX7_countOf 0 = .ok (.iload_n 1, 1) := by decide +kernel
theorem dX7_countOf_1 : decode cX7_countOf 1 = .ok (.tableswitch 117 0 7 #[47, 55, 63, 71, 79, 90, 101, 109], 47) := by decide +kernel
theorem dX7_countOf_48 : decode cX7_countOf 48 = .ok (.aload_n 0, 1) := by decide +kernel
theorem dX7_countOf_49 : decode cX7_countOf 49 = .ok (.getfield 10, 3) := by decide +kernel
theorem dX7_countOf_52 : decode cX7_countOf 52 = .ok (.getfield 70, 3) := by decide +kernel
theorem dX7_countOf_55 : decode cX7_countOf 55 = .ok (.ireturn, 1) := by decide +kernel
theorem dX7_countOf_56 : decode cX7_countOf 56 = .ok (.aload_n 0, 1) := by decide +kernel
theorem dX7_countOf_57 : decode cX7_countOf 57 = .ok (.getfield 10, 3) := by decide +kernel
theorem dX7_countOf_60 : decode cX7_countOf 60 = .ok (.invokevirtual 289, 3) := by decide +kernel
theorem dX7_countOf_63 : decode cX7_countOf 63 = .ok (.ireturn, 1) := by decide +kernel
theorem dX7_countOf_64 : decode cX7_countOf 64 = .ok (.aload_n 0, 1) := by decide +kernel
theorem dX7_countOf_65 : decode cX7_countOf 65 = .ok (.getfield 10, 3) := by decide +kernel
theorem dX7_countOf_68 : decode cX7_countOf 68 = .ok (.getfield 92, 3) := by decide +kernel
theorem dX7_countOf_71 : decode cX7_countOf 71 = .ok (.ireturn, 1) := by decide +kernel
theorem dX7_countOf_72 : decode cX7_countOf 72 = .ok (.aload_n 0, 1) := by decide +kernel
theorem dX7_countOf_73 : decode cX7_countOf 73 = .ok (.getfield 10, 3) := by decide +kernel
theorem dX7_countOf_76 : decode cX7_countOf 76 = .ok (.getfield 95, 3) := by decide +kernel
theorem dX7_countOf_79 : decode cX7_countOf 79 = .ok (.ireturn, 1) := by decide +kernel
theorem dX7_countOf_80 : decode cX7_countOf 80 = .ok (.aload_n 0, 1) := by decide +kernel
theorem dX7_countOf_81 : decode cX7_countOf 81 = .ok (.getfield 10, 3) := by decide +kernel
theorem dX7_countOf_84 : decode cX7_countOf 84 = .ok (.getfield 102, 3) := by decide +kernel
theorem dX7_countOf_87 : decode cX7_countOf 87 = .ok (.getfield 106, 3) := by decide +kernel
theorem dX7_countOf_90 : decode cX7_countOf 90 = .ok (.ireturn, 1) := by decide +kernel
theorem dX7_countOf_91 : decode cX7_countOf 91 = .ok (.aload_n 0, 1) := by decide +kernel
theorem dX7_countOf_92 : decode cX7_countOf 92 = .ok (.getfield 10, 3) := by decide +kernel
theorem dX7_countOf_95 : decode cX7_countOf 95 = .ok (.getfield 102, 3) := by decide +kernel
theorem dX7_countOf_98 : decode cX7_countOf 98 = .ok (.getfield 166, 3) := by decide +kernel
theorem dX7_countOf_101 : decode cX7_countOf 101 = .ok (.ireturn, 1) := by decide +kernel
theorem dX7_countOf_102 : decode cX7_countOf 102 = .ok (.aload_n 0, 1) := by decide +kernel
theorem dX7_countOf_103 : decode cX7_countOf 103 = .ok (.getfield 10, 3) := by decide +kernel
theorem dX7_countOf_106 : decode cX7_countOf 106 = .ok (.getfield 225, 3) := by decide +kernel
theorem dX7_countOf_109 : decode cX7_countOf 109 = .ok (.ireturn, 1) := by decide +kernel
theorem dX7_countOf_110 : decode cX7_countOf 110 = .ok (.aload_n 0, 1) := by decide +kernel
theorem dX7_countOf_111 : decode cX7_countOf 111 = .ok (.getfield 10, 3) := by decide +kernel
theorem dX7_countOf_114 : decode cX7_countOf 114 = .ok (.getfield 169, 3) := by decide +kernel
theorem dX7_countOf_117 : decode cX7_countOf 117 = .ok (.ireturn, 1) := by decide +kernel
theorem dX7_countOf_118 : decode cX7_countOf 118 = .ok (.aload_n 0, 1) := by decide +kernel
theorem dX7_countOf_119 : decode cX7_countOf 119 = .ok (.getfield 30, 3) := by decide +kernel
theorem dX7_countOf_122 : decode cX7_countOf 122 = .ok (.getfield 125, 3) := by decide +kernel
theorem dX7_countOf_125 : decode cX7_countOf 125 = .ok (.ireturn, 1) := by decide +kernel
theorem dX7_tellItem_0 : decode cX7_tellItem 0 = .ok (.aload_n 0, 1) := by decide +kernel
theorem dX7_tellItem_1 : decode cX7_tellItem 1 = .ok (.getfield 30, 3) := by decide +kernel
theorem dX7_tellItem_4 : decode cX7_tellItem 4 = .ok (.getfield 292, 3) := by decide +kernel
theorem dX7_tellItem_7 : decode cX7_tellItem 7 = .ok (.iload_n 1, 1) := by decide +kernel
theorem dX7_tellItem_8 : decode cX7_tellItem 8 = .ok (.iaload, 1) := by decide +kernel
theorem dX7_tellItem_9 : decode cX7_tellItem 9 = .ok (.istore_n 2, 1) := by decide +kernel
theorem dX7_tellItem_10 : decode cX7_tellItem 10 = .ok (.aload_n 0, 1) := by decide +kernel
theorem dX7_tellItem_11 : decode cX7_tellItem 11 = .ok (.getfield 30, 3) := by decide +kernel
theorem dX7_tellItem_14 : decode cX7_tellItem 14 = .ok (.getfield 295, 3) := by decide +kernel
theorem dX7_tellItem_17 : decode cX7_tellItem 17 = .ok (.iload_n 1, 1) := by decide +kernel
theorem dX7_tellItem_18 : decode cX7_tellItem 18 = .ok (.iaload, 1) := by decide +kernel
theorem dX7_tellItem_19 : decode cX7_tellItem 19 = .ok (.istore_n 3, 1) := by decide +kernel
theorem dX7_tellItem_20 : decode cX7_tellItem 20 = .ok (.aload_n 0, 1) := by decide +kernel
theorem dX7_tellItem_21 : decode cX7_tellItem 21 = .ok (.getfield 30, 3) := by decide +kernel
theorem dX7_tellItem_24 : decode cX7_tellItem 24 = .ok (.getfield 298, 3) := by decide +kernel
theorem dX7_tellItem_27 : decode cX7_tellItem 27 = .ok (.iload_n 1, 1) := by decide +kernel
theorem dX7_tellItem_28 : decode cX7_tellItem 28 = .ok (.iaload, 1) := by decide +kernel
theorem dX7_tellItem_29 : decode cX7_tellItem 29 = .ok (.lookupswitch 83 #[(1, 27), (2, 54)], 27) := by decide +kernel
theorem dX7_tellItem_56 : decode cX7_tellItem 56 = .ok (.iload_n 2, 1) := by decide +kernel
theorem dX7_tellItem_57 : decode cX7_tellItem 57 = .ok (.invokestatic 59, 3) := by decide +kernel
theorem dX7_tellItem_60 : decode cX7_tellItem 60 = .ok (.ifCond .eq 10, 3) := by decide +kernel
theorem dX7_tellItem_63 : decode cX7_tellItem 63 = .ok (.iload_n 3, 1) := by decide +kernel
theorem dX7_tellItem_64 : decode cX7_tellItem 64 = .ok (.invokestatic 63, 3) := by decide +kernel
theorem dX7_tellItem_67 : decode cX7_tellItem 67 = .ok (.ifCond .ne 5, 3) := by decide +kernel
theorem dX7_tellItem_70 : decode cX7_tellItem 70 = .ok (.iconst 0, 1) := by decide +kernel
theorem dX7_tellItem_71 : decode cX7_tellItem 71 = .ok (.ireturn, 1) := by decide +kernel
theorem dX7_tellItem_72 : decode cX7_tellItem 72 = .ok (.aload_n 0, 1) := by decide +kernel
theorem dX7_tellItem_73 : decode cX7_tellItem 73 = .ok (.getfield 16, 3) := by decide +kernel
theorem dX7_tellItem_76 : decode cX7_tellItem 76 = .ok (.iload_n 2, 1) := by decide +kernel
theorem dX7_tellItem_77 : decode cX7_tellItem 77 = .ok (.iload_n 3, 1) := by decide +kernel
theorem dX7_tellItem_78 : decode cX7_tellItem 78 = .ok (.invokevirtual 74, 3) := by decide +kernel
theorem dX7_tellItem_81 : decode cX7_tellItem 81 = .ok (.iconst 1, 1) := by decide +kernel
theorem dX7_tellItem_82 : decode cX7_tellItem 82 = .ok (.ireturn, 1) := by decide +kernel
theorem dX7_tellItem_83 : decode cX7_tellItem 83 = .ok (.iload_n 2, 1) := by decide +kernel
theorem dX7_tellItem_84 : decode cX7_tellItem 84 = .ok (.invokestatic 78, 3) := by decide +kernel
theorem dX7_tellItem_87 : decode cX7_tellItem 87 = .ok (.ifCond .eq 13, 3) := by decide +kernel
theorem dX7_tellItem_90 : decode cX7_tellItem 90 = .ok (.aload_n 0, 1) := by decide +kernel
theorem dX7_tellItem_91 : decode cX7_tellItem 91 = .ok (.getfield 16, 3) := by decide +kernel
theorem dX7_tellItem_94 : decode cX7_tellItem 94 = .ok (.invokevirtual 81, 3) := by decide +kernel
theorem dX7_tellItem_97 : decode cX7_tellItem 97 = .ok (.ifCond .ne 5, 3) := by decide +kernel
theorem dX7_tellItem_100 : decode cX7_tellItem 100 = .ok (.iconst 0, 1) := by decide +kernel
theorem dX7_tellItem_101 : decode cX7_tellItem 101 = .ok (.ireturn, 1) := by decide +kernel
theorem dX7_tellItem_102 : decode cX7_tellItem 102 = .ok (.aload_n 0, 1) := by decide +kernel
theorem dX7_tellItem_103 : decode cX7_tellItem 103 = .ok (.getfield 16, 3) := by decide +kernel
theorem dX7_tellItem_106 : decode cX7_tellItem 106 = .ok (.iload_n 2, 1) := by decide +kernel
theorem dX7_tellItem_107 : decode cX7_tellItem 107 = .ok (.invokevirtual 88, 3) := by decide +kernel
theorem dX7_tellItem_110 : decode cX7_tellItem 110 = .ok (.iconst 1, 1) := by decide +kernel
theorem dX7_tellItem_111 : decode cX7_tellItem 111 = .ok (.ireturn, 1) := by decide +kernel
theorem dX7_tellItem_112 : decode cX7_tellItem 112 = .ok (.aload_n 0, 1) := by decide +kernel
theorem dX7_tellItem_113 : decode cX7_tellItem 113 = .ok (.getfield 16, 3) := by decide +kernel
theorem dX7_tellItem_116 : decode cX7_tellItem 116 = .ok (.iload_n 2, 1) := by decide +kernel
theorem dX7_tellItem_117 : decode cX7_tellItem 117 = .ok (.invokevirtual 111, 3) := by decide +kernel
theorem dX7_tellItem_120 : decode cX7_tellItem 120 = .ok (.ifCond .eq 10, 3) := by decide +kernel
theorem dX7_tellItem_123 : decode cX7_tellItem 123 = .ok (.iload_n 3, 1) := by decide +kernel
theorem dX7_tellItem_124 : decode cX7_tellItem 124 = .ok (.invokestatic 114, 3) := by decide +kernel
theorem dX7_tellItem_127 : decode cX7_tellItem 127 = .ok (.ifCond .ne 5, 3) := by decide +kernel
theorem dX7_tellItem_130 : decode cX7_tellItem 130 = .ok (.iconst 0, 1) := by decide +kernel
theorem dX7_tellItem_131 : decode cX7_tellItem 131 = .ok (.ireturn, 1) := by decide +kernel
theorem dX7_tellItem_132 : decode cX7_tellItem 132 = .ok (.aload_n 0, 1) := by decide +kernel
theorem dX7_tellItem_133 : decode cX7_tellItem 133 = .ok (.getfield 16, 3) := by decide +kernel
theorem dX7_tellItem_136 : decode cX7_tellItem 136 = .ok (.iload_n 2, 1) := by decide +kernel
theorem dX7_tellItem_137 : decode cX7_tellItem 137 = .ok (.iload_n 3, 1) := by decide +kernel
theorem dX7_tellItem_138 : decode cX7_tellItem 138 = .ok (.invokevirtual 122, 3) := by decide +kernel
theorem dX7_tellItem_141 : decode cX7_tellItem 141 = .ok (.iconst 1, 1) := by decide +kernel
theorem dX7_tellItem_142 : decode cX7_tellItem 142 = .ok (.ireturn, 1) := by decide +kernel
theorem dX7_mostAlike_0 : decode cX7_mostAlike 0 = .ok (.iconst 0, 1) := by decide +kernel
theorem dX7_mostAlike_1 : decode cX7_mostAlike 1 = .ok (.istore_n 3, 1) := by decide +kernel
theorem dX7_mostAlike_2 : decode cX7_mostAlike 2 = .ok (.aload_n 0, 1) := by decide +kernel
theorem dX7_mostAlike_3 : decode cX7_mostAlike 3 = .ok (.getfield 55, 3) := by decide +kernel
theorem dX7_mostAlike_6 : decode cX7_mostAlike 6 = .ok (.iconst 0, 1) := by decide +kernel
theorem dX7_mostAlike_7 : decode cX7_mostAlike 7 = .ok (.invokestatic 301, 3) := by decide +kernel
theorem dX7_mostAlike_10 : decode cX7_mostAlike 10 = .ok (.iconst 1, 1) := by decide +kernel
theorem dX7_mostAlike_11 : decode cX7_mostAlike 11 = .ok (.istore 4, 2) := by decide +kernel
theorem dX7_mostAlike_13 : decode cX7_mostAlike 13 = .ok (.iload 4, 2) := by decide +kernel
theorem dX7_mostAlike_15 : decode cX7_mostAlike 15 = .ok (.bipush 30, 2) := by decide +kernel
theorem dX7_mostAlike_17 : decode cX7_mostAlike 17 = .ok (.if_icmp .gt 69, 3) := by decide +kernel
theorem dX7_mostAlike_20 : decode cX7_mostAlike 20 = .ok (.iload_n 1, 1) := by decide +kernel
theorem dX7_mostAlike_21 : decode cX7_mostAlike 21 = .ok (.iload 4, 2) := by decide +kernel
theorem dX7_mostAlike_23 : decode cX7_mostAlike 23 = .ok (.ishr, 1) := by decide +kernel
theorem dX7_mostAlike_24 : decode cX7_mostAlike 24 = .ok (.iconst 1, 1) := by decide +kernel
theorem dX7_mostAlike_25 : decode cX7_mostAlike 25 = .ok (.iand, 1) := by decide +kernel
theorem dX7_mostAlike_26 : decode cX7_mostAlike 26 = .ok (.iconst 1, 1) := by decide +kernel
theorem dX7_mostAlike_27 : decode cX7_mostAlike 27 = .ok (.if_icmp .ne 53, 3) := by decide +kernel
theorem dX7_mostAlike_30 : decode cX7_mostAlike 30 = .ok (.aload_n 0, 1) := by decide +kernel
theorem dX7_mostAlike_31 : decode cX7_mostAlike 31 = .ok (.getfield 10, 3) := by decide +kernel
theorem dX7_mostAlike_34 : decode cX7_mostAlike 34 = .ok (.iload 4, 2) := by decide +kernel
theorem dX7_mostAlike_36 : decode cX7_mostAlike 36 = .ok (.iload_n 2, 1) := by decide +kernel
theorem dX7_mostAlike_37 : decode cX7_mostAlike 37 = .ok (.invokevirtual 185, 3) := by decide +kernel
theorem dX7_mostAlike_40 : decode cX7_mostAlike 40 = .ok (.istore 5, 2) := by decide +kernel
theorem dX7_mostAlike_42 : decode cX7_mostAlike 42 = .ok (.iload 5, 2) := by decide +kernel
theorem dX7_mostAlike_44 : decode cX7_mostAlike 44 = .ok (.iconst (-1), 1) := by decide +kernel
theorem dX7_mostAlike_45 : decode cX7_mostAlike 45 = .ok (.if_icmp .ne 8, 3) := by decide +kernel
theorem dX7_mostAlike_48 : decode cX7_mostAlike 48 = .ok (.bipush 12, 2) := by decide +kernel
theorem dX7_mostAlike_50 : decode cX7_mostAlike 50 = .ok (.goto 5, 3) := by decide +kernel
theorem dX7_mostAlike_53 : decode cX7_mostAlike 53 = .ok (.iload 5, 2) := by decide +kernel
theorem dX7_mostAlike_55 : decode cX7_mostAlike 55 = .ok (.istore 6, 2) := by decide +kernel
theorem dX7_mostAlike_57 : decode cX7_mostAlike 57 = .ok (.aload_n 0, 1) := by decide +kernel
theorem dX7_mostAlike_58 : decode cX7_mostAlike 58 = .ok (.getfield 55, 3) := by decide +kernel
theorem dX7_mostAlike_61 : decode cX7_mostAlike 61 = .ok (.iload 6, 2) := by decide +kernel
theorem dX7_mostAlike_63 : decode cX7_mostAlike 63 = .ok (.dup2, 1) := by decide +kernel
theorem dX7_mostAlike_64 : decode cX7_mostAlike 64 = .ok (.iaload, 1) := by decide +kernel
theorem dX7_mostAlike_65 : decode cX7_mostAlike 65 = .ok (.iconst 1, 1) := by decide +kernel
theorem dX7_mostAlike_66 : decode cX7_mostAlike 66 = .ok (.iadd, 1) := by decide +kernel
theorem dX7_mostAlike_67 : decode cX7_mostAlike 67 = .ok (.iastore, 1) := by decide +kernel
theorem dX7_mostAlike_68 : decode cX7_mostAlike 68 = .ok (.iload_n 3, 1) := by decide +kernel
theorem dX7_mostAlike_69 : decode cX7_mostAlike 69 = .ok (.aload_n 0, 1) := by decide +kernel
theorem dX7_mostAlike_70 : decode cX7_mostAlike 70 = .ok (.getfield 55, 3) := by decide +kernel
theorem dX7_mostAlike_73 : decode cX7_mostAlike 73 = .ok (.iload 6, 2) := by decide +kernel
theorem dX7_mostAlike_75 : decode cX7_mostAlike 75 = .ok (.iaload, 1) := by decide +kernel
theorem dX7_mostAlike_76 : decode cX7_mostAlike 76 = .ok (.invokestatic 307, 3) := by decide +kernel
theorem dX7_mostAlike_79 : decode cX7_mostAlike 79 = .ok (.istore_n 3, 1) := by decide +kernel
theorem dX7_mostAlike_80 : decode cX7_mostAlike 80 = .ok (.iinc 4 1, 3) := by decide +kernel
theorem dX7_mostAlike_83 : decode cX7_mostAlike 83 = .ok (.goto (-70), 3) := by decide +kernel
theorem dX7_mostAlike_86 : decode cX7_mostAlike 86 = .ok (.iload_n 3, 1) := by decide +kernel
theorem dX7_mostAlike_87 : decode cX7_mostAlike 87 = .ok (.ireturn, 1) := by decide +kernel
theorem dX7_gain_0 : decode cX7_gain 0 = .ok (.iload_n 0, 1) := by decide +kernel
theorem dX7_gain_1 : decode cX7_gain 1 = .ok (.iload_n 1, 1) := by decide +kernel
theorem dX7_gain_2 : decode cX7_gain 2 = .ok (.if_icmp .le 14, 3) := by decide +kernel
theorem dX7_gain_5 : decode cX7_gain 5 = .ok (.iload_n 0, 1) := by decide +kernel
theorem dX7_gain_6 : decode cX7_gain 6 = .ok (.iload_n 3, 1) := by decide +kernel
theorem dX7_gain_7 : decode cX7_gain 7 = .ok (.if_icmp .lt 9, 3) := by decide +kernel
theorem dX7_gain_10 : decode cX7_gain 10 = .ok (.iload_n 2, 1) := by decide +kernel
theorem dX7_gain_11 : decode cX7_gain 11 = .ok (.iload_n 0, 1) := by decide +kernel
theorem dX7_gain_12 : decode cX7_gain 12 = .ok (.isub, 1) := by decide +kernel
theorem dX7_gain_13 : decode cX7_gain 13 = .ok (.goto 4, 3) := by decide +kernel
theorem dX7_gain_16 : decode cX7_gain 16 = .ok (.iconst 0, 1) := by decide +kernel
theorem dX7_gain_17 : decode cX7_gain 17 = .ok (.ireturn, 1) := by decide +kernel
theorem dX7_isBest_0 : decode cX7_isBest 0 = .ok (.iload_n 0, 1) := by decide +kernel
theorem dX7_isBest_1 : decode cX7_isBest 1 = .ok (.iload_n 2, 1) := by decide +kernel
theorem dX7_isBest_2 : decode cX7_isBest 2 = .ok (.iload_n 3, 1) := by decide +kernel
theorem dX7_isBest_3 : decode cX7_isBest 3 = .ok (.iload 4, 2) := by decide +kernel
theorem dX7_isBest_5 : decode cX7_isBest 5 = .ok (.invokestatic 310, 3) := by decide +kernel
theorem dX7_isBest_8 : decode cX7_isBest 8 = .ok (.istore 5, 2) := by decide +kernel
theorem dX7_isBest_10 : decode cX7_isBest 10 = .ok (.iconst 0, 1) := by decide +kernel
theorem dX7_isBest_11 : decode cX7_isBest 11 = .ok (.istore 6, 2) := by decide +kernel
theorem dX7_isBest_13 : decode cX7_isBest 13 = .ok (.iload 6, 2) := by decide +kernel
theorem dX7_isBest_15 : decode cX7_isBest 15 = .ok (.iload_n 1, 1) := by decide +kernel
theorem dX7_isBest_16 : decode cX7_isBest 16 = .ok (.if_icmp .gt 25, 3) := by decide +kernel
theorem dX7_isBest_19 : decode cX7_isBest 19 = .ok (.iload 6, 2) := by decide +kernel
theorem dX7_isBest_21 : decode cX7_isBest 21 = .ok (.iload_n 2, 1) := by decide +kernel
theorem dX7_isBest_22 : decode cX7_isBest 22 = .ok (.iload_n 3, 1) := by decide +kernel
theorem dX7_isBest_23 : decode cX7_isBest 23 = .ok (.iload 4, 2) := by decide +kernel
theorem dX7_isBest_25 : decode cX7_isBest 25 = .ok (.invokestatic 310, 3) := by decide +kernel
theorem dX7_isBest_28 : decode cX7_isBest 28 = .ok (.iload 5, 2) := by decide +kernel
theorem dX7_isBest_30 : decode cX7_isBest 30 = .ok (.if_icmp .le 5, 3) := by decide +kernel
theorem dX7_isBest_33 : decode cX7_isBest 33 = .ok (.iconst 0, 1) := by decide +kernel
theorem dX7_isBest_34 : decode cX7_isBest 34 = .ok (.ireturn, 1) := by decide +kernel
theorem dX7_isBest_35 : decode cX7_isBest 35 = .ok (.iinc 6 1, 3) := by decide +kernel
theorem dX7_isBest_38 : decode cX7_isBest 38 = .ok (.goto (-25), 3) := by decide +kernel
theorem dX7_isBest_41 : decode cX7_isBest 41 = .ok (.iconst 1, 1) := by decide +kernel
theorem dX7_isBest_42 : decode cX7_isBest 42 = .ok (.ireturn, 1) := by decide +kernel
theorem dJ9_max_7cf53_0 : decode cJ9_max_7cf53 0 = .ok (.iload_n 0, 1) := by decide +kernel
theorem dJ9_max_7cf53_1 : decode cJ9_max_7cf53 1 = .ok (.iload_n 1, 1) := by decide +kernel
theorem dJ9_max_7cf53_2 : decode cJ9_max_7cf53 2 = .ok (.if_icmp .lt 7, 3) := by decide +kernel
theorem dJ9_max_7cf53_5 : decode cJ9_max_7cf53 5 = .ok (.iload_n 0, 1) := by decide +kernel
theorem dJ9_max_7cf53_6 : decode cJ9_max_7cf53 6 = .ok (.goto 4, 3) := by decide +kernel
theorem dJ9_max_7cf53_9 : decode cJ9_max_7cf53 9 = .ok (.iload_n 1, 1) := by decide +kernel
theorem dJ9_max_7cf53_10 : decode cJ9_max_7cf53 10 = .ok (.ireturn, 1) := by decide +kernel
theorem dJ9_min_7cf53_0 : decode cJ9_min_7cf53 0 = .ok (.iload_n 0, 1) := by decide +kernel
theorem dJ9_min_7cf53_1 : decode cJ9_min_7cf53 1 = .ok (.iload_n 1, 1) := by decide +kernel
theorem dJ9_min_7cf53_2 : decode cJ9_min_7cf53 2 = .ok (.if_icmp .gt 7, 3) := by decide +kernel
theorem dJ9_min_7cf53_5 : decode cJ9_min_7cf53 5 = .ok (.iload_n 0, 1) := by decide +kernel
theorem dJ9_min_7cf53_6 : decode cJ9_min_7cf53 6 = .ok (.goto 4, 3) := by decide +kernel
theorem dJ9_min_7cf53_9 : decode cJ9_min_7cf53 9 = .ok (.iload_n 1, 1) := by decide +kernel
theorem dJ9_min_7cf53_10 : decode cJ9_min_7cf53 10 = .ok (.ireturn, 1) := by decide +kernel
theorem dJ0_length_8abf5_0 : decode cJ0_length_8abf5 0 = .ok (.aload_n 0, 1) := by decide +kernel
theorem dJ0_length_8abf5_1 : decode cJ0_length_8abf5 1 = .ok (.getfield 9, 3) := by decide +kernel
theorem dJ0_length_8abf5_4 : decode cJ0_length_8abf5 4 = .ok (.arraylength, 1) := by decide +kernel
theorem dJ0_length_8abf5_5 : decode cJ0_length_8abf5 5 = .ok (.aload_n 0, 1) := by decide +kernel
theorem dJ0_length_8abf5_6 : decode cJ0_length_8abf5 6 = .ok (.invokevirtual 335, 3) := by decide +kernel
theorem dJ0_length_8abf5_9 : decode cJ0_length_8abf5 9 = .ok (.ishr, 1) := by decide +kernel
theorem dJ0_length_8abf5_10 : decode cJ0_length_8abf5 10 = .ok (.ireturn, 1) := by decide +kernel
theorem dJ0_charAt_5068e_0 : decode cJ0_charAt_5068e 0 = .ok (.aload_n 0, 1) := by decide +kernel
theorem dJ0_charAt_5068e_1 : decode cJ0_charAt_5068e 1 = .ok (.invokevirtual 492, 3) := by decide +kernel
theorem dJ0_charAt_5068e_4 : decode cJ0_charAt_5068e 4 = .ok (.ifCond .eq 12, 3) := by decide +kernel
theorem dJ0_charAt_5068e_7 : decode cJ0_charAt_5068e 7 = .ok (.aload_n 0, 1) := by decide +kernel
theorem dJ0_charAt_5068e_8 : decode cJ0_charAt_5068e 8 = .ok (.getfield 9, 3) := by decide +kernel
theorem dJ0_charAt_5068e_11 : decode cJ0_charAt_5068e 11 = .ok (.iload_n 1, 1) := by decide +kernel
theorem dJ0_charAt_5068e_12 : decode cJ0_charAt_5068e 12 = .ok (.invokestatic 495, 3) := by decide +kernel
theorem dJ0_charAt_5068e_15 : decode cJ0_charAt_5068e 15 = .ok (.ireturn, 1) := by decide +kernel
theorem dJ0_charAt_5068e_16 : decode cJ0_charAt_5068e 16 = .ok (.aload_n 0, 1) := by decide +kernel
theorem dJ0_charAt_5068e_17 : decode cJ0_charAt_5068e 17 = .ok (.getfield 9, 3) := by decide +kernel
theorem dJ0_charAt_5068e_20 : decode cJ0_charAt_5068e 20 = .ok (.iload_n 1, 1) := by decide +kernel
theorem dJ0_charAt_5068e_21 : decode cJ0_charAt_5068e 21 = .ok (.invokestatic 498, 3) := by decide +kernel
theorem dJ0_charAt_5068e_24 : decode cJ0_charAt_5068e 24 = .ok (.ireturn, 1) := by decide +kernel
theorem dJ0_coder_7d493_0 : decode cJ0_coder_7d493 0 = .ok (.getstatic 38, 3) := by decide +kernel
theorem dJ0_coder_7d493_3 : decode cJ0_coder_7d493 3 = .ok (.ifCond .eq 10, 3) := by decide +kernel
theorem dJ0_coder_7d493_6 : decode cJ0_coder_7d493 6 = .ok (.aload_n 0, 1) := by decide +kernel
theorem dJ0_coder_7d493_7 : decode cJ0_coder_7d493 7 = .ok (.getfield 15, 3) := by decide +kernel
theorem dJ0_coder_7d493_10 : decode cJ0_coder_7d493 10 = .ok (.goto 4, 3) := by decide +kernel
theorem dJ0_coder_7d493_13 : decode cJ0_coder_7d493 13 = .ok (.iconst 1, 1) := by decide +kernel
theorem dJ0_coder_7d493_14 : decode cJ0_coder_7d493 14 = .ok (.ireturn, 1) := by decide +kernel
theorem dJ0_isLatin1_aae02_0 : decode cJ0_isLatin1_aae02 0 = .ok (.getstatic 38, 3) := by decide +kernel
theorem dJ0_isLatin1_aae02_3 : decode cJ0_isLatin1_aae02 3 = .ok (.ifCond .eq 14, 3) := by decide +kernel
theorem dJ0_isLatin1_aae02_6 : decode cJ0_isLatin1_aae02 6 = .ok (.aload_n 0, 1) := by decide +kernel
theorem dJ0_isLatin1_aae02_7 : decode cJ0_isLatin1_aae02 7 = .ok (.getfield 15, 3) := by decide +kernel
theorem dJ0_isLatin1_aae02_10 : decode cJ0_isLatin1_aae02 10 = .ok (.ifCond .ne 7, 3) := by decide +kernel
theorem dJ0_isLatin1_aae02_13 : decode cJ0_isLatin1_aae02 13 = .ok (.iconst 1, 1) := by decide +kernel
theorem dJ0_isLatin1_aae02_14 : decode cJ0_isLatin1_aae02 14 = .ok (.goto 4, 3) := by decide +kernel
theorem dJ0_isLatin1_aae02_17 : decode cJ0_isLatin1_aae02 17 = .ok (.iconst 0, 1) := by decide +kernel
theorem dJ0_isLatin1_aae02_18 : decode cJ0_isLatin1_aae02 18 = .ok (.ireturn, 1) := by decide +kernel
theorem dJ0_checkIndex_df160_0 : decode cJ0_checkIndex_df160 0 = .ok (.iload_n 0, 1) := by decide +kernel
theorem dJ0_checkIndex_df160_1 : decode cJ0_checkIndex_df160 1 = .ok (.iload_n 1, 1) := by decide +kernel
theorem dJ0_checkIndex_df160_2 : decode cJ0_checkIndex_df160 2 = .ok (.getstatic 1053, 3) := by decide +kernel
theorem dJ0_checkIndex_df160_5 : decode cJ0_checkIndex_df160 5 = .ok (.invokestatic 1059, 3) := by decide +kernel
theorem dJ0_checkIndex_df160_8 : decode cJ0_checkIndex_df160 8 = .ok (.pop, 1) := by decide +kernel
theorem dJ0_checkIndex_df160_9 : decode cJ0_checkIndex_df160 9 = .ok (.return_, 1) := by decide +kernel
theorem dJ1_charAt_3b067_0 : decode cJ1_charAt_3b067 0 = .ok (.iload_n 1, 1) := by decide +kernel
theorem dJ1_charAt_3b067_1 : decode cJ1_charAt_3b067 1 = .ok (.aload_n 0, 1) := by decide +kernel
theorem dJ1_charAt_3b067_2 : decode cJ1_charAt_3b067 2 = .ok (.arraylength, 1) := by decide +kernel
theorem dJ1_charAt_3b067_3 : decode cJ1_charAt_3b067 3 = .ok (.invokestatic 9, 3) := by decide +kernel
theorem dJ1_charAt_3b067_6 : decode cJ1_charAt_3b067 6 = .ok (.aload_n 0, 1) := by decide +kernel
theorem dJ1_charAt_3b067_7 : decode cJ1_charAt_3b067 7 = .ok (.iload_n 1, 1) := by decide +kernel
theorem dJ1_charAt_3b067_8 : decode cJ1_charAt_3b067 8 = .ok (.baload, 1) := by decide +kernel
theorem dJ1_charAt_3b067_9 : decode cJ1_charAt_3b067 9 = .ok (.sipush 255, 3) := by decide +kernel
theorem dJ1_charAt_3b067_12 : decode cJ1_charAt_3b067 12 = .ok (.iand, 1) := by decide +kernel
theorem dJ1_charAt_3b067_13 : decode cJ1_charAt_3b067 13 = .ok (.i2c, 1) := by decide +kernel
theorem dJ1_charAt_3b067_14 : decode cJ1_charAt_3b067 14 = .ok (.ireturn, 1) := by decide +kernel
theorem dJ2_getChar_3b067_0 : decode cJ2_getChar_3b067 0 = .ok (.getstatic 44, 3) := by decide +kernel
theorem dJ2_getChar_3b067_3 : decode cJ2_getChar_3b067 3 = .ok (.ifCond .ne 25, 3) := by decide +kernel
theorem dJ2_getChar_3b067_6 : decode cJ2_getChar_3b067 6 = .ok (.iload_n 1, 1) := by decide +kernel
theorem dJ2_getChar_3b067_7 : decode cJ2_getChar_3b067 7 = .ok (.ifCond .lt 11, 3) := by decide +kernel
theorem dJ2_getChar_3b067_10 : decode cJ2_getChar_3b067 10 = .ok (.iload_n 1, 1) := by decide +kernel
theorem dJ2_getChar_3b067_11 : decode cJ2_getChar_3b067 11 = .ok (.aload_n 0, 1) := by decide +kernel
theorem dJ2_getChar_3b067_12 : decode cJ2_getChar_3b067 12 = .ok (.invokestatic 48, 3) := by decide +kernel
theorem dJ2_getChar_3b067_15 : decode cJ2_getChar_3b067 15 = .ok (.if_icmp .lt 13, 3) := by decide +kernel
theorem dJ2_getChar_3b067_18 : decode cJ2_getChar_3b067 18 = .ok (.new 52, 3) := by decide +kernel
theorem dJ2_getChar_3b067_21 : decode cJ2_getChar_3b067 21 = .ok (.dup, 1) := by decide +kernel
theorem dJ2_getChar_3b067_22 : decode cJ2_getChar_3b067 22 = .ok (.ldc 54, 2) := by decide +kernel
theorem dJ2_getChar_3b067_24 : decode cJ2_getChar_3b067 24 = .ok (.invokespecial 56, 3) := by decide +kernel
theorem dJ2_getChar_3b067_27 : decode cJ2_getChar_3b067 27 = .ok (.athrow, 1) := by decide +kernel
theorem dJ2_getChar_3b067_28 : decode cJ2_getChar_3b067 28 = .ok (.iload_n 1, 1) := by decide +kernel
theorem dJ2_getChar_3b067_29 : decode cJ2_getChar_3b067 29 = .ok (.iconst 1, 1) := by decide +kernel
theorem dJ2_getChar_3b067_30 : decode cJ2_getChar_3b067 30 = .ok (.ishl, 1) := by decide +kernel
theorem dJ2_getChar_3b067_31 : decode cJ2_getChar_3b067 31 = .ok (.istore_n 1, 1) := by decide +kernel
theorem dJ2_getChar_3b067_32 : decode cJ2_getChar_3b067 32 = .ok (.aload_n 0, 1) := by decide +kernel
theorem dJ2_getChar_3b067_33 : decode cJ2_getChar_3b067 33 = .ok (.iload_n 1, 1) := by decide +kernel
theorem dJ2_getChar_3b067_34 : decode cJ2_getChar_3b067 34 = .ok (.iinc 1 1, 3) := by decide +kernel
theorem dJ2_getChar_3b067_37 : decode cJ2_getChar_3b067 37 = .ok (.baload, 1) := by decide +kernel
theorem dJ2_getChar_3b067_38 : decode cJ2_getChar_3b067 38 = .ok (.sipush 255, 3) := by decide +kernel
theorem dJ2_getChar_3b067_41 : decode cJ2_getChar_3b067 41 = .ok (.iand, 1) := by decide +kernel
theorem dJ2_getChar_3b067_42 : decode cJ2_getChar_3b067 42 = .ok (.getstatic 59, 3) := by decide +kernel
theorem dJ2_getChar_3b067_45 : decode cJ2_getChar_3b067 45 = .ok (.ishl, 1) := by decide +kernel
theorem dJ2_getChar_3b067_46 : decode cJ2_getChar_3b067 46 = .ok (.aload_n 0, 1) := by decide +kernel
theorem dJ2_getChar_3b067_47 : decode cJ2_getChar_3b067 47 = .ok (.iload_n 1, 1) := by decide +kernel
theorem dJ2_getChar_3b067_48 : decode cJ2_getChar_3b067 48 = .ok (.baload, 1) := by decide +kernel
theorem dJ2_getChar_3b067_49 : decode cJ2_getChar_3b067 49 = .ok (.sipush 255, 3) := by decide +kernel
theorem dJ2_getChar_3b067_52 : decode cJ2_getChar_3b067 52 = .ok (.iand, 1) := by decide +kernel
theorem dJ2_getChar_3b067_53 : decode cJ2_getChar_3b067 53 = .ok (.getstatic 63, 3) := by decide +kernel
theorem dJ2_getChar_3b067_56 : decode cJ2_getChar_3b067 56 = .ok (.ishl, 1) := by decide +kernel
theorem dJ2_getChar_3b067_57 : decode cJ2_getChar_3b067 57 = .ok (.ior, 1) := by decide +kernel
theorem dJ2_getChar_3b067_58 : decode cJ2_getChar_3b067 58 = .ok (.i2c, 1) := by decide +kernel
theorem dJ2_getChar_3b067_59 : decode cJ2_getChar_3b067 59 = .ok (.ireturn, 1) := by decide +kernel
theorem dJ2_length_9d52b_0 : decode cJ2_length_9d52b 0 = .ok (.aload_n 0, 1) := by decide +kernel
theorem dJ2_length_9d52b_1 : decode cJ2_length_9d52b 1 = .ok (.arraylength, 1) := by decide +kernel
theorem dJ2_length_9d52b_2 : decode cJ2_length_9d52b 2 = .ok (.iconst 1, 1) := by decide +kernel
theorem dJ2_length_9d52b_3 : decode cJ2_length_9d52b 3 = .ok (.ishr, 1) := by decide +kernel
theorem dJ2_length_9d52b_4 : decode cJ2_length_9d52b 4 = .ok (.ireturn, 1) := by decide +kernel
theorem dJ2_charAt_3b067_0 : decode cJ2_charAt_3b067 0 = .ok (.iload_n 1, 1) := by decide +kernel
theorem dJ2_charAt_3b067_1 : decode cJ2_charAt_3b067 1 = .ok (.aload_n 0, 1) := by decide +kernel
theorem dJ2_charAt_3b067_2 : decode cJ2_charAt_3b067 2 = .ok (.invokestatic 67, 3) := by decide +kernel
theorem dJ2_charAt_3b067_5 : decode cJ2_charAt_3b067 5 = .ok (.aload_n 0, 1) := by decide +kernel
theorem dJ2_charAt_3b067_6 : decode cJ2_charAt_3b067 6 = .ok (.iload_n 1, 1) := by decide +kernel
theorem dJ2_charAt_3b067_7 : decode cJ2_charAt_3b067 7 = .ok (.invokestatic 71, 3) := by decide +kernel
theorem dJ2_charAt_3b067_10 : decode cJ2_charAt_3b067 10 = .ok (.ireturn, 1) := by decide +kernel
theorem dJ2_checkIndex_2214a_0 : decode cJ2_checkIndex_2214a 0 = .ok (.iload_n 0, 1) := by decide +kernel
theorem dJ2_checkIndex_2214a_1 : decode cJ2_checkIndex_2214a 1 = .ok (.aload_n 1, 1) := by decide +kernel
theorem dJ2_checkIndex_2214a_2 : decode cJ2_checkIndex_2214a 2 = .ok (.invokestatic 48, 3) := by decide +kernel
theorem dJ2_checkIndex_2214a_5 : decode cJ2_checkIndex_2214a 5 = .ok (.invokestatic 414, 3) := by decide +kernel
theorem dJ2_checkIndex_2214a_8 : decode cJ2_checkIndex_2214a 8 = .ok (.return_, 1) := by decide +kernel
theorem dJ7_fill_d0a16_0 : decode cJ7_fill_d0a16 0 = .ok (.iconst 0, 1) := by decide +kernel
theorem dJ7_fill_d0a16_1 : decode cJ7_fill_d0a16 1 = .ok (.istore_n 3, 1) := by decide +kernel
theorem dJ7_fill_d0a16_2 : decode cJ7_fill_d0a16 2 = .ok (.aload_n 0, 1) := by decide +kernel
theorem dJ7_fill_d0a16_3 : decode cJ7_fill_d0a16 3 = .ok (.arraylength, 1) := by decide +kernel
theorem dJ7_fill_d0a16_4 : decode cJ7_fill_d0a16 4 = .ok (.istore 4, 2) := by decide +kernel
theorem dJ7_fill_d0a16_6 : decode cJ7_fill_d0a16 6 = .ok (.iload_n 3, 1) := by decide +kernel
theorem dJ7_fill_d0a16_7 : decode cJ7_fill_d0a16 7 = .ok (.iload 4, 2) := by decide +kernel
theorem dJ7_fill_d0a16_9 : decode cJ7_fill_d0a16 9 = .ok (.if_icmp .ge 13, 3) := by decide +kernel
theorem dJ7_fill_d0a16_12 : decode cJ7_fill_d0a16 12 = .ok (.aload_n 0, 1) := by decide +kernel
theorem dJ7_fill_d0a16_13 : decode cJ7_fill_d0a16 13 = .ok (.iload_n 3, 1) := by decide +kernel
theorem dJ7_fill_d0a16_14 : decode cJ7_fill_d0a16 14 = .ok (.lload_n 1, 1) := by decide +kernel
theorem dJ7_fill_d0a16_15 : decode cJ7_fill_d0a16 15 = .ok (.lastore, 1) := by decide +kernel
theorem dJ7_fill_d0a16_16 : decode cJ7_fill_d0a16 16 = .ok (.iinc 3 1, 3) := by decide +kernel
theorem dJ7_fill_d0a16_19 : decode cJ7_fill_d0a16 19 = .ok (.goto (-13), 3) := by decide +kernel
theorem dJ7_fill_d0a16_22 : decode cJ7_fill_d0a16 22 = .ok (.return_, 1) := by decide +kernel
theorem dJ7_fill_53178_0 : decode cJ7_fill_53178 0 = .ok (.iconst 0, 1) := by decide +kernel
theorem dJ7_fill_53178_1 : decode cJ7_fill_53178 1 = .ok (.istore_n 2, 1) := by decide +kernel
theorem dJ7_fill_53178_2 : decode cJ7_fill_53178 2 = .ok (.aload_n 0, 1) := by decide +kernel
theorem dJ7_fill_53178_3 : decode cJ7_fill_53178 3 = .ok (.arraylength, 1) := by decide +kernel
theorem dJ7_fill_53178_4 : decode cJ7_fill_53178 4 = .ok (.istore_n 3, 1) := by decide +kernel
theorem dJ7_fill_53178_5 : decode cJ7_fill_53178 5 = .ok (.iload_n 2, 1) := by decide +kernel
theorem dJ7_fill_53178_6 : decode cJ7_fill_53178 6 = .ok (.iload_n 3, 1) := by decide +kernel
theorem dJ7_fill_53178_7 : decode cJ7_fill_53178 7 = .ok (.if_icmp .ge 13, 3) := by decide +kernel
theorem dJ7_fill_53178_10 : decode cJ7_fill_53178 10 = .ok (.aload_n 0, 1) := by decide +kernel
theorem dJ7_fill_53178_11 : decode cJ7_fill_53178 11 = .ok (.iload_n 2, 1) := by decide +kernel
theorem dJ7_fill_53178_12 : decode cJ7_fill_53178 12 = .ok (.iload_n 1, 1) := by decide +kernel
theorem dJ7_fill_53178_13 : decode cJ7_fill_53178 13 = .ok (.iastore, 1) := by decide +kernel
theorem dJ7_fill_53178_14 : decode cJ7_fill_53178 14 = .ok (.iinc 2 1, 3) := by decide +kernel
theorem dJ7_fill_53178_17 : decode cJ7_fill_53178 17 = .ok (.goto (-12), 3) := by decide +kernel
theorem dJ7_fill_53178_20 : decode cJ7_fill_53178 20 = .ok (.return_, 1) := by decide +kernel
theorem dJ3_checkIndex_8e157_0 : decode cJ3_checkIndex_8e157 0 = .ok (.iload_n 0, 1) := by decide +kernel
theorem dJ3_checkIndex_8e157_1 : decode cJ3_checkIndex_8e157 1 = .ok (.ifCond .lt 8, 3) := by decide +kernel
theorem dJ3_checkIndex_8e157_4 : decode cJ3_checkIndex_8e157 4 = .ok (.iload_n 0, 1) := by decide +kernel
theorem dJ3_checkIndex_8e157_5 : decode cJ3_checkIndex_8e157 5 = .ok (.iload_n 1, 1) := by decide +kernel
theorem dJ3_checkIndex_8e157_6 : decode cJ3_checkIndex_8e157 6 = .ok (.if_icmp .lt 10, 3) := by decide +kernel
theorem dJ3_checkIndex_8e157_9 : decode cJ3_checkIndex_8e157 9 = .ok (.aload_n 2, 1) := by decide +kernel
theorem dJ3_checkIndex_8e157_10 : decode cJ3_checkIndex_8e157 10 = .ok (.iload_n 0, 1) := by decide +kernel
theorem dJ3_checkIndex_8e157_11 : decode cJ3_checkIndex_8e157 11 = .ok (.iload_n 1, 1) := by decide +kernel
theorem dJ3_checkIndex_8e157_12 : decode cJ3_checkIndex_8e157 12 = .ok (.invokestatic 95, 3) := by decide +kernel
theorem dJ3_checkIndex_8e157_15 : decode cJ3_checkIndex_8e157 15 = .ok (.athrow, 1) := by decide +kernel
theorem dJ3_checkIndex_8e157_16 : decode cJ3_checkIndex_8e157 16 = .ok (.iload_n 0, 1) := by decide +kernel
theorem dJ3_checkIndex_8e157_17 : decode cJ3_checkIndex_8e157 17 = .ok (.ireturn, 1) := by decide +kernel
