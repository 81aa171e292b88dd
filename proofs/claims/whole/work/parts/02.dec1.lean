theorem dX0_init_0 : decode cX0_init 0 = .ok (.aload_n 0, 1) := by decide +kernel
theorem dX0_init_1 : decode cX0_init 1 = .ok (.invokespecial 1, 3) := by decide +kernel
theorem dX0_init_4 : decode cX0_init 4 = .ok (.aload_n 0, 1) := by decide +kernel
theorem dX0_init_5 : decode cX0_init 5 = .ok (.lconst 0, 1) := by decide +kernel
theorem dX0_init_6 : decode cX0_init 6 = .ok (.putfield 7, 3) := by decide +kernel
theorem dX0_init_9 : decode cX0_init 9 = .ok (.aload_n 0, 1) := by decide +kernel
theorem dX0_init_10 : decode cX0_init 10 = .ok (.lconst 1, 1) := by decide +kernel
theorem dX0_init_11 : decode cX0_init 11 = .ok (.putfield 13, 3) := by decide +kernel
theorem dX0_init_14 : decode cX0_init 14 = .ok (.return_, 1) := by decide +kernel
theorem dX0_take_0 : decode cX0_take 0 = .ok (.aload_n 0, 1) := by decide +kernel
theorem dX0_take_1 : decode cX0_take 1 = .ok (.aload_n 1, 1) := by decide +kernel
theorem dX0_take_2 : decode cX0_take 2 = .ok (.getfield 7, 3) := by decide +kernel
theorem dX0_take_5 : decode cX0_take 5 = .ok (.putfield 7, 3) := by decide +kernel
theorem dX0_take_8 : decode cX0_take 8 = .ok (.aload_n 0, 1) := by decide +kernel
theorem dX0_take_9 : decode cX0_take 9 = .ok (.aload_n 1, 1) := by decide +kernel
theorem dX0_take_10 : decode cX0_take 10 = .ok (.getfield 13, 3) := by decide +kernel
theorem dX0_take_13 : decode cX0_take 13 = .ok (.putfield 13, 3) := by decide +kernel
theorem dX0_take_16 : decode cX0_take 16 = .ok (.return_, 1) := by decide +kernel
theorem dX0_become_0 : decode cX0_become 0 = .ok (.lload_n 1, 1) := by decide +kernel
theorem dX0_become_1 : decode cX0_become 1 = .ok (.invokestatic 16, 3) := by decide +kernel
theorem dX0_become_4 : decode cX0_become 4 = .ok (.lload_n 3, 1) := by decide +kernel
theorem dX0_become_5 : decode cX0_become 5 = .ok (.invokestatic 22, 3) := by decide +kernel
theorem dX0_become_8 : decode cX0_become 8 = .ok (.lstore 5, 2) := by decide +kernel
theorem dX0_become_10 : decode cX0_become 10 = .ok (.lload_n 3, 1) := by decide +kernel
theorem dX0_become_11 : decode cX0_become 11 = .ok (.lconst 0, 1) := by decide +kernel
theorem dX0_become_12 : decode cX0_become 12 = .ok (.lcmp, 1) := by decide +kernel
theorem dX0_become_13 : decode cX0_become 13 = .ok (.ifCond .le 26, 3) := by decide +kernel
theorem dX0_become_16 : decode cX0_become 16 = .ok (.lload 5, 2) := by decide +kernel
theorem dX0_become_18 : decode cX0_become 18 = .ok (.lconst 0, 1) := by decide +kernel
theorem dX0_become_19 : decode cX0_become 19 = .ok (.lcmp, 1) := by decide +kernel
theorem dX0_become_20 : decode cX0_become 20 = .ok (.ifCond .le 19, 3) := by decide +kernel
theorem dX0_become_23 : decode cX0_become 23 = .ok (.aload_n 0, 1) := by decide +kernel
theorem dX0_become_24 : decode cX0_become 24 = .ok (.lload_n 1, 1) := by decide +kernel
theorem dX0_become_25 : decode cX0_become 25 = .ok (.lload 5, 2) := by decide +kernel
theorem dX0_become_27 : decode cX0_become 27 = .ok (.ldiv, 1) := by decide +kernel
theorem dX0_become_28 : decode cX0_become 28 = .ok (.putfield 7, 3) := by decide +kernel
theorem dX0_become_31 : decode cX0_become 31 = .ok (.aload_n 0, 1) := by decide +kernel
theorem dX0_become_32 : decode cX0_become 32 = .ok (.lload_n 3, 1) := by decide +kernel
theorem dX0_become_33 : decode cX0_become 33 = .ok (.lload 5, 2) := by decide +kernel
theorem dX0_become_35 : decode cX0_become 35 = .ok (.ldiv, 1) := by decide +kernel
theorem dX0_become_36 : decode cX0_become 36 = .ok (.putfield 13, 3) := by decide +kernel
theorem dX0_become_39 : decode cX0_become 39 = .ok (.return_, 1) := by decide +kernel
theorem dX0_against_0 : decode cX0_against 0 = .ok (.aload_n 0, 1) := by decide +kernel
theorem dX0_against_1 : decode cX0_against 1 = .ok (.getfield 7, 3) := by decide +kernel
theorem dX0_against_4 : decode cX0_against 4 = .ok (.aload_n 0, 1) := by decide +kernel
theorem dX0_against_5 : decode cX0_against 5 = .ok (.getfield 13, 3) := by decide +kernel
theorem dX0_against_8 : decode cX0_against 8 = .ok (.aload_n 1, 1) := by decide +kernel
theorem dX0_against_9 : decode cX0_against 9 = .ok (.getfield 7, 3) := by decide +kernel
theorem dX0_against_12 : decode cX0_against 12 = .ok (.aload_n 1, 1) := by decide +kernel
theorem dX0_against_13 : decode cX0_against 13 = .ok (.getfield 13, 3) := by decide +kernel
theorem dX0_against_16 : decode cX0_against 16 = .ok (.invokestatic 26, 3) := by decide +kernel
theorem dX0_against_19 : decode cX0_against 19 = .ok (.ireturn, 1) := by decide +kernel
theorem dX0_common_0 : decode cX0_common 0 = .ok (.lload_n 0, 1) := by decide +kernel
theorem dX0_common_1 : decode cX0_common 1 = .ok (.lstore 4, 2) := by decide +kernel
theorem dX0_common_3 : decode cX0_common 3 = .ok (.lload_n 2, 1) := by decide +kernel
theorem dX0_common_4 : decode cX0_common 4 = .ok (.lstore 6, 2) := by decide +kernel
theorem dX0_common_6 : decode cX0_common 6 = .ok (.iconst 0, 1) := by decide +kernel
theorem dX0_common_7 : decode cX0_common 7 = .ok (.istore 8, 2) := by decide +kernel
theorem dX0_common_9 : decode cX0_common 9 = .ok (.iload 8, 2) := by decide +kernel
theorem dX0_common_11 : decode cX0_common 11 = .ok (.sipush 200, 3) := by decide +kernel
theorem dX0_common_14 : decode cX0_common 14 = .ok (.if_icmp .ge 31, 3) := by decide +kernel
theorem dX0_common_17 : decode cX0_common 17 = .ok (.lload 6, 2) := by decide +kernel
theorem dX0_common_19 : decode cX0_common 19 = .ok (.lconst 0, 1) := by decide +kernel
theorem dX0_common_20 : decode cX0_common 20 = .ok (.lcmp, 1) := by decide +kernel
theorem dX0_common_21 : decode cX0_common 21 = .ok (.ifCond .eq 24, 3) := by decide +kernel
theorem dX0_common_24 : decode cX0_common 24 = .ok (.lload 4, 2) := by decide +kernel
theorem dX0_common_26 : decode cX0_common 26 = .ok (.lload 6, 2) := by decide +kernel
theorem dX0_common_28 : decode cX0_common 28 = .ok (.lrem, 1) := by decide +kernel
theorem dX0_common_29 : decode cX0_common 29 = .ok (.lstore 9, 2) := by decide +kernel
theorem dX0_common_31 : decode cX0_common 31 = .ok (.lload 6, 2) := by decide +kernel
theorem dX0_common_33 : decode cX0_common 33 = .ok (.lstore 4, 2) := by decide +kernel
theorem dX0_common_35 : decode cX0_common 35 = .ok (.lload 9, 2) := by decide +kernel
theorem dX0_common_37 : decode cX0_common 37 = .ok (.lstore 6, 2) := by decide +kernel
theorem dX0_common_39 : decode cX0_common 39 = .ok (.iinc 8 1, 3) := by decide +kernel
theorem dX0_common_42 : decode cX0_common 42 = .ok (.goto (-33), 3) := by decide +kernel
theorem dX0_common_45 : decode cX0_common 45 = .ok (.lload 4, 2) := by decide +kernel
theorem dX0_common_47 : decode cX0_common 47 = .ok (.lreturn, 1) := by decide +kernel
theorem dX0_weigh_0 : decode cX0_weigh 0 = .ok (.lload_n 0, 1) := by decide +kernel
theorem dX0_weigh_1 : decode cX0_weigh 1 = .ok (.lstore 8, 2) := by decide +kernel
theorem dX0_weigh_3 : decode cX0_weigh 3 = .ok (.lload_n 2, 1) := by decide +kernel
theorem dX0_weigh_4 : decode cX0_weigh 4 = .ok (.lstore 10, 2) := by decide +kernel
theorem dX0_weigh_6 : decode cX0_weigh 6 = .ok (.lload 4, 2) := by decide +kernel
theorem dX0_weigh_8 : decode cX0_weigh 8 = .ok (.lstore 12, 2) := by decide +kernel
theorem dX0_weigh_10 : decode cX0_weigh 10 = .ok (.lload 6, 2) := by decide +kernel
theorem dX0_weigh_12 : decode cX0_weigh 12 = .ok (.lstore 14, 2) := by decide +kernel
theorem dX0_weigh_14 : decode cX0_weigh 14 = .ok (.iconst 1, 1) := by decide +kernel
theorem dX0_weigh_15 : decode cX0_weigh 15 = .ok (.istore 16, 2) := by decide +kernel
theorem dX0_weigh_17 : decode cX0_weigh 17 = .ok (.iconst 0, 1) := by decide +kernel
theorem dX0_weigh_18 : decode cX0_weigh 18 = .ok (.istore 17, 2) := by decide +kernel
theorem dX0_weigh_20 : decode cX0_weigh 20 = .ok (.iload 17, 2) := by decide +kernel
theorem dX0_weigh_22 : decode cX0_weigh 22 = .ok (.sipush 200, 3) := by decide +kernel
theorem dX0_weigh_25 : decode cX0_weigh 25 = .ok (.if_icmp .ge 107, 3) := by decide +kernel
theorem dX0_weigh_28 : decode cX0_weigh 28 = .ok (.lload 10, 2) := by decide +kernel
theorem dX0_weigh_30 : decode cX0_weigh 30 = .ok (.lconst 0, 1) := by decide +kernel
theorem dX0_weigh_31 : decode cX0_weigh 31 = .ok (.lcmp, 1) := by decide +kernel
theorem dX0_weigh_32 : decode cX0_weigh 32 = .ok (.ifCond .le 100, 3) := by decide +kernel
theorem dX0_weigh_35 : decode cX0_weigh 35 = .ok (.lload 14, 2) := by decide +kernel
theorem dX0_weigh_37 : decode cX0_weigh 37 = .ok (.lconst 0, 1) := by decide +kernel
theorem dX0_weigh_38 : decode cX0_weigh 38 = .ok (.lcmp, 1) := by decide +kernel
theorem dX0_weigh_39 : decode cX0_weigh 39 = .ok (.ifCond .le 93, 3) := by decide +kernel
theorem dX0_weigh_42 : decode cX0_weigh 42 = .ok (.lload 8, 2) := by decide +kernel
theorem dX0_weigh_44 : decode cX0_weigh 44 = .ok (.lload 10, 2) := by decide +kernel
theorem dX0_weigh_46 : decode cX0_weigh 46 = .ok (.invokestatic 30, 3) := by decide +kernel
theorem dX0_weigh_49 : decode cX0_weigh 49 = .ok (.lstore 18, 2) := by decide +kernel
theorem dX0_weigh_51 : decode cX0_weigh 51 = .ok (.lload 12, 2) := by decide +kernel
theorem dX0_weigh_53 : decode cX0_weigh 53 = .ok (.lload 14, 2) := by decide +kernel
theorem dX0_weigh_55 : decode cX0_weigh 55 = .ok (.invokestatic 30, 3) := by decide +kernel
theorem dX0_weigh_58 : decode cX0_weigh 58 = .ok (.lstore 20, 2) := by decide +kernel
theorem dX0_weigh_60 : decode cX0_weigh 60 = .ok (.lload 18, 2) := by decide +kernel
theorem dX0_weigh_62 : decode cX0_weigh 62 = .ok (.lload 20, 2) := by decide +kernel
theorem dX0_weigh_64 : decode cX0_weigh 64 = .ok (.lcmp, 1) := by decide +kernel
theorem dX0_weigh_65 : decode cX0_weigh 65 = .ok (.ifCond .eq 20, 3) := by decide +kernel
theorem dX0_weigh_68 : decode cX0_weigh 68 = .ok (.lload 18, 2) := by decide +kernel
theorem dX0_weigh_70 : decode cX0_weigh 70 = .ok (.lload 20, 2) := by decide +kernel
theorem dX0_weigh_72 : decode cX0_weigh 72 = .ok (.lcmp, 1) := by decide +kernel
theorem dX0_weigh_73 : decode cX0_weigh 73 = .ok (.ifCond .le 8, 3) := by decide +kernel
theorem dX0_weigh_76 : decode cX0_weigh 76 = .ok (.iload 16, 2) := by decide +kernel
theorem dX0_weigh_78 : decode cX0_weigh 78 = .ok (.goto 6, 3) := by decide +kernel
theorem dX0_weigh_81 : decode cX0_weigh 81 = .ok (.iload 16, 2) := by decide +kernel
theorem dX0_weigh_83 : decode cX0_weigh 83 = .ok (.ineg, 1) := by decide +kernel
theorem dX0_weigh_84 : decode cX0_weigh 84 = .ok (.ireturn, 1) := by decide +kernel
theorem dX0_weigh_85 : decode cX0_weigh 85 = .ok (.lload 8, 2) := by decide +kernel
theorem dX0_weigh_87 : decode cX0_weigh 87 = .ok (.lload 18, 2) := by decide +kernel
theorem dX0_weigh_89 : decode cX0_weigh 89 = .ok (.lload 10, 2) := by decide +kernel
theorem dX0_weigh_91 : decode cX0_weigh 91 = .ok (.lmul, 1) := by decide +kernel
theorem dX0_weigh_92 : decode cX0_weigh 92 = .ok (.lsub, 1) := by decide +kernel
theorem dX0_weigh_93 : decode cX0_weigh 93 = .ok (.lstore 22, 2) := by decide +kernel
theorem dX0_weigh_95 : decode cX0_weigh 95 = .ok (.lload 12, 2) := by decide +kernel
theorem dX0_weigh_97 : decode cX0_weigh 97 = .ok (.lload 20, 2) := by decide +kernel
theorem dX0_weigh_99 : decode cX0_weigh 99 = .ok (.lload 14, 2) := by decide +kernel
theorem dX0_weigh_101 : decode cX0_weigh 101 = .ok (.lmul, 1) := by decide +kernel
theorem dX0_weigh_102 : decode cX0_weigh 102 = .ok (.lsub, 1) := by decide +kernel
theorem dX0_weigh_103 : decode cX0_weigh 103 = .ok (.lstore 24, 2) := by decide +kernel
theorem dX0_weigh_105 : decode cX0_weigh 105 = .ok (.lload 10, 2) := by decide +kernel
theorem dX0_weigh_107 : decode cX0_weigh 107 = .ok (.lstore 8, 2) := by decide +kernel
theorem dX0_weigh_109 : decode cX0_weigh 109 = .ok (.lload 22, 2) := by decide +kernel
theorem dX0_weigh_111 : decode cX0_weigh 111 = .ok (.lstore 10, 2) := by decide +kernel
theorem dX0_weigh_113 : decode cX0_weigh 113 = .ok (.lload 14, 2) := by decide +kernel
theorem dX0_weigh_115 : decode cX0_weigh 115 = .ok (.lstore 12, 2) := by decide +kernel
theorem dX0_weigh_117 : decode cX0_weigh 117 = .ok (.lload 24, 2) := by decide +kernel
theorem dX0_weigh_119 : decode cX0_weigh 119 = .ok (.lstore 14, 2) := by decide +kernel
theorem dX0_weigh_121 : decode cX0_weigh 121 = .ok (.iload 16, 2) := by decide +kernel
theorem dX0_weigh_123 : decode cX0_weigh 123 = .ok (.ineg, 1) := by decide +kernel
theorem dX0_weigh_124 : decode cX0_weigh 124 = .ok (.istore 16, 2) := by decide +kernel
theorem dX0_weigh_126 : decode cX0_weigh 126 = .ok (.iinc 17 1, 3) := by decide +kernel
theorem dX0_weigh_129 : decode cX0_weigh 129 = .ok (.goto (-109), 3) := by decide +kernel
theorem dX0_weigh_132 : decode cX0_weigh 132 = .ok (.lload 10, 2) := by decide +kernel
theorem dX0_weigh_134 : decode cX0_weigh 134 = .ok (.lload 14, 2) := by decide +kernel
theorem dX0_weigh_136 : decode cX0_weigh 136 = .ok (.lcmp, 1) := by decide +kernel
theorem dX0_weigh_137 : decode cX0_weigh 137 = .ok (.ifCond .ne 5, 3) := by decide +kernel
theorem dX0_weigh_140 : decode cX0_weigh 140 = .ok (.iconst 0, 1) := by decide +kernel
theorem dX0_weigh_141 : decode cX0_weigh 141 = .ok (.ireturn, 1) := by decide +kernel
theorem dX0_weigh_142 : decode cX0_weigh 142 = .ok (.lload 10, 2) := by decide +kernel
theorem dX0_weigh_144 : decode cX0_weigh 144 = .ok (.lconst 0, 1) := by decide +kernel
theorem dX0_weigh_145 : decode cX0_weigh 145 = .ok (.lcmp, 1) := by decide +kernel
theorem dX0_weigh_146 : decode cX0_weigh 146 = .ok (.ifCond .ne 8, 3) := by decide +kernel
theorem dX0_weigh_149 : decode cX0_weigh 149 = .ok (.iload 16, 2) := by decide +kernel
theorem dX0_weigh_151 : decode cX0_weigh 151 = .ok (.goto 6, 3) := by decide +kernel
theorem dX0_weigh_154 : decode cX0_weigh 154 = .ok (.iload 16, 2) := by decide +kernel
theorem dX0_weigh_156 : decode cX0_weigh 156 = .ok (.ineg, 1) := by decide +kernel
theorem dX0_weigh_157 : decode cX0_weigh 157 = .ok (.ireturn, 1) := by decide +kernel
theorem dX1_init_0 : decode cX1_init 0 = .ok (.aload_n 0, 1) := by decide +kernel
theorem dX1_init_1 : decode cX1_init 1 = .ok (.invokespecial 3, 3) := by decide +kernel
theorem dX1_init_4 : decode cX1_init 4 = .ok (.aload_n 0, 1) := by decide +kernel
theorem dX1_init_5 : decode cX1_init 5 = .ok (.iconst 0, 1) := by decide +kernel
theorem dX1_init_6 : decode cX1_init 6 = .ok (.putfield 9, 3) := by decide +kernel
theorem dX1_init_9 : decode cX1_init 9 = .ok (.aload_n 0, 1) := by decide +kernel
theorem dX1_init_10 : decode cX1_init 10 = .ok (.iconst 0, 1) := by decide +kernel
theorem dX1_init_11 : decode cX1_init 11 = .ok (.putfield 15, 3) := by decide +kernel
theorem dX1_init_14 : decode cX1_init 14 = .ok (.aload_n 0, 1) := by decide +kernel
theorem dX1_init_15 : decode cX1_init 15 = .ok (.iconst 0, 1) := by decide +kernel
theorem dX1_init_16 : decode cX1_init 16 = .ok (.putfield 19, 3) := by decide +kernel
theorem dX1_init_19 : decode cX1_init 19 = .ok (.aload_n 0, 1) := by decide +kernel
theorem dX1_init_20 : decode cX1_init 20 = .ok (.iload_n 1, 1) := by decide +kernel
theorem dX1_init_21 : decode cX1_init 21 = .ok (.putfield 22, 3) := by decide +kernel
theorem dX1_init_24 : decode cX1_init 24 = .ok (.aload_n 0, 1) := by decide +kernel
theorem dX1_init_25 : decode cX1_init 25 = .ok (.iconst 1, 1) := by decide +kernel
theorem dX1_init_26 : decode cX1_init 26 = .ok (.iconst 5, 1) := by decide +kernel
theorem dX1_init_27 : decode cX1_init 27 = .ok (.iload_n 2, 1) := by decide +kernel
theorem dX1_init_28 : decode cX1_init 28 = .ok (.invokestatic 25, 3) := by decide +kernel
theorem dX1_init_31 : decode cX1_init 31 = .ok (.invokestatic 31, 3) := by decide +kernel
theorem dX1_init_34 : decode cX1_init 34 = .ok (.putfield 34, 3) := by decide +kernel
theorem dX1_init_37 : decode cX1_init 37 = .ok (.aload_n 0, 1) := by decide +kernel
theorem dX1_init_38 : decode cX1_init 38 = .ok (.aload_n 0, 1) := by decide +kernel
theorem dX1_init_39 : decode cX1_init 39 = .ok (.getfield 34, 3) := by decide +kernel
theorem dX1_init_42 : decode cX1_init 42 = .ok (.newarray .int, 2) := by decide +kernel
theorem dX1_init_44 : decode cX1_init 44 = .ok (.putfield 37, 3) := by decide +kernel
theorem dX1_init_47 : decode cX1_init 47 = .ok (.aload_n 0, 1) := by decide +kernel
theorem dX1_init_48 : decode cX1_init 48 = .ok (.aload_n 0, 1) := by decide +kernel
theorem dX1_init_49 : decode cX1_init 49 = .ok (.getfield 34, 3) := by decide +kernel
theorem dX1_init_52 : decode cX1_init 52 = .ok (.aload_n 0, 1) := by decide +kernel
theorem dX1_init_53 : decode cX1_init 53 = .ok (.getfield 34, 3) := by decide +kernel
theorem dX1_init_56 : decode cX1_init 56 = .ok (.imul, 1) := by decide +kernel
theorem dX1_init_57 : decode cX1_init 57 = .ok (.newarray .int, 2) := by decide +kernel
theorem dX1_init_59 : decode cX1_init 59 = .ok (.putfield 41, 3) := by decide +kernel
theorem dX1_init_62 : decode cX1_init 62 = .ok (.aload_n 0, 1) := by decide +kernel
theorem dX1_init_63 : decode cX1_init 63 = .ok (.aload_n 0, 1) := by decide +kernel
theorem dX1_init_64 : decode cX1_init 64 = .ok (.getfield 34, 3) := by decide +kernel
theorem dX1_init_67 : decode cX1_init 67 = .ok (.anewarray 44, 3) := by decide +kernel
theorem dX1_init_70 : decode cX1_init 70 = .ok (.putfield 46, 3) := by decide +kernel
theorem dX1_init_73 : decode cX1_init 73 = .ok (.iload_n 1, 1) := by decide +kernel
theorem dX1_init_74 : decode cX1_init 74 = .ok (.iconst 2, 1) := by decide +kernel
theorem dX1_init_75 : decode cX1_init 75 = .ok (.if_icmp .eq 8, 3) := by decide +kernel
theorem dX1_init_78 : decode cX1_init 78 = .ok (.iload_n 1, 1) := by decide +kernel
theorem dX1_init_79 : decode cX1_init 79 = .ok (.iconst 3, 1) := by decide +kernel
theorem dX1_init_80 : decode cX1_init 80 = .ok (.if_icmp .ne 7, 3) := by decide +kernel
theorem dX1_init_83 : decode cX1_init 83 = .ok (.iconst 1, 1) := by decide +kernel
theorem dX1_init_84 : decode cX1_init 84 = .ok (.goto 4, 3) := by decide +kernel
theorem dX1_init_87 : decode cX1_init 87 = .ok (.iconst 0, 1) := by decide +kernel
theorem dX1_init_88 : decode cX1_init 88 = .ok (.istore_n 3, 1) := by decide +kernel
theorem dX1_init_89 : decode cX1_init 89 = .ok (.iconst 0, 1) := by decide +kernel
theorem dX1_init_90 : decode cX1_init 90 = .ok (.istore 4, 2) := by decide +kernel
theorem dX1_init_92 : decode cX1_init 92 = .ok (.iload 4, 2) := by decide +kernel
theorem dX1_init_94 : decode cX1_init 94 = .ok (.aload_n 0, 1) := by decide +kernel
theorem dX1_init_95 : decode cX1_init 95 = .ok (.getfield 34, 3) := by decide +kernel
theorem dX1_init_98 : decode cX1_init 98 = .ok (.if_icmp .ge 65, 3) := by decide +kernel
theorem dX1_init_101 : decode cX1_init 101 = .ok (.iload_n 3, 1) := by decide +kernel
theorem dX1_init_102 : decode cX1_init 102 = .ok (.ifCond .eq 21, 3) := by decide +kernel
theorem dX1_init_105 : decode cX1_init 105 = .ok (.iload 4, 2) := by decide +kernel
theorem dX1_init_107 : decode cX1_init 107 = .ok (.aload_n 0, 1) := by decide +kernel
theorem dX1_init_108 : decode cX1_init 108 = .ok (.getfield 34, 3) := by decide +kernel
theorem dX1_init_111 : decode cX1_init 111 = .ok (.iconst 1, 1) := by decide +kernel
theorem dX1_init_112 : decode cX1_init 112 = .ok (.isub, 1) := by decide +kernel
theorem dX1_init_113 : decode cX1_init 113 = .ok (.if_icmp .ge 10, 3) := by decide +kernel
theorem dX1_init_116 : decode cX1_init 116 = .ok (.iload 4, 2) := by decide +kernel
theorem dX1_init_118 : decode cX1_init 118 = .ok (.iconst 1, 1) := by decide +kernel
theorem dX1_init_119 : decode cX1_init 119 = .ok (.iadd, 1) := by decide +kernel
theorem dX1_init_120 : decode cX1_init 120 = .ok (.goto 5, 3) := by decide +kernel
theorem dX1_init_123 : decode cX1_init 123 = .ok (.iload 4, 2) := by decide +kernel
theorem dX1_init_125 : decode cX1_init 125 = .ok (.istore 5, 2) := by decide +kernel
theorem dX1_init_127 : decode cX1_init 127 = .ok (.aload_n 0, 1) := by decide +kernel
theorem dX1_init_128 : decode cX1_init 128 = .ok (.getfield 41, 3) := by decide +kernel
theorem dX1_init_131 : decode cX1_init 131 = .ok (.iload 4, 2) := by decide +kernel
theorem dX1_init_133 : decode cX1_init 133 = .ok (.aload_n 0, 1) := by decide +kernel
theorem dX1_init_134 : decode cX1_init 134 = .ok (.getfield 34, 3) := by decide +kernel
theorem dX1_init_137 : decode cX1_init 137 = .ok (.imul, 1) := by decide +kernel
theorem dX1_init_138 : decode cX1_init 138 = .ok (.iload 5, 2) := by decide +kernel
theorem dX1_init_140 : decode cX1_init 140 = .ok (.iadd, 1) := by decide +kernel
theorem dX1_init_141 : decode cX1_init 141 = .ok (.iconst 1, 1) := by decide +kernel
theorem dX1_init_142 : decode cX1_init 142 = .ok (.iastore, 1) := by decide +kernel
theorem dX1_init_143 : decode cX1_init 143 = .ok (.aload_n 0, 1) := by decide +kernel
theorem dX1_init_144 : decode cX1_init 144 = .ok (.getfield 46, 3) := by decide +kernel
theorem dX1_init_147 : decode cX1_init 147 = .ok (.iload 4, 2) := by decide +kernel
theorem dX1_init_149 : decode cX1_init 149 = .ok (.new 44, 3) := by decide +kernel
theorem dX1_init_152 : decode cX1_init 152 = .ok (.dup, 1) := by decide +kernel
theorem dX1_init_153 : decode cX1_init 153 = .ok (.invokespecial 50, 3) := by decide +kernel
theorem dX1_init_156 : decode cX1_init 156 = .ok (.aastore, 1) := by decide +kernel
theorem dX1_init_157 : decode cX1_init 157 = .ok (.iinc 4 1, 3) := by decide +kernel
theorem dX1_init_160 : decode cX1_init 160 = .ok (.goto (-68), 3) := by decide +kernel
theorem dX1_init_163 : decode cX1_init 163 = .ok (.return_, 1) := by decide +kernel
theorem dX1_has_0 : decode cX1_has 0 = .ok (.iload_n 1, 1) := by decide +kernel
theorem dX1_has_1 : decode cX1_has 1 = .ok (.ifCond .lt 15, 3) := by decide +kernel
theorem dX1_has_4 : decode cX1_has 4 = .ok (.iload_n 1, 1) := by decide +kernel
theorem dX1_has_5 : decode cX1_has 5 = .ok (.aload_n 0, 1) := by decide +kernel
theorem dX1_has_6 : decode cX1_has 6 = .ok (.getfield 34, 3) := by decide +kernel
theorem dX1_has_9 : decode cX1_has 9 = .ok (.if_icmp .ge 7, 3) := by decide +kernel
theorem dX1_has_12 : decode cX1_has 12 = .ok (.iconst 1, 1) := by decide +kernel
theorem dX1_has_13 : decode cX1_has 13 = .ok (.goto 4, 3) := by decide +kernel
theorem dX1_has_16 : decode cX1_has 16 = .ok (.iconst 0, 1) := by decide +kernel
theorem dX1_has_17 : decode cX1_has 17 = .ok (.ireturn, 1) := by decide +kernel
theorem dX1_isUnder_0 : decode cX1_isUnder 0 = .ok (.iload_n 1, 1) := by decide +kernel
theorem dX1_isUnder_1 : decode cX1_isUnder 1 = .ok (.ifCond .eq 24, 3) := by decide +kernel
theorem dX1_isUnder_4 : decode cX1_isUnder 4 = .ok (.iload_n 1, 1) := by decide +kernel
theorem dX1_isUnder_5 : decode cX1_isUnder 5 = .ok (.aload_n 0, 1) := by decide +kernel
theorem dX1_isUnder_6 : decode cX1_isUnder 6 = .ok (.getfield 22, 3) := by decide +kernel
theorem dX1_isUnder_9 : decode cX1_isUnder 9 = .ok (.if_icmp .eq 16, 3) := by decide +kernel
theorem dX1_isUnder_12 : decode cX1_isUnder 12 = .ok (.iload_n 1, 1) := by decide +kernel
theorem dX1_isUnder_13 : decode cX1_isUnder 13 = .ok (.iconst 2, 1) := by decide +kernel
theorem dX1_isUnder_14 : decode cX1_isUnder 14 = .ok (.if_icmp .ne 15, 3) := by decide +kernel
theorem dX1_isUnder_17 : decode cX1_isUnder 17 = .ok (.aload_n 0, 1) := by decide +kernel
theorem dX1_isUnder_18 : decode cX1_isUnder 18 = .ok (.getfield 22, 3) := by decide +kernel
theorem dX1_isUnder_21 : decode cX1_isUnder 21 = .ok (.iconst 3, 1) := by decide +kernel
theorem dX1_isUnder_22 : decode cX1_isUnder 22 = .ok (.if_icmp .ne 7, 3) := by decide +kernel
theorem dX1_isUnder_25 : decode cX1_isUnder 25 = .ok (.iconst 1, 1) := by decide +kernel
theorem dX1_isUnder_26 : decode cX1_isUnder 26 = .ok (.goto 4, 3) := by decide +kernel
theorem dX1_isUnder_29 : decode cX1_isUnder 29 = .ok (.iconst 0, 1) := by decide +kernel
theorem dX1_isUnder_30 : decode cX1_isUnder 30 = .ok (.ireturn, 1) := by decide +kernel
theorem dX1_mayPay_0 : decode cX1_mayPay 0 = .ok (.aload_n 0, 1) := by decide +kernel
theorem dX1_mayPay_1 : decode cX1_mayPay 1 = .ok (.getfield 22, 3) := by decide +kernel
theorem dX1_mayPay_4 : decode cX1_mayPay 4 = .ok (.iconst 3, 1) := by decide +kernel
theorem dX1_mayPay_5 : decode cX1_mayPay 5 = .ok (.if_icmp .ne 13, 3) := by decide +kernel
theorem dX1_mayPay_8 : decode cX1_mayPay 8 = .ok (.iload_n 1, 1) := by decide +kernel
theorem dX1_mayPay_9 : decode cX1_mayPay 9 = .ok (.aload_n 0, 1) := by decide +kernel
theorem dX1_mayPay_10 : decode cX1_mayPay 10 = .ok (.getfield 34, 3) := by decide +kernel
theorem dX1_mayPay_13 : decode cX1_mayPay 13 = .ok (.iconst 2, 1) := by decide +kernel
theorem dX1_mayPay_14 : decode cX1_mayPay 14 = .ok (.isub, 1) := by decide +kernel
theorem dX1_mayPay_15 : decode cX1_mayPay 15 = .ok (.if_icmp .ne 7, 3) := by decide +kernel
theorem dX1_mayPay_18 : decode cX1_mayPay 18 = .ok (.iconst 1, 1) := by decide +kernel
theorem dX1_mayPay_19 : decode cX1_mayPay 19 = .ok (.goto 4, 3) := by decide +kernel
theorem dX1_mayPay_22 : decode cX1_mayPay 22 = .ok (.iconst 0, 1) := by decide +kernel
theorem dX1_mayPay_23 : decode cX1_mayPay 23 = .ok (.ireturn, 1) := by decide +kernel
theorem dX1_payAt_0 : decode cX1_payAt 0 = .ok (.iload_n 1, 1) := by decide +kernel
theorem dX1_payAt_1 : decode cX1_payAt 1 = .ok (.ifCond .lt 21, 3) := by decide +kernel
theorem dX1_payAt_4 : decode cX1_payAt 4 = .ok (.iload_n 1, 1) := by decide +kernel
theorem dX1_payAt_5 : decode cX1_payAt 5 = .ok (.aload_n 0, 1) := by decide +kernel
theorem dX1_payAt_6 : decode cX1_payAt 6 = .ok (.getfield 37, 3) := by decide +kernel
theorem dX1_payAt_9 : decode cX1_payAt 9 = .ok (.arraylength, 1) := by decide +kernel
theorem dX1_payAt_10 : decode cX1_payAt 10 = .ok (.if_icmp .ge 12, 3) := by decide +kernel
theorem dX1_payAt_13 : decode cX1_payAt 13 = .ok (.aload_n 0, 1) := by decide +kernel
theorem dX1_payAt_14 : decode cX1_payAt 14 = .ok (.getfield 37, 3) := by decide +kernel
theorem dX1_payAt_17 : decode cX1_payAt 17 = .ok (.iload_n 1, 1) := by decide +kernel
theorem dX1_payAt_18 : decode cX1_payAt 18 = .ok (.iaload, 1) := by decide +kernel
theorem dX1_payAt_19 : decode cX1_payAt 19 = .ok (.goto 4, 3) := by decide +kernel
theorem dX1_payAt_22 : decode cX1_payAt 22 = .ok (.iconst 0, 1) := by decide +kernel
theorem dX1_payAt_23 : decode cX1_payAt 23 = .ok (.ireturn, 1) := by decide +kernel
theorem dX1_setPay_0 : decode cX1_setPay 0 = .ok (.iload_n 1, 1) := by decide +kernel
theorem dX1_setPay_1 : decode cX1_setPay 1 = .ok (.ifCond .lt 24, 3) := by decide +kernel
theorem dX1_setPay_4 : decode cX1_setPay 4 = .ok (.iload_n 1, 1) := by decide +kernel
theorem dX1_setPay_5 : decode cX1_setPay 5 = .ok (.aload_n 0, 1) := by decide +kernel
theorem dX1_setPay_6 : decode cX1_setPay 6 = .ok (.getfield 37, 3) := by decide +kernel
theorem dX1_setPay_9 : decode cX1_setPay 9 = .ok (.arraylength, 1) := by decide +kernel
theorem dX1_setPay_10 : decode cX1_setPay 10 = .ok (.if_icmp .ge 15, 3) := by decide +kernel
theorem dX1_setPay_13 : decode cX1_setPay 13 = .ok (.aload_n 0, 1) := by decide +kernel
theorem dX1_setPay_14 : decode cX1_setPay 14 = .ok (.getfield 37, 3) := by decide +kernel
theorem dX1_setPay_17 : decode cX1_setPay 17 = .ok (.iload_n 1, 1) := by decide +kernel
theorem dX1_setPay_18 : decode cX1_setPay 18 = .ok (.iload_n 2, 1) := by decide +kernel
theorem dX1_setPay_19 : decode cX1_setPay 19 = .ok (.iastore, 1) := by decide +kernel
theorem dX1_setPay_20 : decode cX1_setPay 20 = .ok (.aload_n 0, 1) := by decide +kernel
theorem dX1_setPay_21 : decode cX1_setPay 21 = .ok (.iconst 0, 1) := by decide +kernel
theorem dX1_setPay_22 : decode cX1_setPay 22 = .ok (.putfield 9, 3) := by decide +kernel
theorem dX1_setPay_25 : decode cX1_setPay 25 = .ok (.return_, 1) := by decide +kernel
theorem dX1_weightAt_0 : decode cX1_weightAt 0 = .ok (.iload_n 1, 1) := by decide +kernel
theorem dX1_weightAt_1 : decode cX1_weightAt 1 = .ok (.ifCond .lt 23, 3) := by decide +kernel
theorem dX1_weightAt_4 : decode cX1_weightAt 4 = .ok (.iload_n 1, 1) := by decide +kernel
theorem dX1_weightAt_5 : decode cX1_weightAt 5 = .ok (.aload_n 0, 1) := by decide +kernel
theorem dX1_weightAt_6 : decode cX1_weightAt 6 = .ok (.getfield 34, 3) := by decide +kernel
theorem dX1_weightAt_9 : decode cX1_weightAt 9 = .ok (.if_icmp .ge 15, 3) := by decide +kernel
theorem dX1_weightAt_12 : decode cX1_weightAt 12 = .ok (.iload_n 2, 1) := by decide +kernel
theorem dX1_weightAt_13 : decode cX1_weightAt 13 = .ok (.ifCond .lt 11, 3) := by decide +kernel
theorem dX1_weightAt_16 : decode cX1_weightAt 16 = .ok (.iload_n 2, 1) := by decide +kernel
theorem dX1_weightAt_17 : decode cX1_weightAt 17 = .ok (.aload_n 0, 1) := by decide +kernel
theorem dX1_weightAt_18 : decode cX1_weightAt 18 = .ok (.getfield 34, 3) := by decide +kernel
theorem dX1_weightAt_21 : decode cX1_weightAt 21 = .ok (.if_icmp .lt 5, 3) := by decide +kernel
theorem dX1_weightAt_24 : decode cX1_weightAt 24 = .ok (.iconst 0, 1) := by decide +kernel
theorem dX1_weightAt_25 : decode cX1_weightAt 25 = .ok (.ireturn, 1) := by decide +kernel
theorem dX1_weightAt_26 : decode cX1_weightAt 26 = .ok (.aload_n 0, 1) := by decide +kernel
theorem dX1_weightAt_27 : decode cX1_weightAt 27 = .ok (.getfield 41, 3) := by decide +kernel
theorem dX1_weightAt_30 : decode cX1_weightAt 30 = .ok (.iload_n 1, 1) := by decide +kernel
theorem dX1_weightAt_31 : decode cX1_weightAt 31 = .ok (.aload_n 0, 1) := by decide +kernel
theorem dX1_weightAt_32 : decode cX1_weightAt 32 = .ok (.getfield 34, 3) := by decide +kernel
theorem dX1_weightAt_35 : decode cX1_weightAt 35 = .ok (.imul, 1) := by decide +kernel
theorem dX1_weightAt_36 : decode cX1_weightAt 36 = .ok (.iload_n 2, 1) := by decide +kernel
theorem dX1_weightAt_37 : decode cX1_weightAt 37 = .ok (.iadd, 1) := by decide +kernel
theorem dX1_weightAt_38 : decode cX1_weightAt 38 = .ok (.iaload, 1) := by decide +kernel
theorem dX1_weightAt_39 : decode cX1_weightAt 39 = .ok (.ireturn, 1) := by decide +kernel
theorem dX1_setWeight_0 : decode cX1_setWeight 0 = .ok (.aload_n 0, 1) := by decide +kernel
theorem dX1_setWeight_1 : decode cX1_setWeight 1 = .ok (.iload_n 1, 1) := by decide +kernel
theorem dX1_setWeight_2 : decode cX1_setWeight 2 = .ok (.invokevirtual 51, 3) := by decide +kernel
theorem dX1_setWeight_5 : decode cX1_setWeight 5 = .ok (.ifCond .eq 30, 3) := by decide +kernel
theorem dX1_setWeight_8 : decode cX1_setWeight 8 = .ok (.aload_n 0, 1) := by decide +kernel
theorem dX1_setWeight_9 : decode cX1_setWeight 9 = .ok (.iload_n 2, 1) := by decide +kernel
theorem dX1_setWeight_10 : decode cX1_setWeight 10 = .ok (.invokevirtual 51, 3) := by decide +kernel
theorem dX1_setWeight_13 : decode cX1_setWeight 13 = .ok (.ifCond .eq 22, 3) := by decide +kernel
theorem dX1_setWeight_16 : decode cX1_setWeight 16 = .ok (.aload_n 0, 1) := by decide +kernel
theorem dX1_setWeight_17 : decode cX1_setWeight 17 = .ok (.getfield 41, 3) := by decide +kernel
theorem dX1_setWeight_20 : decode cX1_setWeight 20 = .ok (.iload_n 1, 1) := by decide +kernel
theorem dX1_setWeight_21 : decode cX1_setWeight 21 = .ok (.aload_n 0, 1) := by decide +kernel
theorem dX1_setWeight_22 : decode cX1_setWeight 22 = .ok (.getfield 34, 3) := by decide +kernel
theorem dX1_setWeight_25 : decode cX1_setWeight 25 = .ok (.imul, 1) := by decide +kernel
theorem dX1_setWeight_26 : decode cX1_setWeight 26 = .ok (.iload_n 2, 1) := by decide +kernel
theorem dX1_setWeight_27 : decode cX1_setWeight 27 = .ok (.iadd, 1) := by decide +kernel
theorem dX1_setWeight_28 : decode cX1_setWeight 28 = .ok (.iload_n 3, 1) := by decide +kernel
theorem dX1_setWeight_29 : decode cX1_setWeight 29 = .ok (.iastore, 1) := by decide +kernel
theorem dX1_setWeight_30 : decode cX1_setWeight 30 = .ok (.aload_n 0, 1) := by decide +kernel
theorem dX1_setWeight_31 : decode cX1_setWeight 31 = .ok (.iconst 0, 1) := by decide +kernel
theorem dX1_setWeight_32 : decode cX1_setWeight 32 = .ok (.putfield 9, 3) := by decide +kernel
theorem dX1_setWeight_35 : decode cX1_setWeight 35 = .ok (.return_, 1) := by decide +kernel
theorem dX1_sumOf_0 : decode cX1_sumOf 0 = .ok (.iconst 0, 1) := by decide +kernel
theorem dX1_sumOf_1 : decode cX1_sumOf 1 = .ok (.istore_n 2, 1) := by decide +kernel
theorem dX1_sumOf_2 : decode cX1_sumOf 2 = .ok (.iload_n 1, 1) := by decide +kernel
theorem dX1_sumOf_3 : decode cX1_sumOf 3 = .ok (.ifCond .lt 20, 3) := by decide +kernel
theorem dX1_sumOf_6 : decode cX1_sumOf 6 = .ok (.iload_n 1, 1) := by decide +kernel
theorem dX1_sumOf_7 : decode cX1_sumOf 7 = .ok (.aload_n 0, 1) := by decide +kernel
theorem dX1_sumOf_8 : decode cX1_sumOf 8 = .ok (.getfield 34, 3) := by decide +kernel
theorem dX1_sumOf_11 : decode cX1_sumOf 11 = .ok (.if_icmp .ge 12, 3) := by decide +kernel
theorem dX1_sumOf_14 : decode cX1_sumOf 14 = .ok (.iload_n 1, 1) := by decide +kernel
theorem dX1_sumOf_15 : decode cX1_sumOf 15 = .ok (.aload_n 0, 1) := by decide +kernel
theorem dX1_sumOf_16 : decode cX1_sumOf 16 = .ok (.getfield 34, 3) := by decide +kernel
theorem dX1_sumOf_19 : decode cX1_sumOf 19 = .ok (.imul, 1) := by decide +kernel
theorem dX1_sumOf_20 : decode cX1_sumOf 20 = .ok (.goto 8, 3) := by decide +kernel
theorem dX1_sumOf_23 : decode cX1_sumOf 23 = .ok (.aload_n 0, 1) := by decide +kernel
theorem dX1_sumOf_24 : decode cX1_sumOf 24 = .ok (.getfield 41, 3) := by decide +kernel
theorem dX1_sumOf_27 : decode cX1_sumOf 27 = .ok (.arraylength, 1) := by decide +kernel
theorem dX1_sumOf_28 : decode cX1_sumOf 28 = .ok (.istore_n 3, 1) := by decide +kernel
theorem dX1_sumOf_29 : decode cX1_sumOf 29 = .ok (.iload_n 3, 1) := by decide +kernel
theorem dX1_sumOf_30 : decode cX1_sumOf 30 = .ok (.istore 4, 2) := by decide +kernel
theorem dX1_sumOf_32 : decode cX1_sumOf 32 = .ok (.iload 4, 2) := by decide +kernel
theorem dX1_sumOf_34 : decode cX1_sumOf 34 = .ok (.iload_n 3, 1) := by decide +kernel
theorem dX1_sumOf_35 : decode cX1_sumOf 35 = .ok (.aload_n 0, 1) := by decide +kernel
theorem dX1_sumOf_36 : decode cX1_sumOf 36 = .ok (.getfield 34, 3) := by decide +kernel
theorem dX1_sumOf_39 : decode cX1_sumOf 39 = .ok (.iadd, 1) := by decide +kernel
theorem dX1_sumOf_40 : decode cX1_sumOf 40 = .ok (.if_icmp .ge 29, 3) := by decide +kernel
theorem dX1_sumOf_43 : decode cX1_sumOf 43 = .ok (.iload 4, 2) := by decide +kernel
theorem dX1_sumOf_45 : decode cX1_sumOf 45 = .ok (.aload_n 0, 1) := by decide +kernel
theorem dX1_sumOf_46 : decode cX1_sumOf 46 = .ok (.getfield 41, 3) := by decide +kernel
theorem dX1_sumOf_49 : decode cX1_sumOf 49 = .ok (.arraylength, 1) := by decide +kernel
theorem dX1_sumOf_50 : decode cX1_sumOf 50 = .ok (.if_icmp .ge 19, 3) := by decide +kernel
theorem dX1_sumOf_53 : decode cX1_sumOf 53 = .ok (.iload_n 2, 1) := by decide +kernel
theorem dX1_sumOf_54 : decode cX1_sumOf 54 = .ok (.aload_n 0, 1) := by decide +kernel
theorem dX1_sumOf_55 : decode cX1_sumOf 55 = .ok (.getfield 41, 3) := by decide +kernel
theorem dX1_sumOf_58 : decode cX1_sumOf 58 = .ok (.iload 4, 2) := by decide +kernel
theorem dX1_sumOf_60 : decode cX1_sumOf 60 = .ok (.iaload, 1) := by decide +kernel
theorem dX1_sumOf_61 : decode cX1_sumOf 61 = .ok (.iadd, 1) := by decide +kernel
theorem dX1_sumOf_62 : decode cX1_sumOf 62 = .ok (.istore_n 2, 1) := by decide +kernel
theorem dX1_sumOf_63 : decode cX1_sumOf 63 = .ok (.iinc 4 1, 3) := by decide +kernel
theorem dX1_sumOf_66 : decode cX1_sumOf 66 = .ok (.goto (-34), 3) := by decide +kernel
theorem dX1_sumOf_69 : decode cX1_sumOf 69 = .ok (.iload_n 2, 1) := by decide +kernel
theorem dX1_sumOf_70 : decode cX1_sumOf 70 = .ok (.ireturn, 1) := by decide +kernel
theorem dX1_goal_0 : decode cX1_goal 0 = .ok (.iconst 0, 1) := by decide +kernel
theorem dX1_goal_1 : decode cX1_goal 1 = .ok (.istore_n 2, 1) := by decide +kernel
theorem dX1_goal_2 : decode cX1_goal 2 = .ok (.iconst 0, 1) := by decide +kernel
theorem dX1_goal_3 : decode cX1_goal 3 = .ok (.istore_n 3, 1) := by decide +kernel
theorem dX1_goal_4 : decode cX1_goal 4 = .ok (.iload_n 3, 1) := by decide +kernel
theorem dX1_goal_5 : decode cX1_goal 5 = .ok (.aload_n 0, 1) := by decide +kernel
theorem dX1_goal_6 : decode cX1_goal 6 = .ok (.getfield 34, 3) := by decide +kernel
theorem dX1_goal_9 : decode cX1_goal 9 = .ok (.if_icmp .ge 28, 3) := by decide +kernel
theorem dX1_goal_12 : decode cX1_goal 12 = .ok (.iload_n 2, 1) := by decide +kernel
theorem dX1_goal_13 : decode cX1_goal 13 = .ok (.aload_n 0, 1) := by decide +kernel
theorem dX1_goal_14 : decode cX1_goal 14 = .ok (.aload_n 0, 1) := by decide +kernel
theorem dX1_goal_15 : decode cX1_goal 15 = .ok (.getfield 15, 3) := by decide +kernel
theorem dX1_goal_18 : decode cX1_goal 18 = .ok (.iload_n 3, 1) := by decide +kernel
theorem dX1_goal_19 : decode cX1_goal 19 = .ok (.invokevirtual 55, 3) := by decide +kernel
theorem dX1_goal_22 : decode cX1_goal 22 = .ok (.iadd, 1) := by decide +kernel
theorem dX1_goal_23 : decode cX1_goal 23 = .ok (.istore_n 2, 1) := by decide +kernel
theorem dX1_goal_24 : decode cX1_goal 24 = .ok (.iload_n 2, 1) := by decide +kernel
theorem dX1_goal_25 : decode cX1_goal 25 = .ok (.iload_n 1, 1) := by decide +kernel
theorem dX1_goal_26 : decode cX1_goal 26 = .ok (.if_icmp .le 5, 3) := by decide +kernel
theorem dX1_goal_29 : decode cX1_goal 29 = .ok (.iload_n 3, 1) := by decide +kernel
theorem dX1_goal_30 : decode cX1_goal 30 = .ok (.ireturn, 1) := by decide +kernel
theorem dX1_goal_31 : decode cX1_goal 31 = .ok (.iinc 3 1, 3) := by decide +kernel
theorem dX1_goal_34 : decode cX1_goal 34 = .ok (.goto (-30), 3) := by decide +kernel
theorem dX1_goal_37 : decode cX1_goal 37 = .ok (.aload_n 0, 1) := by decide +kernel
theorem dX1_goal_38 : decode cX1_goal 38 = .ok (.getfield 15, 3) := by decide +kernel
theorem dX1_goal_41 : decode cX1_goal 41 = .ok (.ireturn, 1) := by decide +kernel
theorem dX1_worthAt_0 : decode cX1_worthAt 0 = .ok (.aload_n 0, 1) := by decide +kernel
theorem dX1_worthAt_1 : decode cX1_worthAt 1 = .ok (.getfield 46, 3) := by decide +kernel
theorem dX1_worthAt_4 : decode cX1_worthAt 4 = .ok (.iload_n 1, 1) := by decide +kernel
theorem dX1_worthAt_5 : decode cX1_worthAt 5 = .ok (.ifCond .lt 16, 3) := by decide +kernel
theorem dX1_worthAt_8 : decode cX1_worthAt 8 = .ok (.iload_n 1, 1) := by decide +kernel
theorem dX1_worthAt_9 : decode cX1_worthAt 9 = .ok (.aload_n 0, 1) := by decide +kernel
theorem dX1_worthAt_10 : decode cX1_worthAt 10 = .ok (.getfield 46, 3) := by decide +kernel
theorem dX1_worthAt_13 : decode cX1_worthAt 13 = .ok (.arraylength, 1) := by decide +kernel
theorem dX1_worthAt_14 : decode cX1_worthAt 14 = .ok (.if_icmp .ge 7, 3) := by decide +kernel
theorem dX1_worthAt_17 : decode cX1_worthAt 17 = .ok (.iload_n 1, 1) := by decide +kernel
theorem dX1_worthAt_18 : decode cX1_worthAt 18 = .ok (.goto 4, 3) := by decide +kernel
theorem dX1_worthAt_21 : decode cX1_worthAt 21 = .ok (.iconst 0, 1) := by decide +kernel
theorem dX1_worthAt_22 : decode cX1_worthAt 22 = .ok (.aaload, 1) := by decide +kernel
theorem dX1_worthAt_23 : decode cX1_worthAt 23 = .ok (.areturn, 1) := by decide +kernel
theorem dX2_init_0 : decode cX2_init 0 = .ok (.aload_n 0, 1) := by decide +kernel
theorem dX2_init_1 : decode cX2_init 1 = .ok (.invokespecial 3, 3) := by decide +kernel
theorem dX2_init_4 : decode cX2_init 4 = .ok (.aload_n 0, 1) := by decide +kernel
theorem dX2_init_5 : decode cX2_init 5 = .ok (.bipush 30, 2) := by decide +kernel
theorem dX2_init_7 : decode cX2_init 7 = .ok (.newarray .long, 2) := by decide +kernel
theorem dX2_init_9 : decode cX2_init 9 = .ok (.putfield 11, 3) := by decide +kernel
theorem dX2_init_12 : decode cX2_init 12 = .ok (.aload_n 0, 1) := by decide +kernel
theorem dX2_init_13 : decode cX2_init 13 = .ok (.iconst 5, 1) := by decide +kernel
theorem dX2_init_14 : decode cX2_init 14 = .ok (.newarray .int, 2) := by decide +kernel
theorem dX2_init_16 : decode cX2_init 16 = .ok (.putfield 15, 3) := by decide +kernel
theorem dX2_init_19 : decode cX2_init 19 = .ok (.aload_n 0, 1) := by decide +kernel
theorem dX2_init_20 : decode cX2_init 20 = .ok (.new 19, 3) := by decide +kernel
theorem dX2_init_23 : decode cX2_init 23 = .ok (.dup, 1) := by decide +kernel
theorem dX2_init_24 : decode cX2_init 24 = .ok (.invokespecial 21, 3) := by decide +kernel
theorem dX2_init_27 : decode cX2_init 27 = .ok (.putfield 22, 3) := by decide +kernel
theorem dX2_init_30 : decode cX2_init 30 = .ok (.aload_n 0, 1) := by decide +kernel
theorem dX2_init_31 : decode cX2_init 31 = .ok (.new 19, 3) := by decide +kernel
theorem dX2_init_34 : decode cX2_init 34 = .ok (.dup, 1) := by decide +kernel
theorem dX2_init_35 : decode cX2_init 35 = .ok (.invokespecial 21, 3) := by decide +kernel
theorem dX2_init_38 : decode cX2_init 38 = .ok (.putfield 26, 3) := by decide +kernel
theorem dX2_init_41 : decode cX2_init 41 = .ok (.return_, 1) := by decide +kernel
theorem dX2_valueOf_0 : decode cX2_valueOf 0 = .ok (.aload_n 0, 1) := by decide +kernel
theorem dX2_valueOf_1 : decode cX2_valueOf 1 = .ok (.aload_n 1, 1) := by decide +kernel
theorem dX2_valueOf_2 : decode cX2_valueOf 2 = .ok (.iload_n 2, 1) := by decide +kernel
theorem dX2_valueOf_3 : decode cX2_valueOf 3 = .ok (.iload_n 3, 1) := by decide +kernel
theorem dX2_valueOf_4 : decode cX2_valueOf 4 = .ok (.invokevirtual 29, 3) := by decide +kernel
theorem dX2_valueOf_7 : decode cX2_valueOf 7 = .ok (.istore 6, 2) := by decide +kernel
theorem dX2_valueOf_9 : decode cX2_valueOf 9 = .ok (.iconst 0, 1) := by decide +kernel
theorem dX2_valueOf_10 : decode cX2_valueOf 10 = .ok (.istore 7, 2) := by decide +kernel
theorem dX2_valueOf_12 : decode cX2_valueOf 12 = .ok (.iload 7, 2) := by decide +kernel
theorem dX2_valueOf_14 : decode cX2_valueOf 14 = .ok (.iload 6, 2) := by decide +kernel
theorem dX2_valueOf_16 : decode cX2_valueOf 16 = .ok (.if_icmp .ge 22, 3) := by decide +kernel
theorem dX2_valueOf_19 : decode cX2_valueOf 19 = .ok (.aload_n 0, 1) := by decide +kernel
theorem dX2_valueOf_20 : decode cX2_valueOf 20 = .ok (.aload_n 1, 1) := by decide +kernel
theorem dX2_valueOf_21 : decode cX2_valueOf 21 = .ok (.iload 7, 2) := by decide +kernel
theorem dX2_valueOf_23 : decode cX2_valueOf 23 = .ok (.iload 6, 2) := by decide +kernel
theorem dX2_valueOf_25 : decode cX2_valueOf 25 = .ok (.iload 4, 2) := by decide +kernel
theorem dX2_valueOf_27 : decode cX2_valueOf 27 = .ok (.iload 5, 2) := by decide +kernel
theorem dX2_valueOf_29 : decode cX2_valueOf 29 = .ok (.invokevirtual 33, 3) := by decide +kernel
theorem dX2_valueOf_32 : decode cX2_valueOf 32 = .ok (.iinc 7 1, 3) := by decide +kernel
theorem dX2_valueOf_35 : decode cX2_valueOf 35 = .ok (.goto (-23), 3) := by decide +kernel
theorem dX2_valueOf_38 : decode cX2_valueOf 38 = .ok (.aload_n 0, 1) := by decide +kernel
theorem dX2_valueOf_39 : decode cX2_valueOf 39 = .ok (.iload 6, 2) := by decide +kernel
theorem dX2_valueOf_41 : decode cX2_valueOf 41 = .ok (.invokevirtual 37, 3) := by decide +kernel
theorem dX2_valueOf_44 : decode cX2_valueOf 44 = .ok (.aload_n 0, 1) := by decide +kernel
theorem dX2_valueOf_45 : decode cX2_valueOf 45 = .ok (.getfield 22, 3) := by decide +kernel
theorem dX2_valueOf_48 : decode cX2_valueOf 48 = .ok (.aload_n 0, 1) := by decide +kernel
theorem dX2_valueOf_49 : decode cX2_valueOf 49 = .ok (.iload 6, 2) := by decide +kernel
theorem dX2_valueOf_51 : decode cX2_valueOf 51 = .ok (.iconst 1, 1) := by decide +kernel
theorem dX2_valueOf_52 : decode cX2_valueOf 52 = .ok (.isub, 1) := by decide +kernel
theorem dX2_valueOf_53 : decode cX2_valueOf 53 = .ok (.iload 6, 2) := by decide +kernel
theorem dX2_valueOf_55 : decode cX2_valueOf 55 = .ok (.iconst 1, 1) := by decide +kernel
theorem dX2_valueOf_56 : decode cX2_valueOf 56 = .ok (.isub, 1) := by decide +kernel
theorem dX2_valueOf_57 : decode cX2_valueOf 57 = .ok (.invokevirtual 41, 3) := by decide +kernel
theorem dX2_valueOf_60 : decode cX2_valueOf 60 = .ok (.aload_n 0, 1) := by decide +kernel
theorem dX2_valueOf_61 : decode cX2_valueOf 61 = .ok (.iload 6, 2) := by decide +kernel
theorem dX2_valueOf_63 : decode cX2_valueOf 63 = .ok (.iconst 1, 1) := by decide +kernel
theorem dX2_valueOf_64 : decode cX2_valueOf 64 = .ok (.isub, 1) := by decide +kernel
theorem dX2_valueOf_65 : decode cX2_valueOf 65 = .ok (.iload 6, 2) := by decide +kernel
theorem dX2_valueOf_67 : decode cX2_valueOf 67 = .ok (.invokevirtual 41, 3) := by decide +kernel
theorem dX2_valueOf_70 : decode cX2_valueOf 70 = .ok (.invokevirtual 45, 3) := by decide +kernel
theorem dX2_valueOf_73 : decode cX2_valueOf 73 = .ok (.aload_n 0, 1) := by decide +kernel
theorem dX2_valueOf_74 : decode cX2_valueOf 74 = .ok (.getfield 22, 3) := by decide +kernel
theorem dX2_valueOf_77 : decode cX2_valueOf 77 = .ok (.areturn, 1) := by decide +kernel
theorem dX2_reckonWorths_0 : decode cX2_reckonWorths 0 = .ok (.iconst 0, 1) := by decide +kernel
theorem dX2_reckonWorths_1 : decode cX2_reckonWorths 1 = .ok (.istore 4, 2) := by decide +kernel
theorem dX2_reckonWorths_3 : decode cX2_reckonWorths 3 = .ok (.iconst 0, 1) := by decide +kernel
theorem dX2_reckonWorths_4 : decode cX2_reckonWorths 4 = .ok (.istore 5, 2) := by decide +kernel
theorem dX2_reckonWorths_6 : decode cX2_reckonWorths 6 = .ok (.iload 5, 2) := by decide +kernel
theorem dX2_reckonWorths_8 : decode cX2_reckonWorths 8 = .ok (.aload_n 1, 1) := by decide +kernel
theorem dX2_reckonWorths_9 : decode cX2_reckonWorths 9 = .ok (.getfield 49, 3) := by decide +kernel
theorem dX2_reckonWorths_12 : decode cX2_reckonWorths 12 = .ok (.if_icmp .ge 110, 3) := by decide +kernel
theorem dX2_reckonWorths_15 : decode cX2_reckonWorths 15 = .ok (.iconst (-1), 1) := by decide +kernel
theorem dX2_reckonWorths_16 : decode cX2_reckonWorths 16 = .ok (.istore 6, 2) := by decide +kernel
theorem dX2_reckonWorths_18 : decode cX2_reckonWorths 18 = .ok (.iconst 0, 1) := by decide +kernel
theorem dX2_reckonWorths_19 : decode cX2_reckonWorths 19 = .ok (.istore 7, 2) := by decide +kernel
theorem dX2_reckonWorths_21 : decode cX2_reckonWorths 21 = .ok (.iload 7, 2) := by decide +kernel
theorem dX2_reckonWorths_23 : decode cX2_reckonWorths 23 = .ok (.aload_n 1, 1) := by decide +kernel
theorem dX2_reckonWorths_24 : decode cX2_reckonWorths 24 = .ok (.getfield 49, 3) := by decide +kernel
theorem dX2_reckonWorths_27 : decode cX2_reckonWorths 27 = .ok (.if_icmp .ge 62, 3) := by decide +kernel
theorem dX2_reckonWorths_30 : decode cX2_reckonWorths 30 = .ok (.iload 4, 2) := by decide +kernel
theorem dX2_reckonWorths_32 : decode cX2_reckonWorths 32 = .ok (.iload 7, 2) := by decide +kernel
theorem dX2_reckonWorths_34 : decode cX2_reckonWorths 34 = .ok (.ishr, 1) := by decide +kernel
theorem dX2_reckonWorths_35 : decode cX2_reckonWorths 35 = .ok (.iconst 1, 1) := by decide +kernel
theorem dX2_reckonWorths_36 : decode cX2_reckonWorths 36 = .ok (.iand, 1) := by decide +kernel
theorem dX2_reckonWorths_37 : decode cX2_reckonWorths 37 = .ok (.ifCond .ne 46, 3) := by decide +kernel
theorem dX2_reckonWorths_40 : decode cX2_reckonWorths 40 = .ok (.aload_n 0, 1) := by decide +kernel
theorem dX2_reckonWorths_41 : decode cX2_reckonWorths 41 = .ok (.aload_n 1, 1) := by decide +kernel
theorem dX2_reckonWorths_42 : decode cX2_reckonWorths 42 = .ok (.iload 7, 2) := by decide +kernel
theorem dX2_reckonWorths_44 : decode cX2_reckonWorths 44 = .ok (.iload 4, 2) := by decide +kernel
theorem dX2_reckonWorths_46 : decode cX2_reckonWorths 46 = .ok (.iload_n 2, 1) := by decide +kernel
theorem dX2_reckonWorths_47 : decode cX2_reckonWorths 47 = .ok (.iload_n 3, 1) := by decide +kernel
theorem dX2_reckonWorths_48 : decode cX2_reckonWorths 48 = .ok (.invokevirtual 55, 3) := by decide +kernel
theorem dX2_reckonWorths_51 : decode cX2_reckonWorths 51 = .ok (.astore 8, 2) := by decide +kernel
theorem dX2_reckonWorths_53 : decode cX2_reckonWorths 53 = .ok (.iload 6, 2) := by decide +kernel
theorem dX2_reckonWorths_55 : decode cX2_reckonWorths 55 = .ok (.ifCond .lt 15, 3) := by decide +kernel
theorem dX2_reckonWorths_58 : decode cX2_reckonWorths 58 = .ok (.aload 8, 2) := by decide +kernel
theorem dX2_reckonWorths_60 : decode cX2_reckonWorths 60 = .ok (.aload_n 0, 1) := by decide +kernel
theorem dX2_reckonWorths_61 : decode cX2_reckonWorths 61 = .ok (.getfield 26, 3) := by decide +kernel
theorem dX2_reckonWorths_64 : decode cX2_reckonWorths 64 = .ok (.invokevirtual 59, 3) := by decide +kernel
theorem dX2_reckonWorths_67 : decode cX2_reckonWorths 67 = .ok (.ifCond .le 16, 3) := by decide +kernel
theorem dX2_reckonWorths_70 : decode cX2_reckonWorths 70 = .ok (.aload_n 0, 1) := by decide +kernel
theorem dX2_reckonWorths_71 : decode cX2_reckonWorths 71 = .ok (.getfield 26, 3) := by decide +kernel
theorem dX2_reckonWorths_74 : decode cX2_reckonWorths 74 = .ok (.aload 8, 2) := by decide +kernel
theorem dX2_reckonWorths_76 : decode cX2_reckonWorths 76 = .ok (.invokevirtual 63, 3) := by decide +kernel
theorem dX2_reckonWorths_79 : decode cX2_reckonWorths 79 = .ok (.iload 7, 2) := by decide +kernel
theorem dX2_reckonWorths_81 : decode cX2_reckonWorths 81 = .ok (.istore 6, 2) := by decide +kernel
theorem dX2_reckonWorths_83 : decode cX2_reckonWorths 83 = .ok (.iinc 7 1, 3) := by decide +kernel
theorem dX2_reckonWorths_86 : decode cX2_reckonWorths 86 = .ok (.goto (-65), 3) := by decide +kernel
theorem dX2_reckonWorths_89 : decode cX2_reckonWorths 89 = .ok (.iload 6, 2) := by decide +kernel
theorem dX2_reckonWorths_91 : decode cX2_reckonWorths 91 = .ok (.ifCond .lt 25, 3) := by decide +kernel
theorem dX2_reckonWorths_94 : decode cX2_reckonWorths 94 = .ok (.aload_n 1, 1) := by decide +kernel
theorem dX2_reckonWorths_95 : decode cX2_reckonWorths 95 = .ok (.iload 6, 2) := by decide +kernel
theorem dX2_reckonWorths_97 : decode cX2_reckonWorths 97 = .ok (.invokevirtual 67, 3) := by decide +kernel
theorem dX2_reckonWorths_100 : decode cX2_reckonWorths 100 = .ok (.aload_n 0, 1) := by decide +kernel
theorem dX2_reckonWorths_101 : decode cX2_reckonWorths 101 = .ok (.getfield 26, 3) := by decide +kernel
theorem dX2_reckonWorths_104 : decode cX2_reckonWorths 104 = .ok (.invokevirtual 63, 3) := by decide +kernel
theorem dX2_reckonWorths_107 : decode cX2_reckonWorths 107 = .ok (.iload 4, 2) := by decide +kernel
theorem dX2_reckonWorths_109 : decode cX2_reckonWorths 109 = .ok (.iconst 1, 1) := by decide +kernel
theorem dX2_reckonWorths_110 : decode cX2_reckonWorths 110 = .ok (.iload 6, 2) := by decide +kernel
theorem dX2_reckonWorths_112 : decode cX2_reckonWorths 112 = .ok (.ishl, 1) := by decide +kernel
theorem dX2_reckonWorths_113 : decode cX2_reckonWorths 113 = .ok (.ior, 1) := by decide +kernel
theorem dX2_reckonWorths_114 : decode cX2_reckonWorths 114 = .ok (.istore 4, 2) := by decide +kernel
theorem dX2_reckonWorths_116 : decode cX2_reckonWorths 116 = .ok (.iinc 5 1, 3) := by decide +kernel
theorem dX2_reckonWorths_119 : decode cX2_reckonWorths 119 = .ok (.goto (-113), 3) := by decide +kernel
theorem dX2_reckonWorths_122 : decode cX2_reckonWorths 122 = .ok (.aload_n 1, 1) := by decide +kernel
theorem dX2_reckonWorths_123 : decode cX2_reckonWorths 123 = .ok (.iconst 1, 1) := by decide +kernel
theorem dX2_reckonWorths_124 : decode cX2_reckonWorths 124 = .ok (.putfield 71, 3) := by decide +kernel
theorem dX2_reckonWorths_127 : decode cX2_reckonWorths 127 = .ok (.return_, 1) := by decide +kernel
theorem dX2_longestRow_0 : decode cX2_longestRow 0 = .ok (.iconst 0, 1) := by decide +kernel
theorem dX2_longestRow_1 : decode cX2_longestRow 1 = .ok (.istore 5, 2) := by decide +kernel
theorem dX2_longestRow_3 : decode cX2_longestRow 3 = .ok (.iconst 0, 1) := by decide +kernel
theorem dX2_longestRow_4 : decode cX2_longestRow 4 = .ok (.istore 6, 2) := by decide +kernel
theorem dX2_longestRow_6 : decode cX2_longestRow 6 = .ok (.iload_n 2, 1) := by decide +kernel
theorem dX2_longestRow_7 : decode cX2_longestRow 7 = .ok (.istore 7, 2) := by decide +kernel
theorem dX2_longestRow_9 : decode cX2_longestRow 9 = .ok (.iload 7, 2) := by decide +kernel
theorem dX2_longestRow_11 : decode cX2_longestRow 11 = .ok (.aload_n 1, 1) := by decide +kernel
theorem dX2_longestRow_12 : decode cX2_longestRow 12 = .ok (.getfield 49, 3) := by decide +kernel
theorem dX2_longestRow_15 : decode cX2_longestRow 15 = .ok (.if_icmp .ge 65, 3) := by decide +kernel
theorem dX2_longestRow_18 : decode cX2_longestRow 18 = .ok (.iload 5, 2) := by decide +kernel
theorem dX2_longestRow_20 : decode cX2_longestRow 20 = .ok (.iconst 1, 1) := by decide +kernel
theorem dX2_longestRow_21 : decode cX2_longestRow 21 = .ok (.iload 7, 2) := by decide +kernel
theorem dX2_longestRow_23 : decode cX2_longestRow 23 = .ok (.ishl, 1) := by decide +kernel
theorem dX2_longestRow_24 : decode cX2_longestRow 24 = .ok (.ior, 1) := by decide +kernel
theorem dX2_longestRow_25 : decode cX2_longestRow 25 = .ok (.istore 5, 2) := by decide +kernel
theorem dX2_longestRow_27 : decode cX2_longestRow 27 = .ok (.aload_n 0, 1) := by decide +kernel
theorem dX2_longestRow_28 : decode cX2_longestRow 28 = .ok (.aload_n 1, 1) := by decide +kernel
theorem dX2_longestRow_29 : decode cX2_longestRow 29 = .ok (.iload_n 2, 1) := by decide +kernel
theorem dX2_longestRow_30 : decode cX2_longestRow 30 = .ok (.iload 5, 2) := by decide +kernel
theorem dX2_longestRow_32 : decode cX2_longestRow 32 = .ok (.iload_n 3, 1) := by decide +kernel
theorem dX2_longestRow_33 : decode cX2_longestRow 33 = .ok (.iload 4, 2) := by decide +kernel
theorem dX2_longestRow_35 : decode cX2_longestRow 35 = .ok (.invokevirtual 55, 3) := by decide +kernel
theorem dX2_longestRow_38 : decode cX2_longestRow 38 = .ok (.astore 8, 2) := by decide +kernel
theorem dX2_longestRow_40 : decode cX2_longestRow 40 = .ok (.iload 6, 2) := by decide +kernel
theorem dX2_longestRow_42 : decode cX2_longestRow 42 = .ok (.ifCond .eq 15, 3) := by decide +kernel
theorem dX2_longestRow_45 : decode cX2_longestRow 45 = .ok (.aload 8, 2) := by decide +kernel
theorem dX2_longestRow_47 : decode cX2_longestRow 47 = .ok (.aload_n 0, 1) := by decide +kernel
theorem dX2_longestRow_48 : decode cX2_longestRow 48 = .ok (.getfield 26, 3) := by decide +kernel
theorem dX2_longestRow_51 : decode cX2_longestRow 51 = .ok (.invokevirtual 59, 3) := by decide +kernel
theorem dX2_longestRow_54 : decode cX2_longestRow 54 = .ok (.ifCond .le 20, 3) := by decide +kernel
theorem dX2_longestRow_57 : decode cX2_longestRow 57 = .ok (.aload_n 0, 1) := by decide +kernel
theorem dX2_longestRow_58 : decode cX2_longestRow 58 = .ok (.getfield 26, 3) := by decide +kernel
theorem dX2_longestRow_61 : decode cX2_longestRow 61 = .ok (.aload 8, 2) := by decide +kernel
theorem dX2_longestRow_63 : decode cX2_longestRow 63 = .ok (.invokevirtual 63, 3) := by decide +kernel
theorem dX2_longestRow_66 : decode cX2_longestRow 66 = .ok (.iload 7, 2) := by decide +kernel
theorem dX2_longestRow_68 : decode cX2_longestRow 68 = .ok (.iload_n 2, 1) := by decide +kernel
theorem dX2_longestRow_69 : decode cX2_longestRow 69 = .ok (.isub, 1) := by decide +kernel
theorem dX2_longestRow_70 : decode cX2_longestRow 70 = .ok (.iconst 1, 1) := by decide +kernel
theorem dX2_longestRow_71 : decode cX2_longestRow 71 = .ok (.iadd, 1) := by decide +kernel
theorem dX2_longestRow_72 : decode cX2_longestRow 72 = .ok (.istore 6, 2) := by decide +kernel
theorem dX2_longestRow_74 : decode cX2_longestRow 74 = .ok (.iinc 7 1, 3) := by decide +kernel
theorem dX2_longestRow_77 : decode cX2_longestRow 77 = .ok (.goto (-68), 3) := by decide +kernel
theorem dX2_longestRow_80 : decode cX2_longestRow 80 = .ok (.iload 6, 2) := by decide +kernel
theorem dX2_longestRow_82 : decode cX2_longestRow 82 = .ok (.ireturn, 1) := by decide +kernel
theorem dX2_listStates_0 : decode cX2_listStates 0 = .ok (.iconst 0, 1) := by decide +kernel
theorem dX2_listStates_1 : decode cX2_listStates 1 = .ok (.istore 4, 2) := by decide +kernel
theorem dX2_listStates_3 : decode cX2_listStates 3 = .ok (.iconst 0, 1) := by decide +kernel
theorem dX2_listStates_4 : decode cX2_listStates 4 = .ok (.istore 5, 2) := by decide +kernel
theorem dX2_listStates_6 : decode cX2_listStates 6 = .ok (.iload 5, 2) := by decide +kernel
theorem dX2_listStates_8 : decode cX2_listStates 8 = .ok (.aload_n 1, 1) := by decide +kernel
theorem dX2_listStates_9 : decode cX2_listStates 9 = .ok (.getfield 49, 3) := by decide +kernel
theorem dX2_listStates_12 : decode cX2_listStates 12 = .ok (.if_icmp .ge 48, 3) := by decide +kernel
theorem dX2_listStates_15 : decode cX2_listStates 15 = .ok (.iload 4, 2) := by decide +kernel
theorem dX2_listStates_17 : decode cX2_listStates 17 = .ok (.aload_n 0, 1) := by decide +kernel
theorem dX2_listStates_18 : decode cX2_listStates 18 = .ok (.getfield 15, 3) := by decide +kernel
theorem dX2_listStates_21 : decode cX2_listStates 21 = .ok (.arraylength, 1) := by decide +kernel
theorem dX2_listStates_22 : decode cX2_listStates 22 = .ok (.iconst 1, 1) := by decide +kernel
theorem dX2_listStates_23 : decode cX2_listStates 23 = .ok (.isub, 1) := by decide +kernel
theorem dX2_listStates_24 : decode cX2_listStates 24 = .ok (.if_icmp .ge 36, 3) := by decide +kernel
theorem dX2_listStates_27 : decode cX2_listStates 27 = .ok (.iload 5, 2) := by decide +kernel
theorem dX2_listStates_29 : decode cX2_listStates 29 = .ok (.iload_n 2, 1) := by decide +kernel
theorem dX2_listStates_30 : decode cX2_listStates 30 = .ok (.if_icmp .eq 24, 3) := by decide +kernel
theorem dX2_listStates_33 : decode cX2_listStates 33 = .ok (.iload_n 3, 1) := by decide +kernel
theorem dX2_listStates_34 : decode cX2_listStates 34 = .ok (.iload 5, 2) := by decide +kernel
theorem dX2_listStates_36 : decode cX2_listStates 36 = .ok (.ishr, 1) := by decide +kernel
theorem dX2_listStates_37 : decode cX2_listStates 37 = .ok (.iconst 1, 1) := by decide +kernel
theorem dX2_listStates_38 : decode cX2_listStates 38 = .ok (.iand, 1) := by decide +kernel
theorem dX2_listStates_39 : decode cX2_listStates 39 = .ok (.ifCond .eq 15, 3) := by decide +kernel
theorem dX2_listStates_42 : decode cX2_listStates 42 = .ok (.aload_n 0, 1) := by decide +kernel
theorem dX2_listStates_43 : decode cX2_listStates 43 = .ok (.getfield 15, 3) := by decide +kernel
theorem dX2_listStates_46 : decode cX2_listStates 46 = .ok (.iload 4, 2) := by decide +kernel
theorem dX2_listStates_48 : decode cX2_listStates 48 = .ok (.iload 5, 2) := by decide +kernel
theorem dX2_listStates_50 : decode cX2_listStates 50 = .ok (.iastore, 1) := by decide +kernel
theorem dX2_listStates_51 : decode cX2_listStates 51 = .ok (.iinc 4 1, 3) := by decide +kernel
theorem dX2_listStates_54 : decode cX2_listStates 54 = .ok (.iinc 5 1, 3) := by decide +kernel
theorem dX2_listStates_57 : decode cX2_listStates 57 = .ok (.goto (-51), 3) := by decide +kernel
theorem dX2_listStates_60 : decode cX2_listStates 60 = .ok (.aload_n 0, 1) := by decide +kernel
theorem dX2_listStates_61 : decode cX2_listStates 61 = .ok (.getfield 15, 3) := by decide +kernel
theorem dX2_listStates_64 : decode cX2_listStates 64 = .ok (.iload 4, 2) := by decide +kernel
theorem dX2_listStates_66 : decode cX2_listStates 66 = .ok (.iload_n 2, 1) := by decide +kernel
theorem dX2_listStates_67 : decode cX2_listStates 67 = .ok (.iastore, 1) := by decide +kernel
theorem dX2_listStates_68 : decode cX2_listStates 68 = .ok (.iload 4, 2) := by decide +kernel
theorem dX2_listStates_70 : decode cX2_listStates 70 = .ok (.iconst 1, 1) := by decide +kernel
theorem dX2_listStates_71 : decode cX2_listStates 71 = .ok (.iadd, 1) := by decide +kernel
theorem dX2_listStates_72 : decode cX2_listStates 72 = .ok (.ireturn, 1) := by decide +kernel
theorem dX2_layRow_0 : decode cX2_layRow 0 = .ok (.iload_n 2, 1) := by decide +kernel
theorem dX2_layRow_1 : decode cX2_layRow 1 = .ok (.ifCond .lt 12, 3) := by decide +kernel
theorem dX2_layRow_4 : decode cX2_layRow 4 = .ok (.iload_n 2, 1) := by decide +kernel
theorem dX2_layRow_5 : decode cX2_layRow 5 = .ok (.aload_n 0, 1) := by decide +kernel
theorem dX2_layRow_6 : decode cX2_layRow 6 = .ok (.getfield 15, 3) := by decide +kernel
theorem dX2_layRow_9 : decode cX2_layRow 9 = .ok (.arraylength, 1) := by decide +kernel
theorem dX2_layRow_10 : decode cX2_layRow 10 = .ok (.if_icmp .lt 4, 3) := by decide +kernel
theorem dX2_layRow_13 : decode cX2_layRow 13 = .ok (.return_, 1) := by decide +kernel
theorem dX2_layRow_14 : decode cX2_layRow 14 = .ok (.aload_n 0, 1) := by decide +kernel
theorem dX2_layRow_15 : decode cX2_layRow 15 = .ok (.getfield 15, 3) := by decide +kernel
theorem dX2_layRow_18 : decode cX2_layRow 18 = .ok (.iload_n 2, 1) := by decide +kernel
theorem dX2_layRow_19 : decode cX2_layRow 19 = .ok (.iaload, 1) := by decide +kernel
theorem dX2_layRow_20 : decode cX2_layRow 20 = .ok (.istore 6, 2) := by decide +kernel
theorem dX2_layRow_22 : decode cX2_layRow 22 = .ok (.iload 5, 2) := by decide +kernel
theorem dX2_layRow_24 : decode cX2_layRow 24 = .ok (.i2l, 1) := by decide +kernel
theorem dX2_layRow_25 : decode cX2_layRow 25 = .ok (.aload_n 1, 1) := by decide +kernel
theorem dX2_layRow_26 : decode cX2_layRow 26 = .ok (.iload 6, 2) := by decide +kernel
theorem dX2_layRow_28 : decode cX2_layRow 28 = .ok (.invokevirtual 75, 3) := by decide +kernel
theorem dX2_layRow_31 : decode cX2_layRow 31 = .ok (.i2l, 1) := by decide +kernel
theorem dX2_layRow_32 : decode cX2_layRow 32 = .ok (.lmul, 1) := by decide +kernel
theorem dX2_layRow_33 : decode cX2_layRow 33 = .ok (.lstore 7, 2) := by decide +kernel
theorem dX2_layRow_35 : decode cX2_layRow 35 = .ok (.iconst 0, 1) := by decide +kernel
theorem dX2_layRow_36 : decode cX2_layRow 36 = .ok (.istore 9, 2) := by decide +kernel
theorem dX2_layRow_38 : decode cX2_layRow 38 = .ok (.iload 9, 2) := by decide +kernel
theorem dX2_layRow_40 : decode cX2_layRow 40 = .ok (.iload_n 3, 1) := by decide +kernel
theorem dX2_layRow_41 : decode cX2_layRow 41 = .ok (.iconst 1, 1) := by decide +kernel
theorem dX2_layRow_42 : decode cX2_layRow 42 = .ok (.isub, 1) := by decide +kernel
theorem dX2_layRow_43 : decode cX2_layRow 43 = .ok (.if_icmp .ge 61, 3) := by decide +kernel
theorem dX2_layRow_46 : decode cX2_layRow 46 = .ok (.iload 9, 2) := by decide +kernel
theorem dX2_layRow_48 : decode cX2_layRow 48 = .ok (.aload_n 0, 1) := by decide +kernel
theorem dX2_layRow_49 : decode cX2_layRow 49 = .ok (.getfield 15, 3) := by decide +kernel
theorem dX2_layRow_52 : decode cX2_layRow 52 = .ok (.arraylength, 1) := by decide +kernel
theorem dX2_layRow_53 : decode cX2_layRow 53 = .ok (.if_icmp .ge 51, 3) := by decide +kernel
theorem dX2_layRow_56 : decode cX2_layRow 56 = .ok (.iload 9, 2) := by decide +kernel
theorem dX2_layRow_58 : decode cX2_layRow 58 = .ok (.iload_n 2, 1) := by decide +kernel
theorem dX2_layRow_59 : decode cX2_layRow 59 = .ok (.if_icmp .ne 8, 3) := by decide +kernel
theorem dX2_layRow_62 : decode cX2_layRow 62 = .ok (.lload 7, 2) := by decide +kernel
theorem dX2_layRow_64 : decode cX2_layRow 64 = .ok (.goto 4, 3) := by decide +kernel
theorem dX2_layRow_67 : decode cX2_layRow 67 = .ok (.lconst 0, 1) := by decide +kernel
theorem dX2_layRow_68 : decode cX2_layRow 68 = .ok (.lstore 10, 2) := by decide +kernel
theorem dX2_layRow_70 : decode cX2_layRow 70 = .ok (.aload_n 0, 1) := by decide +kernel
theorem dX2_layRow_71 : decode cX2_layRow 71 = .ok (.iload_n 2, 1) := by decide +kernel
theorem dX2_layRow_72 : decode cX2_layRow 72 = .ok (.iload 9, 2) := by decide +kernel
theorem dX2_layRow_74 : decode cX2_layRow 74 = .ok (.lload 10, 2) := by decide +kernel
theorem dX2_layRow_76 : decode cX2_layRow 76 = .ok (.iload 4, 2) := by decide +kernel
theorem dX2_layRow_78 : decode cX2_layRow 78 = .ok (.i2l, 1) := by decide +kernel
theorem dX2_layRow_79 : decode cX2_layRow 79 = .ok (.aload_n 1, 1) := by decide +kernel
theorem dX2_layRow_80 : decode cX2_layRow 80 = .ok (.iload 6, 2) := by decide +kernel
theorem dX2_layRow_82 : decode cX2_layRow 82 = .ok (.aload_n 0, 1) := by decide +kernel
theorem dX2_layRow_83 : decode cX2_layRow 83 = .ok (.getfield 15, 3) := by decide +kernel
theorem dX2_layRow_86 : decode cX2_layRow 86 = .ok (.iload 9, 2) := by decide +kernel
theorem dX2_layRow_88 : decode cX2_layRow 88 = .ok (.iaload, 1) := by decide +kernel
theorem dX2_layRow_89 : decode cX2_layRow 89 = .ok (.invokevirtual 79, 3) := by decide +kernel
theorem dX2_layRow_92 : decode cX2_layRow 92 = .ok (.i2l, 1) := by decide +kernel
theorem dX2_layRow_93 : decode cX2_layRow 93 = .ok (.lmul, 1) := by decide +kernel
theorem dX2_layRow_94 : decode cX2_layRow 94 = .ok (.lsub, 1) := by decide +kernel
theorem dX2_layRow_95 : decode cX2_layRow 95 = .ok (.invokevirtual 83, 3) := by decide +kernel
theorem dX2_layRow_98 : decode cX2_layRow 98 = .ok (.iinc 9 1, 3) := by decide +kernel
theorem dX2_layRow_101 : decode cX2_layRow 101 = .ok (.goto (-63), 3) := by decide +kernel
theorem dX2_layRow_104 : decode cX2_layRow 104 = .ok (.aload_n 0, 1) := by decide +kernel
theorem dX2_layRow_105 : decode cX2_layRow 105 = .ok (.iload_n 2, 1) := by decide +kernel
theorem dX2_layRow_106 : decode cX2_layRow 106 = .ok (.iload_n 3, 1) := by decide +kernel
theorem dX2_layRow_107 : decode cX2_layRow 107 = .ok (.iconst 1, 1) := by decide +kernel
theorem dX2_layRow_108 : decode cX2_layRow 108 = .ok (.isub, 1) := by decide +kernel
theorem dX2_layRow_109 : decode cX2_layRow 109 = .ok (.lload 7, 2) := by decide +kernel
theorem dX2_layRow_111 : decode cX2_layRow 111 = .ok (.aload_n 1, 1) := by decide +kernel
theorem dX2_layRow_112 : decode cX2_layRow 112 = .ok (.iload 6, 2) := by decide +kernel
theorem dX2_layRow_114 : decode cX2_layRow 114 = .ok (.invokevirtual 87, 3) := by decide +kernel
theorem dX2_layRow_117 : decode cX2_layRow 117 = .ok (.i2l, 1) := by decide +kernel
theorem dX2_layRow_118 : decode cX2_layRow 118 = .ok (.lmul, 1) := by decide +kernel
theorem dX2_layRow_119 : decode cX2_layRow 119 = .ok (.invokevirtual 83, 3) := by decide +kernel
theorem dX2_layRow_122 : decode cX2_layRow 122 = .ok (.aload_n 0, 1) := by decide +kernel
theorem dX2_layRow_123 : decode cX2_layRow 123 = .ok (.iload_n 2, 1) := by decide +kernel
theorem dX2_layRow_124 : decode cX2_layRow 124 = .ok (.iload_n 3, 1) := by decide +kernel
theorem dX2_layRow_125 : decode cX2_layRow 125 = .ok (.lload 7, 2) := by decide +kernel
theorem dX2_layRow_127 : decode cX2_layRow 127 = .ok (.invokevirtual 83, 3) := by decide +kernel
theorem dX2_layRow_130 : decode cX2_layRow 130 = .ok (.return_, 1) := by decide +kernel
theorem dX2_eliminate_0 : decode cX2_eliminate 0 = .ok (.lconst 1, 1) := by decide +kernel
theorem dX2_eliminate_1 : decode cX2_eliminate 1 = .ok (.lstore_n 2, 1) := by decide +kernel
theorem dX2_eliminate_2 : decode cX2_eliminate 2 = .ok (.iconst 0, 1) := by decide +kernel
theorem dX2_eliminate_3 : decode cX2_eliminate 3 = .ok (.istore 4, 2) := by decide +kernel
theorem dX2_eliminate_5 : decode cX2_eliminate 5 = .ok (.iload 4, 2) := by decide +kernel
theorem dX2_eliminate_7 : decode cX2_eliminate 7 = .ok (.iload_n 1, 1) := by decide +kernel
theorem dX2_eliminate_8 : decode cX2_eliminate 8 = .ok (.iconst 1, 1) := by decide +kernel
theorem dX2_eliminate_9 : decode cX2_eliminate 9 = .ok (.isub, 1) := by decide +kernel
theorem dX2_eliminate_10 : decode cX2_eliminate 10 = .ok (.if_icmp .ge 115, 3) := by decide +kernel
theorem dX2_eliminate_13 : decode cX2_eliminate 13 = .ok (.aload_n 0, 1) := by decide +kernel
theorem dX2_eliminate_14 : decode cX2_eliminate 14 = .ok (.iload 4, 2) := by decide +kernel
theorem dX2_eliminate_16 : decode cX2_eliminate 16 = .ok (.iload 4, 2) := by decide +kernel
theorem dX2_eliminate_18 : decode cX2_eliminate 18 = .ok (.invokevirtual 41, 3) := by decide +kernel
theorem dX2_eliminate_21 : decode cX2_eliminate 21 = .ok (.lstore 5, 2) := by decide +kernel
theorem dX2_eliminate_23 : decode cX2_eliminate 23 = .ok (.iload 4, 2) := by decide +kernel
theorem dX2_eliminate_25 : decode cX2_eliminate 25 = .ok (.iconst 1, 1) := by decide +kernel
theorem dX2_eliminate_26 : decode cX2_eliminate 26 = .ok (.iadd, 1) := by decide +kernel
theorem dX2_eliminate_27 : decode cX2_eliminate 27 = .ok (.istore 7, 2) := by decide +kernel
theorem dX2_eliminate_29 : decode cX2_eliminate 29 = .ok (.iload 7, 2) := by decide +kernel
theorem dX2_eliminate_31 : decode cX2_eliminate 31 = .ok (.iload_n 1, 1) := by decide +kernel
theorem dX2_eliminate_32 : decode cX2_eliminate 32 = .ok (.if_icmp .ge 84, 3) := by decide +kernel
theorem dX2_eliminate_35 : decode cX2_eliminate 35 = .ok (.aload_n 0, 1) := by decide +kernel
theorem dX2_eliminate_36 : decode cX2_eliminate 36 = .ok (.iload 7, 2) := by decide +kernel
theorem dX2_eliminate_38 : decode cX2_eliminate 38 = .ok (.iload 4, 2) := by decide +kernel
theorem dX2_eliminate_40 : decode cX2_eliminate 40 = .ok (.invokevirtual 41, 3) := by decide +kernel
theorem dX2_eliminate_43 : decode cX2_eliminate 43 = .ok (.lstore 8, 2) := by decide +kernel
theorem dX2_eliminate_45 : decode cX2_eliminate 45 = .ok (.iload 4, 2) := by decide +kernel
theorem dX2_eliminate_47 : decode cX2_eliminate 47 = .ok (.iconst 1, 1) := by decide +kernel
theorem dX2_eliminate_48 : decode cX2_eliminate 48 = .ok (.iadd, 1) := by decide +kernel
theorem dX2_eliminate_49 : decode cX2_eliminate 49 = .ok (.istore 10, 2) := by decide +kernel
theorem dX2_eliminate_51 : decode cX2_eliminate 51 = .ok (.iload 10, 2) := by decide +kernel
theorem dX2_eliminate_53 : decode cX2_eliminate 53 = .ok (.iload_n 1, 1) := by decide +kernel
theorem dX2_eliminate_54 : decode cX2_eliminate 54 = .ok (.if_icmp .gt 56, 3) := by decide +kernel
theorem dX2_eliminate_57 : decode cX2_eliminate 57 = .ok (.lload 5, 2) := by decide +kernel
theorem dX2_eliminate_59 : decode cX2_eliminate 59 = .ok (.aload_n 0, 1) := by decide +kernel
theorem dX2_eliminate_60 : decode cX2_eliminate 60 = .ok (.iload 7, 2) := by decide +kernel
theorem dX2_eliminate_62 : decode cX2_eliminate 62 = .ok (.iload 10, 2) := by decide +kernel
theorem dX2_eliminate_64 : decode cX2_eliminate 64 = .ok (.invokevirtual 41, 3) := by decide +kernel
theorem dX2_eliminate_67 : decode cX2_eliminate 67 = .ok (.lmul, 1) := by decide +kernel
theorem dX2_eliminate_68 : decode cX2_eliminate 68 = .ok (.lload 8, 2) := by decide +kernel
theorem dX2_eliminate_70 : decode cX2_eliminate 70 = .ok (.aload_n 0, 1) := by decide +kernel
theorem dX2_eliminate_71 : decode cX2_eliminate 71 = .ok (.iload 4, 2) := by decide +kernel
theorem dX2_eliminate_73 : decode cX2_eliminate 73 = .ok (.iload 10, 2) := by decide +kernel
theorem dX2_eliminate_75 : decode cX2_eliminate 75 = .ok (.invokevirtual 41, 3) := by decide +kernel
theorem dX2_eliminate_78 : decode cX2_eliminate 78 = .ok (.lmul, 1) := by decide +kernel
theorem dX2_eliminate_79 : decode cX2_eliminate 79 = .ok (.lsub, 1) := by decide +kernel
theorem dX2_eliminate_80 : decode cX2_eliminate 80 = .ok (.lstore 11, 2) := by decide +kernel
theorem dX2_eliminate_82 : decode cX2_eliminate 82 = .ok (.aload_n 0, 1) := by decide +kernel
theorem dX2_eliminate_83 : decode cX2_eliminate 83 = .ok (.iload 7, 2) := by decide +kernel
theorem dX2_eliminate_85 : decode cX2_eliminate 85 = .ok (.iload 10, 2) := by decide +kernel
theorem dX2_eliminate_87 : decode cX2_eliminate 87 = .ok (.lload_n 2, 1) := by decide +kernel
theorem dX2_eliminate_88 : decode cX2_eliminate 88 = .ok (.lconst 0, 1) := by decide +kernel
theorem dX2_eliminate_89 : decode cX2_eliminate 89 = .ok (.lcmp, 1) := by decide +kernel
theorem dX2_eliminate_90 : decode cX2_eliminate 90 = .ok (.ifCond .ne 7, 3) := by decide +kernel
theorem dX2_eliminate_93 : decode cX2_eliminate 93 = .ok (.lconst 0, 1) := by decide +kernel
theorem dX2_eliminate_94 : decode cX2_eliminate 94 = .ok (.goto 7, 3) := by decide +kernel
theorem dX2_eliminate_97 : decode cX2_eliminate 97 = .ok (.lload 11, 2) := by decide +kernel
theorem dX2_eliminate_99 : decode cX2_eliminate 99 = .ok (.lload_n 2, 1) := by decide +kernel
theorem dX2_eliminate_100 : decode cX2_eliminate 100 = .ok (.ldiv, 1) := by decide +kernel
theorem dX2_eliminate_101 : decode cX2_eliminate 101 = .ok (.invokevirtual 83, 3) := by decide +kernel
theorem dX2_eliminate_104 : decode cX2_eliminate 104 = .ok (.iinc 10 1, 3) := by decide +kernel
theorem dX2_eliminate_107 : decode cX2_eliminate 107 = .ok (.goto (-56), 3) := by decide +kernel
theorem dX2_eliminate_110 : decode cX2_eliminate 110 = .ok (.iinc 7 1, 3) := by decide +kernel
theorem dX2_eliminate_113 : decode cX2_eliminate 113 = .ok (.goto (-84), 3) := by decide +kernel
theorem dX2_eliminate_116 : decode cX2_eliminate 116 = .ok (.lload 5, 2) := by decide +kernel
theorem dX2_eliminate_118 : decode cX2_eliminate 118 = .ok (.lstore_n 2, 1) := by decide +kernel
theorem dX2_eliminate_119 : decode cX2_eliminate 119 = .ok (.iinc 4 1, 3) := by decide +kernel
theorem dX2_eliminate_122 : decode cX2_eliminate 122 = .ok (.goto (-117), 3) := by decide +kernel
theorem dX2_eliminate_125 : decode cX2_eliminate 125 = .ok (.return_, 1) := by decide +kernel
theorem dX2_cellAt_0 : decode cX2_cellAt 0 = .ok (.iload_n 1, 1) := by decide +kernel
theorem dX2_cellAt_1 : decode cX2_cellAt 1 = .ok (.bipush 6, 2) := by decide +kernel
theorem dX2_cellAt_3 : decode cX2_cellAt 3 = .ok (.imul, 1) := by decide +kernel
theorem dX2_cellAt_4 : decode cX2_cellAt 4 = .ok (.iload_n 2, 1) := by decide +kernel
theorem dX2_cellAt_5 : decode cX2_cellAt 5 = .ok (.iadd, 1) := by decide +kernel
theorem dX2_cellAt_6 : decode cX2_cellAt 6 = .ok (.istore_n 3, 1) := by decide +kernel
theorem dX2_cellAt_7 : decode cX2_cellAt 7 = .ok (.iload_n 3, 1) := by decide +kernel
theorem dX2_cellAt_8 : decode cX2_cellAt 8 = .ok (.ifCond .lt 21, 3) := by decide +kernel
theorem dX2_cellAt_11 : decode cX2_cellAt 11 = .ok (.iload_n 3, 1) := by decide +kernel
theorem dX2_cellAt_12 : decode cX2_cellAt 12 = .ok (.aload_n 0, 1) := by decide +kernel
theorem dX2_cellAt_13 : decode cX2_cellAt 13 = .ok (.getfield 11, 3) := by decide +kernel
theorem dX2_cellAt_16 : decode cX2_cellAt 16 = .ok (.arraylength, 1) := by decide +kernel
theorem dX2_cellAt_17 : decode cX2_cellAt 17 = .ok (.if_icmp .ge 12, 3) := by decide +kernel
theorem dX2_cellAt_20 : decode cX2_cellAt 20 = .ok (.aload_n 0, 1) := by decide +kernel
theorem dX2_cellAt_21 : decode cX2_cellAt 21 = .ok (.getfield 11, 3) := by decide +kernel
theorem dX2_cellAt_24 : decode cX2_cellAt 24 = .ok (.iload_n 3, 1) := by decide +kernel
theorem dX2_cellAt_25 : decode cX2_cellAt 25 = .ok (.laload, 1) := by decide +kernel
theorem dX2_cellAt_26 : decode cX2_cellAt 26 = .ok (.goto 4, 3) := by decide +kernel
theorem dX2_cellAt_29 : decode cX2_cellAt 29 = .ok (.lconst 0, 1) := by decide +kernel
theorem dX2_cellAt_30 : decode cX2_cellAt 30 = .ok (.lreturn, 1) := by decide +kernel
theorem dX2_setCell_0 : decode cX2_setCell 0 = .ok (.iload_n 1, 1) := by decide +kernel
theorem dX2_setCell_1 : decode cX2_setCell 1 = .ok (.bipush 6, 2) := by decide +kernel
theorem dX2_setCell_3 : decode cX2_setCell 3 = .ok (.imul, 1) := by decide +kernel
theorem dX2_setCell_4 : decode cX2_setCell 4 = .ok (.iload_n 2, 1) := by decide +kernel
theorem dX2_setCell_5 : decode cX2_setCell 5 = .ok (.iadd, 1) := by decide +kernel
theorem dX2_setCell_6 : decode cX2_setCell 6 = .ok (.istore 5, 2) := by decide +kernel
theorem dX2_setCell_8 : decode cX2_setCell 8 = .ok (.iload 5, 2) := by decide +kernel
theorem dX2_setCell_10 : decode cX2_setCell 10 = .ok (.ifCond .lt 21, 3) := by decide +kernel
theorem dX2_setCell_13 : decode cX2_setCell 13 = .ok (.iload 5, 2) := by decide +kernel
theorem dX2_setCell_15 : decode cX2_setCell 15 = .ok (.aload_n 0, 1) := by decide +kernel
theorem dX2_setCell_16 : decode cX2_setCell 16 = .ok (.getfield 11, 3) := by decide +kernel
theorem dX2_setCell_19 : decode cX2_setCell 19 = .ok (.arraylength, 1) := by decide +kernel
theorem dX2_setCell_20 : decode cX2_setCell 20 = .ok (.if_icmp .ge 11, 3) := by decide +kernel
theorem dX2_setCell_23 : decode cX2_setCell 23 = .ok (.aload_n 0, 1) := by decide +kernel
theorem dX2_setCell_24 : decode cX2_setCell 24 = .ok (.getfield 11, 3) := by decide +kernel
theorem dX2_setCell_27 : decode cX2_setCell 27 = .ok (.iload 5, 2) := by decide +kernel
theorem dX2_setCell_29 : decode cX2_setCell 29 = .ok (.lload_n 3, 1) := by decide +kernel
theorem dX2_setCell_30 : decode cX2_setCell 30 = .ok (.lastore, 1) := by decide +kernel
theorem dX2_setCell_31 : decode cX2_setCell 31 = .ok (.return_, 1) := by decide +kernel
theorem dX3_init_0 : decode cX3_init 0 = .ok (.aload_n 0, 1) := by decide +kernel
theorem dX3_init_1 : decode cX3_init 1 = .ok (.invokespecial 3, 3) := by decide +kernel
theorem dX3_init_4 : decode cX3_init 4 = .ok (.aload_n 0, 1) := by decide +kernel
theorem dX3_init_5 : decode cX3_init 5 = .ok (.iconst 0, 1) := by decide +kernel
theorem dX3_init_6 : decode cX3_init 6 = .ok (.putfield 9, 3) := by decide +kernel
theorem dX3_init_9 : decode cX3_init 9 = .ok (.aload_n 0, 1) := by decide +kernel
theorem dX3_init_10 : decode cX3_init 10 = .ok (.iload_n 1, 1) := by decide +kernel
theorem dX3_init_11 : decode cX3_init 11 = .ok (.putfield 15, 3) := by decide +kernel
theorem dX3_init_14 : decode cX3_init 14 = .ok (.aload_n 0, 1) := by decide +kernel
theorem dX3_init_15 : decode cX3_init 15 = .ok (.iconst 0, 1) := by decide +kernel
theorem dX3_init_16 : decode cX3_init 16 = .ok (.bipush 24, 2) := by decide +kernel
theorem dX3_init_18 : decode cX3_init 18 = .ok (.iload_n 2, 1) := by decide +kernel
theorem dX3_init_19 : decode cX3_init 19 = .ok (.invokestatic 19, 3) := by decide +kernel
theorem dX3_init_22 : decode cX3_init 22 = .ok (.invokestatic 25, 3) := by decide +kernel
theorem dX3_init_25 : decode cX3_init 25 = .ok (.newarray .long, 2) := by decide +kernel
theorem dX3_init_27 : decode cX3_init 27 = .ok (.putfield 28, 3) := by decide +kernel
theorem dX3_init_30 : decode cX3_init 30 = .ok (.return_, 1) := by decide +kernel
theorem dX3_hasPlaces_0 : decode cX3_hasPlaces 0 = .ok (.iload_n 1, 1) := by decide +kernel
theorem dX3_hasPlaces_1 : decode cX3_hasPlaces 1 = .ok (.ifCond .lt 31, 3) := by decide +kernel
theorem dX3_hasPlaces_4 : decode cX3_hasPlaces 4 = .ok (.iload_n 2, 1) := by decide +kernel
theorem dX3_hasPlaces_5 : decode cX3_hasPlaces 5 = .ok (.ifCond .lt 27, 3) := by decide +kernel
theorem dX3_hasPlaces_8 : decode cX3_hasPlaces 8 = .ok (.iload_n 2, 1) := by decide +kernel
theorem dX3_hasPlaces_9 : decode cX3_hasPlaces 9 = .ok (.aload_n 0, 1) := by decide +kernel
theorem dX3_hasPlaces_10 : decode cX3_hasPlaces 10 = .ok (.getfield 28, 3) := by decide +kernel
theorem dX3_hasPlaces_13 : decode cX3_hasPlaces 13 = .ok (.arraylength, 1) := by decide +kernel
theorem dX3_hasPlaces_14 : decode cX3_hasPlaces 14 = .ok (.if_icmp .gt 18, 3) := by decide +kernel
theorem dX3_hasPlaces_17 : decode cX3_hasPlaces 17 = .ok (.iload_n 1, 1) := by decide +kernel
theorem dX3_hasPlaces_18 : decode cX3_hasPlaces 18 = .ok (.aload_n 0, 1) := by decide +kernel
theorem dX3_hasPlaces_19 : decode cX3_hasPlaces 19 = .ok (.getfield 28, 3) := by decide +kernel
theorem dX3_hasPlaces_22 : decode cX3_hasPlaces 22 = .ok (.arraylength, 1) := by decide +kernel
theorem dX3_hasPlaces_23 : decode cX3_hasPlaces 23 = .ok (.iload_n 2, 1) := by decide +kernel
theorem dX3_hasPlaces_24 : decode cX3_hasPlaces 24 = .ok (.isub, 1) := by decide +kernel
theorem dX3_hasPlaces_25 : decode cX3_hasPlaces 25 = .ok (.if_icmp .gt 7, 3) := by decide +kernel
theorem dX3_hasPlaces_28 : decode cX3_hasPlaces 28 = .ok (.iconst 1, 1) := by decide +kernel
theorem dX3_hasPlaces_29 : decode cX3_hasPlaces 29 = .ok (.goto 4, 3) := by decide +kernel
theorem dX3_hasPlaces_32 : decode cX3_hasPlaces 32 = .ok (.iconst 0, 1) := by decide +kernel
theorem dX3_hasPlaces_33 : decode cX3_hasPlaces 33 = .ok (.ireturn, 1) := by decide +kernel
theorem dX3_placeAt_0 : decode cX3_placeAt 0 = .ok (.iload_n 1, 1) := by decide +kernel
theorem dX3_placeAt_1 : decode cX3_placeAt 1 = .ok (.ifCond .lt 21, 3) := by decide +kernel
theorem dX3_placeAt_4 : decode cX3_placeAt 4 = .ok (.iload_n 1, 1) := by decide +kernel
theorem dX3_placeAt_5 : decode cX3_placeAt 5 = .ok (.aload_n 0, 1) := by decide +kernel
theorem dX3_placeAt_6 : decode cX3_placeAt 6 = .ok (.getfield 28, 3) := by decide +kernel
theorem dX3_placeAt_9 : decode cX3_placeAt 9 = .ok (.arraylength, 1) := by decide +kernel
theorem dX3_placeAt_10 : decode cX3_placeAt 10 = .ok (.if_icmp .ge 12, 3) := by decide +kernel
theorem dX3_placeAt_13 : decode cX3_placeAt 13 = .ok (.aload_n 0, 1) := by decide +kernel
theorem dX3_placeAt_14 : decode cX3_placeAt 14 = .ok (.getfield 28, 3) := by decide +kernel
theorem dX3_placeAt_17 : decode cX3_placeAt 17 = .ok (.iload_n 1, 1) := by decide +kernel
theorem dX3_placeAt_18 : decode cX3_placeAt 18 = .ok (.laload, 1) := by decide +kernel
theorem dX3_placeAt_19 : decode cX3_placeAt 19 = .ok (.goto 4, 3) := by decide +kernel
theorem dX3_placeAt_22 : decode cX3_placeAt 22 = .ok (.lconst 0, 1) := by decide +kernel
theorem dX3_placeAt_23 : decode cX3_placeAt 23 = .ok (.lreturn, 1) := by decide +kernel
theorem dX3_put_0 : decode cX3_put 0 = .ok (.iload_n 1, 1) := by decide +kernel
theorem dX3_put_1 : decode cX3_put 1 = .ok (.ifCond .lt 23, 3) := by decide +kernel
theorem dX3_put_4 : decode cX3_put 4 = .ok (.iload_n 1, 1) := by decide +kernel
theorem dX3_put_5 : decode cX3_put 5 = .ok (.aload_n 0, 1) := by decide +kernel
theorem dX3_put_6 : decode cX3_put 6 = .ok (.getfield 28, 3) := by decide +kernel
theorem dX3_put_9 : decode cX3_put 9 = .ok (.arraylength, 1) := by decide +kernel
theorem dX3_put_10 : decode cX3_put 10 = .ok (.if_icmp .ge 14, 3) := by decide +kernel
theorem dX3_put_13 : decode cX3_put 13 = .ok (.aload_n 0, 1) := by decide +kernel
theorem dX3_put_14 : decode cX3_put 14 = .ok (.getfield 28, 3) := by decide +kernel
theorem dX3_put_17 : decode cX3_put 17 = .ok (.iload_n 1, 1) := by decide +kernel
theorem dX3_put_18 : decode cX3_put 18 = .ok (.aload_n 0, 1) := by decide +kernel
theorem dX3_put_19 : decode cX3_put 19 = .ok (.lload_n 2, 1) := by decide +kernel
theorem dX3_put_20 : decode cX3_put 20 = .ok (.invokevirtual 32, 3) := by decide +kernel
theorem dX3_put_23 : decode cX3_put 23 = .ok (.lastore, 1) := by decide +kernel
theorem dX3_put_24 : decode cX3_put 24 = .ok (.return_, 1) := by decide +kernel
theorem dX3_cut_0 : decode cX3_cut 0 = .ok (.aload_n 0, 1) := by decide +kernel
theorem dX3_cut_1 : decode cX3_cut 1 = .ok (.getfield 15, 3) := by decide +kernel
theorem dX3_cut_4 : decode cX3_cut 4 = .ok (.tableswitch 42 0 2 #[28, 33, 38], 28) := by decide +kernel
theorem dX3_cut_32 : decode cX3_cut 32 = .ok (.lload_n 1, 1) := by decide +kernel
theorem dX3_cut_33 : decode cX3_cut 33 = .ok (.l2i, 1) := by decide +kernel
theorem dX3_cut_34 : decode cX3_cut 34 = .ok (.i2b, 1) := by decide +kernel
theorem dX3_cut_35 : decode cX3_cut 35 = .ok (.i2l, 1) := by decide +kernel
theorem dX3_cut_36 : decode cX3_cut 36 = .ok (.lreturn, 1) := by decide +kernel
theorem dX3_cut_37 : decode cX3_cut 37 = .ok (.lload_n 1, 1) := by decide +kernel
theorem dX3_cut_38 : decode cX3_cut 38 = .ok (.l2i, 1) := by decide +kernel
theorem dX3_cut_39 : decode cX3_cut 39 = .ok (.i2s, 1) := by decide +kernel
theorem dX3_cut_40 : decode cX3_cut 40 = .ok (.i2l, 1) := by decide +kernel
theorem dX3_cut_41 : decode cX3_cut 41 = .ok (.lreturn, 1) := by decide +kernel
theorem dX3_cut_42 : decode cX3_cut 42 = .ok (.lload_n 1, 1) := by decide +kernel
theorem dX3_cut_43 : decode cX3_cut 43 = .ok (.l2i, 1) := by decide +kernel
theorem dX3_cut_44 : decode cX3_cut 44 = .ok (.i2l, 1) := by decide +kernel
theorem dX3_cut_45 : decode cX3_cut 45 = .ok (.lreturn, 1) := by decide +kernel
theorem dX3_cut_46 : decode cX3_cut 46 = .ok (.lload_n 1, 1) := by decide +kernel
theorem dX3_cut_47 : decode cX3_cut 47 = .ok (.lreturn, 1) := by decide +kernel
theorem dJ9_floorDiv_f86c9_0 : decode cJ9_floorDiv_f86c9 0 = .ok (.lload_n 0, 1) := by decide +kernel
theorem dJ9_floorDiv_f86c9_1 : decode cJ9_floorDiv_f86c9 1 = .ok (.lload_n 2, 1) := by decide +kernel
theorem dJ9_floorDiv_f86c9_2 : decode cJ9_floorDiv_f86c9 2 = .ok (.ldiv, 1) := by decide +kernel
theorem dJ9_floorDiv_f86c9_3 : decode cJ9_floorDiv_f86c9 3 = .ok (.lstore 4, 2) := by decide +kernel
theorem dJ9_floorDiv_f86c9_5 : decode cJ9_floorDiv_f86c9 5 = .ok (.lload_n 0, 1) := by decide +kernel
theorem dJ9_floorDiv_f86c9_6 : decode cJ9_floorDiv_f86c9 6 = .ok (.lload_n 2, 1) := by decide +kernel
theorem dJ9_floorDiv_f86c9_7 : decode cJ9_floorDiv_f86c9 7 = .ok (.lxor, 1) := by decide +kernel
theorem dJ9_floorDiv_f86c9_8 : decode cJ9_floorDiv_f86c9 8 = .ok (.lconst 0, 1) := by decide +kernel
theorem dJ9_floorDiv_f86c9_9 : decode cJ9_floorDiv_f86c9 9 = .ok (.lcmp, 1) := by decide +kernel
theorem dJ9_floorDiv_f86c9_10 : decode cJ9_floorDiv_f86c9 10 = .ok (.ifCond .ge 17, 3) := by decide +kernel
theorem dJ9_floorDiv_f86c9_13 : decode cJ9_floorDiv_f86c9 13 = .ok (.lload 4, 2) := by decide +kernel
theorem dJ9_floorDiv_f86c9_15 : decode cJ9_floorDiv_f86c9 15 = .ok (.lload_n 2, 1) := by decide +kernel
theorem dJ9_floorDiv_f86c9_16 : decode cJ9_floorDiv_f86c9 16 = .ok (.lmul, 1) := by decide +kernel
theorem dJ9_floorDiv_f86c9_17 : decode cJ9_floorDiv_f86c9 17 = .ok (.lload_n 0, 1) := by decide +kernel
theorem dJ9_floorDiv_f86c9_18 : decode cJ9_floorDiv_f86c9 18 = .ok (.lcmp, 1) := by decide +kernel
theorem dJ9_floorDiv_f86c9_19 : decode cJ9_floorDiv_f86c9 19 = .ok (.ifCond .eq 8, 3) := by decide +kernel
theorem dJ9_floorDiv_f86c9_22 : decode cJ9_floorDiv_f86c9 22 = .ok (.lload 4, 2) := by decide +kernel
theorem dJ9_floorDiv_f86c9_24 : decode cJ9_floorDiv_f86c9 24 = .ok (.lconst 1, 1) := by decide +kernel
theorem dJ9_floorDiv_f86c9_25 : decode cJ9_floorDiv_f86c9 25 = .ok (.lsub, 1) := by decide +kernel
theorem dJ9_floorDiv_f86c9_26 : decode cJ9_floorDiv_f86c9 26 = .ok (.lreturn, 1) := by decide +kernel
theorem dJ9_floorDiv_f86c9_27 : decode cJ9_floorDiv_f86c9 27 = .ok (.lload 4, 2) := by decide +kernel
theorem dJ9_floorDiv_f86c9_29 : decode cJ9_floorDiv_f86c9 29 = .ok (.lreturn, 1) := by decide +kernel
theorem dJ9_abs_067f4_0 : decode cJ9_abs_067f4 0 = .ok (.lload_n 0, 1) := by decide +kernel
theorem dJ9_abs_067f4_1 : decode cJ9_abs_067f4 1 = .ok (.lconst 0, 1) := by decide +kernel
theorem dJ9_abs_067f4_2 : decode cJ9_abs_067f4 2 = .ok (.lcmp, 1) := by decide +kernel
theorem dJ9_abs_067f4_3 : decode cJ9_abs_067f4 3 = .ok (.ifCond .ge 8, 3) := by decide +kernel
theorem dJ9_abs_067f4_6 : decode cJ9_abs_067f4 6 = .ok (.lload_n 0, 1) := by decide +kernel
theorem dJ9_abs_067f4_7 : decode cJ9_abs_067f4 7 = .ok (.lneg, 1) := by decide +kernel
theorem dJ9_abs_067f4_8 : decode cJ9_abs_067f4 8 = .ok (.goto 4, 3) := by decide +kernel
theorem dJ9_abs_067f4_11 : decode cJ9_abs_067f4 11 = .ok (.lload_n 0, 1) := by decide +kernel
theorem dJ9_abs_067f4_12 : decode cJ9_abs_067f4 12 = .ok (.lreturn, 1) := by decide +kernel
theorem dJ9_max_7cf53_0 : decode cJ9_max_7cf53 0 = .ok (.iload_n 0, 1) := by decide +kernel
theorem dJ9_max_7cf53_1 : decode cJ9_max_7cf53 1 = .ok (.iload_n 1, 1) := by decide +kernel
theorem dJ9_max_7cf53_2 : decode cJ9_max_7cf53 2 = .ok (.if_icmp .lt 7, 3) := by decide +kernel
theorem dJ9_max_7cf53_5 : decode cJ9_max_7cf53 5 = .ok (.iload_n 0, 1) := by decide +kernel
theorem dJ9_max_7cf53_6 : decode cJ9_max_7cf53 6 = .ok (.goto 4, 3) := by decide +kernel
theorem dJ9_max_7cf53_9 : decode cJ9_max_7cf53 9 = .ok (.iload_n 1, 1) := by decide +kernel
theorem dJ9_max_7cf53_10 : decode cJ9_max_7cf53 10 = .ok (.ireturn, 1) := by decide +kernel
theorem dJ9_min_7cf53_0 : decode cJ9_min_7cf53 0 = .ok (.iload_n 0, 1) := by decide +kernel
theorem dJ9_min_7cf53_1 : decode cJ9_min_7cf53 1 = .ok (.iload_n 1, 1) := by decide +kernel
theorem dJ9_min_7cf53_2 : decode cJ9_min_7cf53 2 = .ok (.if_icmp .gt 7, 3) := by decide +kernel
theorem dJ9_min_7cf53_5 : decode cJ9_min_7cf53 5 = .ok (.iload_n 0, 1) := by decide +kernel
theorem dJ9_min_7cf53_6 : decode cJ9_min_7cf53 6 = .ok (.goto 4, 3) := by decide +kernel
theorem dJ9_min_7cf53_9 : decode cJ9_min_7cf53 9 = .ok (.iload_n 1, 1) := by decide +kernel
theorem dJ9_min_7cf53_10 : decode cJ9_min_7cf53 10 = .ok (.ireturn, 1) := by decide +kernel
