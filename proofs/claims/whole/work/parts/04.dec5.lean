theorem dX5_init_0 : decode cX5_init 0 = .ok (.aload_n 0, 1) := by decide +kernel
theorem dX5_init_1 : decode cX5_init 1 = .ok (.invokespecial 1, 3) := by decide +kernel
theorem dX5_init_4 : decode cX5_init 4 = .ok (.aload_n 0, 1) := by decide +kernel
theorem dX5_init_5 : decode cX5_init 5 = .ok (.bipush 7, 2) := by decide +kernel
theorem dX5_init_7 : decode cX5_init 7 = .ok (.newarray .int, 2) := by decide +kernel
theorem dX5_init_9 : decode cX5_init 9 = .ok (.putfield 7, 3) := by decide +kernel
theorem dX5_init_12 : decode cX5_init 12 = .ok (.aload_n 0, 1) := by decide +kernel
theorem dX5_init_13 : decode cX5_init 13 = .ok (.bipush 12, 2) := by decide +kernel
theorem dX5_init_15 : decode cX5_init 15 = .ok (.newarray .int, 2) := by decide +kernel
theorem dX5_init_17 : decode cX5_init 17 = .ok (.putfield 13, 3) := by decide +kernel
theorem dX5_init_20 : decode cX5_init 20 = .ok (.aload_n 0, 1) := by decide +kernel
theorem dX5_init_21 : decode cX5_init 21 = .ok (.bipush 12, 2) := by decide +kernel
theorem dX5_init_23 : decode cX5_init 23 = .ok (.newarray .int, 2) := by decide +kernel
theorem dX5_init_25 : decode cX5_init 25 = .ok (.putfield 16, 3) := by decide +kernel
theorem dX5_init_28 : decode cX5_init 28 = .ok (.aload_n 0, 1) := by decide +kernel
theorem dX5_init_29 : decode cX5_init 29 = .ok (.sipush 288, 3) := by decide +kernel
theorem dX5_init_32 : decode cX5_init 32 = .ok (.newarray .long, 2) := by decide +kernel
theorem dX5_init_34 : decode cX5_init 34 = .ok (.putfield 19, 3) := by decide +kernel
theorem dX5_init_37 : decode cX5_init 37 = .ok (.aload_n 0, 1) := by decide +kernel
theorem dX5_init_38 : decode cX5_init 38 = .ok (.bipush 24, 2) := by decide +kernel
theorem dX5_init_40 : decode cX5_init 40 = .ok (.newarray .long, 2) := by decide +kernel
theorem dX5_init_42 : decode cX5_init 42 = .ok (.putfield 23, 3) := by decide +kernel
theorem dX5_init_45 : decode cX5_init 45 = .ok (.aload_n 0, 1) := by decide +kernel
theorem dX5_init_46 : decode cX5_init 46 = .ok (.bipush 16, 2) := by decide +kernel
theorem dX5_init_48 : decode cX5_init 48 = .ok (.newarray .int, 2) := by decide +kernel
theorem dX5_init_50 : decode cX5_init 50 = .ok (.putfield 26, 3) := by decide +kernel
theorem dX5_init_53 : decode cX5_init 53 = .ok (.aload_n 0, 1) := by decide +kernel
theorem dX5_init_54 : decode cX5_init 54 = .ok (.bipush 16, 2) := by decide +kernel
theorem dX5_init_56 : decode cX5_init 56 = .ok (.newarray .int, 2) := by decide +kernel
theorem dX5_init_58 : decode cX5_init 58 = .ok (.putfield 29, 3) := by decide +kernel
theorem dX5_init_61 : decode cX5_init 61 = .ok (.aload_n 0, 1) := by decide +kernel
theorem dX5_init_62 : decode cX5_init 62 = .ok (.bipush 16, 2) := by decide +kernel
theorem dX5_init_64 : decode cX5_init 64 = .ok (.newarray .int, 2) := by decide +kernel
theorem dX5_init_66 : decode cX5_init 66 = .ok (.putfield 32, 3) := by decide +kernel
theorem dX5_init_69 : decode cX5_init 69 = .ok (.aload_n 0, 1) := by decide +kernel
theorem dX5_init_70 : decode cX5_init 70 = .ok (.bipush 80, 2) := by decide +kernel
theorem dX5_init_72 : decode cX5_init 72 = .ok (.newarray .int, 2) := by decide +kernel
theorem dX5_init_74 : decode cX5_init 74 = .ok (.putfield 35, 3) := by decide +kernel
theorem dX5_init_77 : decode cX5_init 77 = .ok (.aload_n 0, 1) := by decide +kernel
theorem dX5_init_78 : decode cX5_init 78 = .ok (.sipush 400, 3) := by decide +kernel
theorem dX5_init_81 : decode cX5_init 81 = .ok (.newarray .int, 2) := by decide +kernel
theorem dX5_init_83 : decode cX5_init 83 = .ok (.putfield 38, 3) := by decide +kernel
theorem dX5_init_86 : decode cX5_init 86 = .ok (.aload_n 0, 1) := by decide +kernel
theorem dX5_init_87 : decode cX5_init 87 = .ok (.bipush 16, 2) := by decide +kernel
theorem dX5_init_89 : decode cX5_init 89 = .ok (.newarray .int, 2) := by decide +kernel
theorem dX5_init_91 : decode cX5_init 91 = .ok (.putfield 41, 3) := by decide +kernel
theorem dX5_init_94 : decode cX5_init 94 = .ok (.aload_n 0, 1) := by decide +kernel
theorem dX5_init_95 : decode cX5_init 95 = .ok (.bipush 25, 2) := by decide +kernel
theorem dX5_init_97 : decode cX5_init 97 = .ok (.newarray .long, 2) := by decide +kernel
theorem dX5_init_99 : decode cX5_init 99 = .ok (.putfield 44, 3) := by decide +kernel
theorem dX5_init_102 : decode cX5_init 102 = .ok (.aload_n 0, 1) := by decide +kernel
theorem dX5_init_103 : decode cX5_init 103 = .ok (.bipush 32, 2) := by decide +kernel
theorem dX5_init_105 : decode cX5_init 105 = .ok (.newarray .long, 2) := by decide +kernel
theorem dX5_init_107 : decode cX5_init 107 = .ok (.putfield 47, 3) := by decide +kernel
theorem dX5_init_110 : decode cX5_init 110 = .ok (.aload_n 0, 1) := by decide +kernel
theorem dX5_init_111 : decode cX5_init 111 = .ok (.iconst 5, 1) := by decide +kernel
theorem dX5_init_112 : decode cX5_init 112 = .ok (.newarray .long, 2) := by decide +kernel
theorem dX5_init_114 : decode cX5_init 114 = .ok (.putfield 50, 3) := by decide +kernel
theorem dX5_init_117 : decode cX5_init 117 = .ok (.aload_n 0, 1) := by decide +kernel
theorem dX5_init_118 : decode cX5_init 118 = .ok (.iconst 5, 1) := by decide +kernel
theorem dX5_init_119 : decode cX5_init 119 = .ok (.newarray .long, 2) := by decide +kernel
theorem dX5_init_121 : decode cX5_init 121 = .ok (.putfield 53, 3) := by decide +kernel
theorem dX5_init_124 : decode cX5_init 124 = .ok (.aload_n 0, 1) := by decide +kernel
theorem dX5_init_125 : decode cX5_init 125 = .ok (.iconst 5, 1) := by decide +kernel
theorem dX5_init_126 : decode cX5_init 126 = .ok (.newarray .int, 2) := by decide +kernel
theorem dX5_init_128 : decode cX5_init 128 = .ok (.putfield 56, 3) := by decide +kernel
theorem dX5_init_131 : decode cX5_init 131 = .ok (.aload_n 0, 1) := by decide +kernel
theorem dX5_init_132 : decode cX5_init 132 = .ok (.sipush 200, 3) := by decide +kernel
theorem dX5_init_135 : decode cX5_init 135 = .ok (.newarray .int, 2) := by decide +kernel
theorem dX5_init_137 : decode cX5_init 137 = .ok (.putfield 59, 3) := by decide +kernel
theorem dX5_init_140 : decode cX5_init 140 = .ok (.aload_n 0, 1) := by decide +kernel
theorem dX5_init_141 : decode cX5_init 141 = .ok (.iconst 1, 1) := by decide +kernel
theorem dX5_init_142 : decode cX5_init 142 = .ok (.putfield 62, 3) := by decide +kernel
theorem dX5_init_145 : decode cX5_init 145 = .ok (.aload_n 0, 1) := by decide +kernel
theorem dX5_init_146 : decode cX5_init 146 = .ok (.iconst 2, 1) := by decide +kernel
theorem dX5_init_147 : decode cX5_init 147 = .ok (.putfield 66, 3) := by decide +kernel
theorem dX5_init_150 : decode cX5_init 150 = .ok (.aload_n 0, 1) := by decide +kernel
theorem dX5_init_151 : decode cX5_init 151 = .ok (.iconst 1, 1) := by decide +kernel
theorem dX5_init_152 : decode cX5_init 152 = .ok (.putfield 69, 3) := by decide +kernel
theorem dX5_init_155 : decode cX5_init 155 = .ok (.aload_n 0, 1) := by decide +kernel
theorem dX5_init_156 : decode cX5_init 156 = .ok (.lconst 1, 1) := by decide +kernel
theorem dX5_init_157 : decode cX5_init 157 = .ok (.putfield 72, 3) := by decide +kernel
theorem dX5_init_160 : decode cX5_init 160 = .ok (.return_, 1) := by decide +kernel
theorem dX5_in_0 : decode cX5_in 0 = .ok (.lload_n 0, 1) := by decide +kernel
theorem dX5_in_1 : decode cX5_in 1 = .ok (.lload_n 2, 1) := by decide +kernel
theorem dX5_in_2 : decode cX5_in 2 = .ok (.lcmp, 1) := by decide +kernel
theorem dX5_in_3 : decode cX5_in 3 = .ok (.ifCond .lt 14, 3) := by decide +kernel
theorem dX5_in_6 : decode cX5_in 6 = .ok (.lload_n 0, 1) := by decide +kernel
theorem dX5_in_7 : decode cX5_in 7 = .ok (.lload 4, 2) := by decide +kernel
theorem dX5_in_9 : decode cX5_in 9 = .ok (.lcmp, 1) := by decide +kernel
theorem dX5_in_10 : decode cX5_in 10 = .ok (.ifCond .gt 7, 3) := by decide +kernel
theorem dX5_in_13 : decode cX5_in 13 = .ok (.iconst 1, 1) := by decide +kernel
theorem dX5_in_14 : decode cX5_in 14 = .ok (.goto 4, 3) := by decide +kernel
theorem dX5_in_17 : decode cX5_in 17 = .ok (.iconst 0, 1) := by decide +kernel
theorem dX5_in_18 : decode cX5_in 18 = .ok (.ireturn, 1) := by decide +kernel
theorem dX5_meets_0 : decode cX5_meets 0 = .ok (.aload_n 0, 1) := by decide +kernel
theorem dX5_meets_1 : decode cX5_meets 1 = .ok (.iload_n 1, 1) := by decide +kernel
theorem dX5_meets_2 : decode cX5_meets 2 = .ok (.putfield 76, 3) := by decide +kernel
theorem dX5_meets_5 : decode cX5_meets 5 = .ok (.aload_n 0, 1) := by decide +kernel
theorem dX5_meets_6 : decode cX5_meets 6 = .ok (.getfield 7, 3) := by decide +kernel
theorem dX5_meets_9 : decode cX5_meets 9 = .ok (.iload_n 1, 1) := by decide +kernel
theorem dX5_meets_10 : decode cX5_meets 10 = .ok (.dup2, 1) := by decide +kernel
theorem dX5_meets_11 : decode cX5_meets 11 = .ok (.iaload, 1) := by decide +kernel
theorem dX5_meets_12 : decode cX5_meets 12 = .ok (.iconst 1, 1) := by decide +kernel
theorem dX5_meets_13 : decode cX5_meets 13 = .ok (.iadd, 1) := by decide +kernel
theorem dX5_meets_14 : decode cX5_meets 14 = .ok (.iastore, 1) := by decide +kernel
theorem dX5_meets_15 : decode cX5_meets 15 = .ok (.bipush (-3), 2) := by decide +kernel
theorem dX5_meets_17 : decode cX5_meets 17 = .ok (.ireturn, 1) := by decide +kernel
theorem dX5_finding_0 : decode cX5_finding 0 = .ok (.aload_n 0, 1) := by decide +kernel
theorem dX5_finding_1 : decode cX5_finding 1 = .ok (.getfield 76, 3) := by decide +kernel
theorem dX5_finding_4 : decode cX5_finding 4 = .ok (.ireturn, 1) := by decide +kernel
theorem dX5_findings_0 : decode cX5_findings 0 = .ok (.iload_n 1, 1) := by decide +kernel
theorem dX5_findings_1 : decode cX5_findings 1 = .ok (.i2l, 1) := by decide +kernel
theorem dX5_findings_2 : decode cX5_findings 2 = .ok (.lconst 1, 1) := by decide +kernel
theorem dX5_findings_3 : decode cX5_findings 3 = .ok (.ldc2_w 79, 3) := by decide +kernel
theorem dX5_findings_6 : decode cX5_findings 6 = .ok (.invokestatic 81, 3) := by decide +kernel
theorem dX5_findings_9 : decode cX5_findings 9 = .ok (.ifCond .eq 12, 3) := by decide +kernel
theorem dX5_findings_12 : decode cX5_findings 12 = .ok (.aload_n 0, 1) := by decide +kernel
theorem dX5_findings_13 : decode cX5_findings 13 = .ok (.getfield 7, 3) := by decide +kernel
theorem dX5_findings_16 : decode cX5_findings 16 = .ok (.iload_n 1, 1) := by decide +kernel
theorem dX5_findings_17 : decode cX5_findings 17 = .ok (.iaload, 1) := by decide +kernel
theorem dX5_findings_18 : decode cX5_findings 18 = .ok (.goto 4, 3) := by decide +kernel
theorem dX5_findings_21 : decode cX5_findings 21 = .ok (.iconst (-1), 1) := by decide +kernel
theorem dX5_findings_22 : decode cX5_findings 22 = .ok (.ireturn, 1) := by decide +kernel
theorem dX5_share_0 : decode cX5_share 0 = .ok (.iload_n 1, 1) := by decide +kernel
theorem dX5_share_1 : decode cX5_share 1 = .ok (.i2l, 1) := by decide +kernel
theorem dX5_share_2 : decode cX5_share 2 = .ok (.lconst 1, 1) := by decide +kernel
theorem dX5_share_3 : decode cX5_share 3 = .ok (.ldc2_w 85, 3) := by decide +kernel
theorem dX5_share_6 : decode cX5_share 6 = .ok (.invokestatic 81, 3) := by decide +kernel
theorem dX5_share_9 : decode cX5_share 9 = .ok (.ifCond .eq 22, 3) := by decide +kernel
theorem dX5_share_12 : decode cX5_share 12 = .ok (.iload_n 2, 1) := by decide +kernel
theorem dX5_share_13 : decode cX5_share 13 = .ok (.i2l, 1) := by decide +kernel
theorem dX5_share_14 : decode cX5_share 14 = .ok (.ldc2_w 87, 3) := by decide +kernel
theorem dX5_share_17 : decode cX5_share 17 = .ok (.ldc2_w 89, 3) := by decide +kernel
theorem dX5_share_20 : decode cX5_share 20 = .ok (.invokestatic 81, 3) := by decide +kernel
theorem dX5_share_23 : decode cX5_share 23 = .ok (.ifCond .eq 8, 3) := by decide +kernel
theorem dX5_share_26 : decode cX5_share 26 = .ok (.iload_n 1, 1) := by decide +kernel
theorem dX5_share_27 : decode cX5_share 27 = .ok (.iload_n 2, 1) := by decide +kernel
theorem dX5_share_28 : decode cX5_share 28 = .ok (.if_icmp .lt 5, 3) := by decide +kernel
theorem dX5_share_31 : decode cX5_share 31 = .ok (.iconst (-1), 1) := by decide +kernel
theorem dX5_share_32 : decode cX5_share 32 = .ok (.ireturn, 1) := by decide +kernel
theorem dX5_share_33 : decode cX5_share 33 = .ok (.aload_n 0, 1) := by decide +kernel
theorem dX5_share_34 : decode cX5_share 34 = .ok (.iload_n 1, 1) := by decide +kernel
theorem dX5_share_35 : decode cX5_share 35 = .ok (.putfield 62, 3) := by decide +kernel
theorem dX5_share_38 : decode cX5_share 38 = .ok (.aload_n 0, 1) := by decide +kernel
theorem dX5_share_39 : decode cX5_share 39 = .ok (.iload_n 2, 1) := by decide +kernel
theorem dX5_share_40 : decode cX5_share 40 = .ok (.putfield 66, 3) := by decide +kernel
theorem dX5_share_43 : decode cX5_share 43 = .ok (.iconst 1, 1) := by decide +kernel
theorem dX5_share_44 : decode cX5_share 44 = .ok (.ireturn, 1) := by decide +kernel
theorem dX5_isSheet_0 : decode cX5_isSheet 0 = .ok (.iload_n 1, 1) := by decide +kernel
theorem dX5_isSheet_1 : decode cX5_isSheet 1 = .ok (.i2l, 1) := by decide +kernel
theorem dX5_isSheet_2 : decode cX5_isSheet 2 = .ok (.lconst 0, 1) := by decide +kernel
theorem dX5_isSheet_3 : decode cX5_isSheet 3 = .ok (.aload_n 0, 1) := by decide +kernel
theorem dX5_isSheet_4 : decode cX5_isSheet 4 = .ok (.getfield 91, 3) := by decide +kernel
theorem dX5_isSheet_7 : decode cX5_isSheet 7 = .ok (.iconst 1, 1) := by decide +kernel
theorem dX5_isSheet_8 : decode cX5_isSheet 8 = .ok (.isub, 1) := by decide +kernel
theorem dX5_isSheet_9 : decode cX5_isSheet 9 = .ok (.i2l, 1) := by decide +kernel
theorem dX5_isSheet_10 : decode cX5_isSheet 10 = .ok (.invokestatic 81, 3) := by decide +kernel
theorem dX5_isSheet_13 : decode cX5_isSheet 13 = .ok (.ireturn, 1) := by decide +kernel
theorem dX5_sheet_0 : decode cX5_sheet 0 = .ok (.iload_n 1, 1) := by decide +kernel
theorem dX5_sheet_1 : decode cX5_sheet 1 = .ok (.i2l, 1) := by decide +kernel
theorem dX5_sheet_2 : decode cX5_sheet 2 = .ok (.lconst 0, 1) := by decide +kernel
theorem dX5_sheet_3 : decode cX5_sheet 3 = .ok (.ldc2_w 94, 3) := by decide +kernel
theorem dX5_sheet_6 : decode cX5_sheet 6 = .ok (.invokestatic 81, 3) := by decide +kernel
theorem dX5_sheet_9 : decode cX5_sheet 9 = .ok (.ifCond .eq 9, 3) := by decide +kernel
theorem dX5_sheet_12 : decode cX5_sheet 12 = .ok (.iload_n 2, 1) := by decide +kernel
theorem dX5_sheet_13 : decode cX5_sheet 13 = .ok (.bipush 24, 2) := by decide +kernel
theorem dX5_sheet_15 : decode cX5_sheet 15 = .ok (.if_icmp .le 5, 3) := by decide +kernel
theorem dX5_sheet_18 : decode cX5_sheet 18 = .ok (.iconst (-1), 1) := by decide +kernel
theorem dX5_sheet_19 : decode cX5_sheet 19 = .ok (.ireturn, 1) := by decide +kernel
theorem dX5_sheet_20 : decode cX5_sheet 20 = .ok (.aload_n 0, 1) := by decide +kernel
theorem dX5_sheet_21 : decode cX5_sheet 21 = .ok (.getfield 91, 3) := by decide +kernel
theorem dX5_sheet_24 : decode cX5_sheet 24 = .ok (.bipush 12, 2) := by decide +kernel
theorem dX5_sheet_26 : decode cX5_sheet 26 = .ok (.if_icmp .ne 6, 3) := by decide +kernel
theorem dX5_sheet_29 : decode cX5_sheet 29 = .ok (.bipush (-2), 2) := by decide +kernel
theorem dX5_sheet_31 : decode cX5_sheet 31 = .ok (.ireturn, 1) := by decide +kernel
theorem dX5_sheet_32 : decode cX5_sheet 32 = .ok (.iload_n 2, 1) := by decide +kernel
theorem dX5_sheet_33 : decode cX5_sheet 33 = .ok (.ifCond .ge 9, 3) := by decide +kernel
theorem dX5_sheet_36 : decode cX5_sheet 36 = .ok (.aload_n 0, 1) := by decide +kernel
theorem dX5_sheet_37 : decode cX5_sheet 37 = .ok (.iconst 5, 1) := by decide +kernel
theorem dX5_sheet_38 : decode cX5_sheet 38 = .ok (.invokevirtual 96, 3) := by decide +kernel
theorem dX5_sheet_41 : decode cX5_sheet 41 = .ok (.ireturn, 1) := by decide +kernel
theorem dX5_sheet_42 : decode cX5_sheet 42 = .ok (.aload_n 0, 1) := by decide +kernel
theorem dX5_sheet_43 : decode cX5_sheet 43 = .ok (.getfield 13, 3) := by decide +kernel
theorem dX5_sheet_46 : decode cX5_sheet 46 = .ok (.aload_n 0, 1) := by decide +kernel
theorem dX5_sheet_47 : decode cX5_sheet 47 = .ok (.getfield 91, 3) := by decide +kernel
theorem dX5_sheet_50 : decode cX5_sheet 50 = .ok (.iload_n 1, 1) := by decide +kernel
theorem dX5_sheet_51 : decode cX5_sheet 51 = .ok (.iastore, 1) := by decide +kernel
theorem dX5_sheet_52 : decode cX5_sheet 52 = .ok (.aload_n 0, 1) := by decide +kernel
theorem dX5_sheet_53 : decode cX5_sheet 53 = .ok (.getfield 16, 3) := by decide +kernel
theorem dX5_sheet_56 : decode cX5_sheet 56 = .ok (.aload_n 0, 1) := by decide +kernel
theorem dX5_sheet_57 : decode cX5_sheet 57 = .ok (.getfield 91, 3) := by decide +kernel
theorem dX5_sheet_60 : decode cX5_sheet 60 = .ok (.iload_n 2, 1) := by decide +kernel
theorem dX5_sheet_61 : decode cX5_sheet 61 = .ok (.iastore, 1) := by decide +kernel
theorem dX5_sheet_62 : decode cX5_sheet 62 = .ok (.iconst 0, 1) := by decide +kernel
theorem dX5_sheet_63 : decode cX5_sheet 63 = .ok (.istore_n 3, 1) := by decide +kernel
theorem dX5_sheet_64 : decode cX5_sheet 64 = .ok (.iload_n 3, 1) := by decide +kernel
theorem dX5_sheet_65 : decode cX5_sheet 65 = .ok (.bipush 24, 2) := by decide +kernel
theorem dX5_sheet_67 : decode cX5_sheet 67 = .ok (.if_icmp .ge 24, 3) := by decide +kernel
theorem dX5_sheet_70 : decode cX5_sheet 70 = .ok (.aload_n 0, 1) := by decide +kernel
theorem dX5_sheet_71 : decode cX5_sheet 71 = .ok (.getfield 19, 3) := by decide +kernel
theorem dX5_sheet_74 : decode cX5_sheet 74 = .ok (.bipush 24, 2) := by decide +kernel
theorem dX5_sheet_76 : decode cX5_sheet 76 = .ok (.aload_n 0, 1) := by decide +kernel
theorem dX5_sheet_77 : decode cX5_sheet 77 = .ok (.getfield 91, 3) := by decide +kernel
theorem dX5_sheet_80 : decode cX5_sheet 80 = .ok (.imul, 1) := by decide +kernel
theorem dX5_sheet_81 : decode cX5_sheet 81 = .ok (.iload_n 3, 1) := by decide +kernel
theorem dX5_sheet_82 : decode cX5_sheet 82 = .ok (.iadd, 1) := by decide +kernel
theorem dX5_sheet_83 : decode cX5_sheet 83 = .ok (.lconst 0, 1) := by decide +kernel
theorem dX5_sheet_84 : decode cX5_sheet 84 = .ok (.lastore, 1) := by decide +kernel
theorem dX5_sheet_85 : decode cX5_sheet 85 = .ok (.iinc 3 1, 3) := by decide +kernel
theorem dX5_sheet_88 : decode cX5_sheet 88 = .ok (.goto (-24), 3) := by decide +kernel
theorem dX5_sheet_91 : decode cX5_sheet 91 = .ok (.aload_n 0, 1) := by decide +kernel
theorem dX5_sheet_92 : decode cX5_sheet 92 = .ok (.dup, 1) := by decide +kernel
theorem dX5_sheet_93 : decode cX5_sheet 93 = .ok (.getfield 91, 3) := by decide +kernel
theorem dX5_sheet_96 : decode cX5_sheet 96 = .ok (.iconst 1, 1) := by decide +kernel
theorem dX5_sheet_97 : decode cX5_sheet 97 = .ok (.iadd, 1) := by decide +kernel
theorem dX5_sheet_98 : decode cX5_sheet 98 = .ok (.putfield 91, 3) := by decide +kernel
theorem dX5_sheet_101 : decode cX5_sheet 101 = .ok (.aload_n 0, 1) := by decide +kernel
theorem dX5_sheet_102 : decode cX5_sheet 102 = .ok (.getfield 91, 3) := by decide +kernel
theorem dX5_sheet_105 : decode cX5_sheet 105 = .ok (.iconst 1, 1) := by decide +kernel
theorem dX5_sheet_106 : decode cX5_sheet 106 = .ok (.isub, 1) := by decide +kernel
theorem dX5_sheet_107 : decode cX5_sheet 107 = .ok (.ireturn, 1) := by decide +kernel
theorem dX5_tear_0 : decode cX5_tear 0 = .ok (.aload_n 0, 1) := by decide +kernel
theorem dX5_tear_1 : decode cX5_tear 1 = .ok (.iload_n 1, 1) := by decide +kernel
theorem dX5_tear_2 : decode cX5_tear 2 = .ok (.invokevirtual 100, 3) := by decide +kernel
theorem dX5_tear_5 : decode cX5_tear 5 = .ok (.ifCond .ne 5, 3) := by decide +kernel
theorem dX5_tear_8 : decode cX5_tear 8 = .ok (.iconst (-1), 1) := by decide +kernel
theorem dX5_tear_9 : decode cX5_tear 9 = .ok (.ireturn, 1) := by decide +kernel
theorem dX5_tear_10 : decode cX5_tear 10 = .ok (.aload_n 0, 1) := by decide +kernel
theorem dX5_tear_11 : decode cX5_tear 11 = .ok (.getfield 16, 3) := by decide +kernel
theorem dX5_tear_14 : decode cX5_tear 14 = .ok (.iload_n 1, 1) := by decide +kernel
theorem dX5_tear_15 : decode cX5_tear 15 = .ok (.iaload, 1) := by decide +kernel
theorem dX5_tear_16 : decode cX5_tear 16 = .ok (.ifCond .ge 9, 3) := by decide +kernel
theorem dX5_tear_19 : decode cX5_tear 19 = .ok (.aload_n 0, 1) := by decide +kernel
theorem dX5_tear_20 : decode cX5_tear 20 = .ok (.iconst 1, 1) := by decide +kernel
theorem dX5_tear_21 : decode cX5_tear 21 = .ok (.invokevirtual 96, 3) := by decide +kernel
theorem dX5_tear_24 : decode cX5_tear 24 = .ok (.ireturn, 1) := by decide +kernel
theorem dX5_tear_25 : decode cX5_tear 25 = .ok (.aload_n 0, 1) := by decide +kernel
theorem dX5_tear_26 : decode cX5_tear 26 = .ok (.getfield 16, 3) := by decide +kernel
theorem dX5_tear_29 : decode cX5_tear 29 = .ok (.iload_n 1, 1) := by decide +kernel
theorem dX5_tear_30 : decode cX5_tear 30 = .ok (.iconst (-1), 1) := by decide +kernel
theorem dX5_tear_31 : decode cX5_tear 31 = .ok (.iastore, 1) := by decide +kernel
theorem dX5_tear_32 : decode cX5_tear 32 = .ok (.iconst 1, 1) := by decide +kernel
theorem dX5_tear_33 : decode cX5_tear 33 = .ok (.ireturn, 1) := by decide +kernel
theorem dX5_lacks_0 : decode cX5_lacks 0 = .ok (.aload_n 0, 1) := by decide +kernel
theorem dX5_lacks_1 : decode cX5_lacks 1 = .ok (.getfield 16, 3) := by decide +kernel
theorem dX5_lacks_4 : decode cX5_lacks 4 = .ok (.iload_n 1, 1) := by decide +kernel
theorem dX5_lacks_5 : decode cX5_lacks 5 = .ok (.iaload, 1) := by decide +kernel
theorem dX5_lacks_6 : decode cX5_lacks 6 = .ok (.ifCond .ge 7, 3) := by decide +kernel
theorem dX5_lacks_9 : decode cX5_lacks 9 = .ok (.iconst 1, 1) := by decide +kernel
theorem dX5_lacks_10 : decode cX5_lacks 10 = .ok (.goto 26, 3) := by decide +kernel
theorem dX5_lacks_13 : decode cX5_lacks 13 = .ok (.iload_n 2, 1) := by decide +kernel
theorem dX5_lacks_14 : decode cX5_lacks 14 = .ok (.i2l, 1) := by decide +kernel
theorem dX5_lacks_15 : decode cX5_lacks 15 = .ok (.lconst 0, 1) := by decide +kernel
theorem dX5_lacks_16 : decode cX5_lacks 16 = .ok (.aload_n 0, 1) := by decide +kernel
theorem dX5_lacks_17 : decode cX5_lacks 17 = .ok (.getfield 16, 3) := by decide +kernel
theorem dX5_lacks_20 : decode cX5_lacks 20 = .ok (.iload_n 1, 1) := by decide +kernel
theorem dX5_lacks_21 : decode cX5_lacks 21 = .ok (.iaload, 1) := by decide +kernel
theorem dX5_lacks_22 : decode cX5_lacks 22 = .ok (.iconst 1, 1) := by decide +kernel
theorem dX5_lacks_23 : decode cX5_lacks 23 = .ok (.isub, 1) := by decide +kernel
theorem dX5_lacks_24 : decode cX5_lacks 24 = .ok (.i2l, 1) := by decide +kernel
theorem dX5_lacks_25 : decode cX5_lacks 25 = .ok (.invokestatic 81, 3) := by decide +kernel
theorem dX5_lacks_28 : decode cX5_lacks 28 = .ok (.ifCond .eq 7, 3) := by decide +kernel
theorem dX5_lacks_31 : decode cX5_lacks 31 = .ok (.iconst 0, 1) := by decide +kernel
theorem dX5_lacks_32 : decode cX5_lacks 32 = .ok (.goto 4, 3) := by decide +kernel
theorem dX5_lacks_35 : decode cX5_lacks 35 = .ok (.iconst 2, 1) := by decide +kernel
theorem dX5_lacks_36 : decode cX5_lacks 36 = .ok (.ireturn, 1) := by decide +kernel
theorem dX5_lay_0 : decode cX5_lay 0 = .ok (.aload_n 0, 1) := by decide +kernel
theorem dX5_lay_1 : decode cX5_lay 1 = .ok (.iload_n 1, 1) := by decide +kernel
theorem dX5_lay_2 : decode cX5_lay 2 = .ok (.invokevirtual 100, 3) := by decide +kernel
theorem dX5_lay_5 : decode cX5_lay 5 = .ok (.ifCond .ne 5, 3) := by decide +kernel
theorem dX5_lay_8 : decode cX5_lay 8 = .ok (.iconst (-1), 1) := by decide +kernel
theorem dX5_lay_9 : decode cX5_lay 9 = .ok (.ireturn, 1) := by decide +kernel
theorem dX5_lay_10 : decode cX5_lay 10 = .ok (.aload_n 0, 1) := by decide +kernel
theorem dX5_lay_11 : decode cX5_lay 11 = .ok (.iload_n 1, 1) := by decide +kernel
theorem dX5_lay_12 : decode cX5_lay 12 = .ok (.iload_n 2, 1) := by decide +kernel
theorem dX5_lay_13 : decode cX5_lay 13 = .ok (.invokevirtual 104, 3) := by decide +kernel
theorem dX5_lay_16 : decode cX5_lay 16 = .ok (.istore 5, 2) := by decide +kernel
theorem dX5_lay_18 : decode cX5_lay 18 = .ok (.iload 5, 2) := by decide +kernel
theorem dX5_lay_20 : decode cX5_lay 20 = .ok (.ifCond .le 10, 3) := by decide +kernel
theorem dX5_lay_23 : decode cX5_lay 23 = .ok (.aload_n 0, 1) := by decide +kernel
theorem dX5_lay_24 : decode cX5_lay 24 = .ok (.iload 5, 2) := by decide +kernel
theorem dX5_lay_26 : decode cX5_lay 26 = .ok (.invokevirtual 96, 3) := by decide +kernel
theorem dX5_lay_29 : decode cX5_lay 29 = .ok (.ireturn, 1) := by decide +kernel
theorem dX5_lay_30 : decode cX5_lay 30 = .ok (.aload_n 0, 1) := by decide +kernel
theorem dX5_lay_31 : decode cX5_lay 31 = .ok (.getfield 13, 3) := by decide +kernel
theorem dX5_lay_34 : decode cX5_lay 34 = .ok (.iload_n 1, 1) := by decide +kernel
theorem dX5_lay_35 : decode cX5_lay 35 = .ok (.iaload, 1) := by decide +kernel
theorem dX5_lay_36 : decode cX5_lay 36 = .ok (.istore 6, 2) := by decide +kernel
theorem dX5_lay_38 : decode cX5_lay 38 = .ok (.aload_n 0, 1) := by decide +kernel
theorem dX5_lay_39 : decode cX5_lay 39 = .ok (.getfield 19, 3) := by decide +kernel
theorem dX5_lay_42 : decode cX5_lay 42 = .ok (.bipush 24, 2) := by decide +kernel
theorem dX5_lay_44 : decode cX5_lay 44 = .ok (.iload_n 1, 1) := by decide +kernel
theorem dX5_lay_45 : decode cX5_lay 45 = .ok (.imul, 1) := by decide +kernel
theorem dX5_lay_46 : decode cX5_lay 46 = .ok (.iload_n 2, 1) := by decide +kernel
theorem dX5_lay_47 : decode cX5_lay 47 = .ok (.iadd, 1) := by decide +kernel
theorem dX5_lay_48 : decode cX5_lay 48 = .ok (.iload 6, 2) := by decide +kernel
theorem dX5_lay_50 : decode cX5_lay 50 = .ok (.ifCond .ne 10, 3) := by decide +kernel
theorem dX5_lay_53 : decode cX5_lay 53 = .ok (.lload_n 3, 1) := by decide +kernel
theorem dX5_lay_54 : decode cX5_lay 54 = .ok (.l2i, 1) := by decide +kernel
theorem dX5_lay_55 : decode cX5_lay 55 = .ok (.i2b, 1) := by decide +kernel
theorem dX5_lay_56 : decode cX5_lay 56 = .ok (.i2l, 1) := by decide +kernel
theorem dX5_lay_57 : decode cX5_lay 57 = .ok (.goto 29, 3) := by decide +kernel
theorem dX5_lay_60 : decode cX5_lay 60 = .ok (.iload 6, 2) := by decide +kernel
theorem dX5_lay_62 : decode cX5_lay 62 = .ok (.iconst 1, 1) := by decide +kernel
theorem dX5_lay_63 : decode cX5_lay 63 = .ok (.if_icmp .ne 10, 3) := by decide +kernel
theorem dX5_lay_66 : decode cX5_lay 66 = .ok (.lload_n 3, 1) := by decide +kernel
theorem dX5_lay_67 : decode cX5_lay 67 = .ok (.l2i, 1) := by decide +kernel
theorem dX5_lay_68 : decode cX5_lay 68 = .ok (.i2s, 1) := by decide +kernel
theorem dX5_lay_69 : decode cX5_lay 69 = .ok (.i2l, 1) := by decide +kernel
theorem dX5_lay_70 : decode cX5_lay 70 = .ok (.goto 16, 3) := by decide +kernel
theorem dX5_lay_73 : decode cX5_lay 73 = .ok (.iload 6, 2) := by decide +kernel
theorem dX5_lay_75 : decode cX5_lay 75 = .ok (.iconst 2, 1) := by decide +kernel
theorem dX5_lay_76 : decode cX5_lay 76 = .ok (.if_icmp .ne 9, 3) := by decide +kernel
theorem dX5_lay_79 : decode cX5_lay 79 = .ok (.lload_n 3, 1) := by decide +kernel
theorem dX5_lay_80 : decode cX5_lay 80 = .ok (.l2i, 1) := by decide +kernel
theorem dX5_lay_81 : decode cX5_lay 81 = .ok (.i2l, 1) := by decide +kernel
theorem dX5_lay_82 : decode cX5_lay 82 = .ok (.goto 4, 3) := by decide +kernel
theorem dX5_lay_85 : decode cX5_lay 85 = .ok (.lload_n 3, 1) := by decide +kernel
theorem dX5_lay_86 : decode cX5_lay 86 = .ok (.lastore, 1) := by decide +kernel
theorem dX5_lay_87 : decode cX5_lay 87 = .ok (.iconst 1, 1) := by decide +kernel
theorem dX5_lay_88 : decode cX5_lay 88 = .ok (.ireturn, 1) := by decide +kernel
theorem dX5_get_0 : decode cX5_get 0 = .ok (.aload_n 0, 1) := by decide +kernel
theorem dX5_get_1 : decode cX5_get 1 = .ok (.iload_n 1, 1) := by decide +kernel
theorem dX5_get_2 : decode cX5_get 2 = .ok (.invokevirtual 100, 3) := by decide +kernel
theorem dX5_get_5 : decode cX5_get 5 = .ok (.ifCond .ne 5, 3) := by decide +kernel
theorem dX5_get_8 : decode cX5_get 8 = .ok (.iconst (-1), 1) := by decide +kernel
theorem dX5_get_9 : decode cX5_get 9 = .ok (.ireturn, 1) := by decide +kernel
theorem dX5_get_10 : decode cX5_get 10 = .ok (.aload_n 0, 1) := by decide +kernel
theorem dX5_get_11 : decode cX5_get 11 = .ok (.iload_n 1, 1) := by decide +kernel
theorem dX5_get_12 : decode cX5_get 12 = .ok (.iload_n 2, 1) := by decide +kernel
theorem dX5_get_13 : decode cX5_get 13 = .ok (.invokevirtual 104, 3) := by decide +kernel
theorem dX5_get_16 : decode cX5_get 16 = .ok (.istore_n 3, 1) := by decide +kernel
theorem dX5_get_17 : decode cX5_get 17 = .ok (.iload_n 3, 1) := by decide +kernel
theorem dX5_get_18 : decode cX5_get 18 = .ok (.ifCond .le 9, 3) := by decide +kernel
theorem dX5_get_21 : decode cX5_get 21 = .ok (.aload_n 0, 1) := by decide +kernel
theorem dX5_get_22 : decode cX5_get 22 = .ok (.iload_n 3, 1) := by decide +kernel
theorem dX5_get_23 : decode cX5_get 23 = .ok (.invokevirtual 96, 3) := by decide +kernel
theorem dX5_get_26 : decode cX5_get 26 = .ok (.ireturn, 1) := by decide +kernel
theorem dX5_get_27 : decode cX5_get 27 = .ok (.aload_n 0, 1) := by decide +kernel
theorem dX5_get_28 : decode cX5_get 28 = .ok (.aload_n 0, 1) := by decide +kernel
theorem dX5_get_29 : decode cX5_get 29 = .ok (.getfield 19, 3) := by decide +kernel
theorem dX5_get_32 : decode cX5_get 32 = .ok (.bipush 24, 2) := by decide +kernel
theorem dX5_get_34 : decode cX5_get 34 = .ok (.iload_n 1, 1) := by decide +kernel
theorem dX5_get_35 : decode cX5_get 35 = .ok (.imul, 1) := by decide +kernel
theorem dX5_get_36 : decode cX5_get 36 = .ok (.iload_n 2, 1) := by decide +kernel
theorem dX5_get_37 : decode cX5_get 37 = .ok (.iadd, 1) := by decide +kernel
theorem dX5_get_38 : decode cX5_get 38 = .ok (.laload, 1) := by decide +kernel
theorem dX5_get_39 : decode cX5_get 39 = .ok (.putfield 108, 3) := by decide +kernel
theorem dX5_get_42 : decode cX5_get 42 = .ok (.iconst 1, 1) := by decide +kernel
theorem dX5_get_43 : decode cX5_get 43 = .ok (.ireturn, 1) := by decide +kernel
theorem dX5_copy_0 : decode cX5_copy 0 = .ok (.aload_n 0, 1) := by decide +kernel
theorem dX5_copy_1 : decode cX5_copy 1 = .ok (.iload_n 1, 1) := by decide +kernel
theorem dX5_copy_2 : decode cX5_copy 2 = .ok (.invokevirtual 100, 3) := by decide +kernel
theorem dX5_copy_5 : decode cX5_copy 5 = .ok (.ifCond .eq 11, 3) := by decide +kernel
theorem dX5_copy_8 : decode cX5_copy 8 = .ok (.aload_n 0, 1) := by decide +kernel
theorem dX5_copy_9 : decode cX5_copy 9 = .ok (.iload_n 3, 1) := by decide +kernel
theorem dX5_copy_10 : decode cX5_copy 10 = .ok (.invokevirtual 100, 3) := by decide +kernel
theorem dX5_copy_13 : decode cX5_copy 13 = .ok (.ifCond .ne 5, 3) := by decide +kernel
theorem dX5_copy_16 : decode cX5_copy 16 = .ok (.iconst (-1), 1) := by decide +kernel
theorem dX5_copy_17 : decode cX5_copy 17 = .ok (.ireturn, 1) := by decide +kernel
theorem dX5_copy_18 : decode cX5_copy 18 = .ok (.aload_n 0, 1) := by decide +kernel
theorem dX5_copy_19 : decode cX5_copy 19 = .ok (.getfield 16, 3) := by decide +kernel
theorem dX5_copy_22 : decode cX5_copy 22 = .ok (.iload_n 1, 1) := by decide +kernel
theorem dX5_copy_23 : decode cX5_copy 23 = .ok (.iaload, 1) := by decide +kernel
theorem dX5_copy_24 : decode cX5_copy 24 = .ok (.ifCond .lt 12, 3) := by decide +kernel
theorem dX5_copy_27 : decode cX5_copy 27 = .ok (.aload_n 0, 1) := by decide +kernel
theorem dX5_copy_28 : decode cX5_copy 28 = .ok (.getfield 16, 3) := by decide +kernel
theorem dX5_copy_31 : decode cX5_copy 31 = .ok (.iload_n 3, 1) := by decide +kernel
theorem dX5_copy_32 : decode cX5_copy 32 = .ok (.iaload, 1) := by decide +kernel
theorem dX5_copy_33 : decode cX5_copy 33 = .ok (.ifCond .ge 9, 3) := by decide +kernel
theorem dX5_copy_36 : decode cX5_copy 36 = .ok (.aload_n 0, 1) := by decide +kernel
theorem dX5_copy_37 : decode cX5_copy 37 = .ok (.iconst 1, 1) := by decide +kernel
theorem dX5_copy_38 : decode cX5_copy 38 = .ok (.invokevirtual 96, 3) := by decide +kernel
theorem dX5_copy_41 : decode cX5_copy 41 = .ok (.ireturn, 1) := by decide +kernel
theorem dX5_copy_42 : decode cX5_copy 42 = .ok (.aload_n 0, 1) := by decide +kernel
theorem dX5_copy_43 : decode cX5_copy 43 = .ok (.getfield 13, 3) := by decide +kernel
theorem dX5_copy_46 : decode cX5_copy 46 = .ok (.iload_n 1, 1) := by decide +kernel
theorem dX5_copy_47 : decode cX5_copy 47 = .ok (.iaload, 1) := by decide +kernel
theorem dX5_copy_48 : decode cX5_copy 48 = .ok (.aload_n 0, 1) := by decide +kernel
theorem dX5_copy_49 : decode cX5_copy 49 = .ok (.getfield 13, 3) := by decide +kernel
theorem dX5_copy_52 : decode cX5_copy 52 = .ok (.iload_n 3, 1) := by decide +kernel
theorem dX5_copy_53 : decode cX5_copy 53 = .ok (.iaload, 1) := by decide +kernel
theorem dX5_copy_54 : decode cX5_copy 54 = .ok (.if_icmp .eq 9, 3) := by decide +kernel
theorem dX5_copy_57 : decode cX5_copy 57 = .ok (.aload_n 0, 1) := by decide +kernel
theorem dX5_copy_58 : decode cX5_copy 58 = .ok (.iconst 3, 1) := by decide +kernel
theorem dX5_copy_59 : decode cX5_copy 59 = .ok (.invokevirtual 96, 3) := by decide +kernel
theorem dX5_copy_62 : decode cX5_copy 62 = .ok (.ireturn, 1) := by decide +kernel
theorem dX5_copy_63 : decode cX5_copy 63 = .ok (.iload_n 2, 1) := by decide +kernel
theorem dX5_copy_64 : decode cX5_copy 64 = .ok (.ifCond .lt 48, 3) := by decide +kernel
theorem dX5_copy_67 : decode cX5_copy 67 = .ok (.iload 4, 2) := by decide +kernel
theorem dX5_copy_69 : decode cX5_copy 69 = .ok (.ifCond .lt 43, 3) := by decide +kernel
theorem dX5_copy_72 : decode cX5_copy 72 = .ok (.iload 5, 2) := by decide +kernel
theorem dX5_copy_74 : decode cX5_copy 74 = .ok (.ifCond .lt 38, 3) := by decide +kernel
theorem dX5_copy_77 : decode cX5_copy 77 = .ok (.iload_n 2, 1) := by decide +kernel
theorem dX5_copy_78 : decode cX5_copy 78 = .ok (.i2l, 1) := by decide +kernel
theorem dX5_copy_79 : decode cX5_copy 79 = .ok (.iload 5, 2) := by decide +kernel
theorem dX5_copy_81 : decode cX5_copy 81 = .ok (.i2l, 1) := by decide +kernel
theorem dX5_copy_82 : decode cX5_copy 82 = .ok (.ladd, 1) := by decide +kernel
theorem dX5_copy_83 : decode cX5_copy 83 = .ok (.aload_n 0, 1) := by decide +kernel
theorem dX5_copy_84 : decode cX5_copy 84 = .ok (.getfield 16, 3) := by decide +kernel
theorem dX5_copy_87 : decode cX5_copy 87 = .ok (.iload_n 1, 1) := by decide +kernel
theorem dX5_copy_88 : decode cX5_copy 88 = .ok (.iaload, 1) := by decide +kernel
theorem dX5_copy_89 : decode cX5_copy 89 = .ok (.i2l, 1) := by decide +kernel
theorem dX5_copy_90 : decode cX5_copy 90 = .ok (.lcmp, 1) := by decide +kernel
theorem dX5_copy_91 : decode cX5_copy 91 = .ok (.ifCond .gt 21, 3) := by decide +kernel
theorem dX5_copy_94 : decode cX5_copy 94 = .ok (.iload 4, 2) := by decide +kernel
theorem dX5_copy_96 : decode cX5_copy 96 = .ok (.i2l, 1) := by decide +kernel
theorem dX5_copy_97 : decode cX5_copy 97 = .ok (.iload 5, 2) := by decide +kernel
theorem dX5_copy_99 : decode cX5_copy 99 = .ok (.i2l, 1) := by decide +kernel
theorem dX5_copy_100 : decode cX5_copy 100 = .ok (.ladd, 1) := by decide +kernel
theorem dX5_copy_101 : decode cX5_copy 101 = .ok (.aload_n 0, 1) := by decide +kernel
theorem dX5_copy_102 : decode cX5_copy 102 = .ok (.getfield 16, 3) := by decide +kernel
theorem dX5_copy_105 : decode cX5_copy 105 = .ok (.iload_n 3, 1) := by decide +kernel
theorem dX5_copy_106 : decode cX5_copy 106 = .ok (.iaload, 1) := by decide +kernel
theorem dX5_copy_107 : decode cX5_copy 107 = .ok (.i2l, 1) := by decide +kernel
theorem dX5_copy_108 : decode cX5_copy 108 = .ok (.lcmp, 1) := by decide +kernel
theorem dX5_copy_109 : decode cX5_copy 109 = .ok (.ifCond .le 9, 3) := by decide +kernel
theorem dX5_copy_112 : decode cX5_copy 112 = .ok (.aload_n 0, 1) := by decide +kernel
theorem dX5_copy_113 : decode cX5_copy 113 = .ok (.iconst 2, 1) := by decide +kernel
theorem dX5_copy_114 : decode cX5_copy 114 = .ok (.invokevirtual 96, 3) := by decide +kernel
theorem dX5_copy_117 : decode cX5_copy 117 = .ok (.ireturn, 1) := by decide +kernel
theorem dX5_copy_118 : decode cX5_copy 118 = .ok (.iconst 0, 1) := by decide +kernel
theorem dX5_copy_119 : decode cX5_copy 119 = .ok (.istore 6, 2) := by decide +kernel
theorem dX5_copy_121 : decode cX5_copy 121 = .ok (.iload 6, 2) := by decide +kernel
theorem dX5_copy_123 : decode cX5_copy 123 = .ok (.iload 5, 2) := by decide +kernel
theorem dX5_copy_125 : decode cX5_copy 125 = .ok (.if_icmp .ge 30, 3) := by decide +kernel
theorem dX5_copy_128 : decode cX5_copy 128 = .ok (.aload_n 0, 1) := by decide +kernel
theorem dX5_copy_129 : decode cX5_copy 129 = .ok (.getfield 23, 3) := by decide +kernel
theorem dX5_copy_132 : decode cX5_copy 132 = .ok (.iload 6, 2) := by decide +kernel
theorem dX5_copy_134 : decode cX5_copy 134 = .ok (.aload_n 0, 1) := by decide +kernel
theorem dX5_copy_135 : decode cX5_copy 135 = .ok (.getfield 19, 3) := by decide +kernel
theorem dX5_copy_138 : decode cX5_copy 138 = .ok (.bipush 24, 2) := by decide +kernel
theorem dX5_copy_140 : decode cX5_copy 140 = .ok (.iload_n 1, 1) := by decide +kernel
theorem dX5_copy_141 : decode cX5_copy 141 = .ok (.imul, 1) := by decide +kernel
theorem dX5_copy_142 : decode cX5_copy 142 = .ok (.iload_n 2, 1) := by decide +kernel
theorem dX5_copy_143 : decode cX5_copy 143 = .ok (.iadd, 1) := by decide +kernel
theorem dX5_copy_144 : decode cX5_copy 144 = .ok (.iload 6, 2) := by decide +kernel
theorem dX5_copy_146 : decode cX5_copy 146 = .ok (.iadd, 1) := by decide +kernel
theorem dX5_copy_147 : decode cX5_copy 147 = .ok (.laload, 1) := by decide +kernel
theorem dX5_copy_148 : decode cX5_copy 148 = .ok (.lastore, 1) := by decide +kernel
theorem dX5_copy_149 : decode cX5_copy 149 = .ok (.iinc 6 1, 3) := by decide +kernel
theorem dX5_copy_152 : decode cX5_copy 152 = .ok (.goto (-31), 3) := by decide +kernel
theorem dX5_copy_155 : decode cX5_copy 155 = .ok (.iconst 0, 1) := by decide +kernel
theorem dX5_copy_156 : decode cX5_copy 156 = .ok (.istore 6, 2) := by decide +kernel
theorem dX5_copy_158 : decode cX5_copy 158 = .ok (.iload 6, 2) := by decide +kernel
theorem dX5_copy_160 : decode cX5_copy 160 = .ok (.iload 5, 2) := by decide +kernel
theorem dX5_copy_162 : decode cX5_copy 162 = .ok (.if_icmp .ge 31, 3) := by decide +kernel
theorem dX5_copy_165 : decode cX5_copy 165 = .ok (.aload_n 0, 1) := by decide +kernel
theorem dX5_copy_166 : decode cX5_copy 166 = .ok (.getfield 19, 3) := by decide +kernel
theorem dX5_copy_169 : decode cX5_copy 169 = .ok (.bipush 24, 2) := by decide +kernel
theorem dX5_copy_171 : decode cX5_copy 171 = .ok (.iload_n 3, 1) := by decide +kernel
theorem dX5_copy_172 : decode cX5_copy 172 = .ok (.imul, 1) := by decide +kernel
theorem dX5_copy_173 : decode cX5_copy 173 = .ok (.iload 4, 2) := by decide +kernel
theorem dX5_copy_175 : decode cX5_copy 175 = .ok (.iadd, 1) := by decide +kernel
theorem dX5_copy_176 : decode cX5_copy 176 = .ok (.iload 6, 2) := by decide +kernel
theorem dX5_copy_178 : decode cX5_copy 178 = .ok (.iadd, 1) := by decide +kernel
theorem dX5_copy_179 : decode cX5_copy 179 = .ok (.aload_n 0, 1) := by decide +kernel
theorem dX5_copy_180 : decode cX5_copy 180 = .ok (.getfield 23, 3) := by decide +kernel
theorem dX5_copy_183 : decode cX5_copy 183 = .ok (.iload 6, 2) := by decide +kernel
theorem dX5_copy_185 : decode cX5_copy 185 = .ok (.laload, 1) := by decide +kernel
theorem dX5_copy_186 : decode cX5_copy 186 = .ok (.lastore, 1) := by decide +kernel
theorem dX5_copy_187 : decode cX5_copy 187 = .ok (.iinc 6 1, 3) := by decide +kernel
theorem dX5_copy_190 : decode cX5_copy 190 = .ok (.goto (-32), 3) := by decide +kernel
theorem dX5_copy_193 : decode cX5_copy 193 = .ok (.iconst 1, 1) := by decide +kernel
theorem dX5_copy_194 : decode cX5_copy 194 = .ok (.ireturn, 1) := by decide +kernel
theorem dX5_isMachine_0 : decode cX5_isMachine 0 = .ok (.iload_n 1, 1) := by decide +kernel
theorem dX5_isMachine_1 : decode cX5_isMachine 1 = .ok (.i2l, 1) := by decide +kernel
theorem dX5_isMachine_2 : decode cX5_isMachine 2 = .ok (.lconst 0, 1) := by decide +kernel
theorem dX5_isMachine_3 : decode cX5_isMachine 3 = .ok (.aload_n 0, 1) := by decide +kernel
theorem dX5_isMachine_4 : decode cX5_isMachine 4 = .ok (.getfield 111, 3) := by decide +kernel
theorem dX5_isMachine_7 : decode cX5_isMachine 7 = .ok (.iconst 1, 1) := by decide +kernel
theorem dX5_isMachine_8 : decode cX5_isMachine 8 = .ok (.isub, 1) := by decide +kernel
theorem dX5_isMachine_9 : decode cX5_isMachine 9 = .ok (.i2l, 1) := by decide +kernel
theorem dX5_isMachine_10 : decode cX5_isMachine 10 = .ok (.invokestatic 81, 3) := by decide +kernel
theorem dX5_isMachine_13 : decode cX5_isMachine 13 = .ok (.ireturn, 1) := by decide +kernel
theorem dX5_isAgeing_0 : decode cX5_isAgeing 0 = .ok (.aload_n 0, 1) := by decide +kernel
theorem dX5_isAgeing_1 : decode cX5_isAgeing 1 = .ok (.getfield 26, 3) := by decide +kernel
theorem dX5_isAgeing_4 : decode cX5_isAgeing 4 = .ok (.iload_n 1, 1) := by decide +kernel
theorem dX5_isAgeing_5 : decode cX5_isAgeing 5 = .ok (.iaload, 1) := by decide +kernel
theorem dX5_isAgeing_6 : decode cX5_isAgeing 6 = .ok (.iconst 2, 1) := by decide +kernel
theorem dX5_isAgeing_7 : decode cX5_isAgeing 7 = .ok (.if_icmp .lt 7, 3) := by decide +kernel
theorem dX5_isAgeing_10 : decode cX5_isAgeing 10 = .ok (.iconst 1, 1) := by decide +kernel
theorem dX5_isAgeing_11 : decode cX5_isAgeing 11 = .ok (.goto 4, 3) := by decide +kernel
theorem dX5_isAgeing_14 : decode cX5_isAgeing 14 = .ok (.iconst 0, 1) := by decide +kernel
theorem dX5_isAgeing_15 : decode cX5_isAgeing 15 = .ok (.ireturn, 1) := by decide +kernel
theorem dX5_isState_0 : decode cX5_isState 0 = .ok (.iload_n 2, 1) := by decide +kernel
theorem dX5_isState_1 : decode cX5_isState 1 = .ok (.i2l, 1) := by decide +kernel
theorem dX5_isState_2 : decode cX5_isState 2 = .ok (.lconst 0, 1) := by decide +kernel
theorem dX5_isState_3 : decode cX5_isState 3 = .ok (.aload_n 0, 1) := by decide +kernel
theorem dX5_isState_4 : decode cX5_isState 4 = .ok (.getfield 29, 3) := by decide +kernel
theorem dX5_isState_7 : decode cX5_isState 7 = .ok (.iload_n 1, 1) := by decide +kernel
theorem dX5_isState_8 : decode cX5_isState 8 = .ok (.iaload, 1) := by decide +kernel
theorem dX5_isState_9 : decode cX5_isState 9 = .ok (.iconst 1, 1) := by decide +kernel
theorem dX5_isState_10 : decode cX5_isState 10 = .ok (.isub, 1) := by decide +kernel
theorem dX5_isState_11 : decode cX5_isState 11 = .ok (.i2l, 1) := by decide +kernel
theorem dX5_isState_12 : decode cX5_isState 12 = .ok (.invokestatic 81, 3) := by decide +kernel
theorem dX5_isState_15 : decode cX5_isState 15 = .ok (.ireturn, 1) := by decide +kernel
theorem dX5_machine_0 : decode cX5_machine 0 = .ok (.iload_n 1, 1) := by decide +kernel
theorem dX5_machine_1 : decode cX5_machine 1 = .ok (.i2l, 1) := by decide +kernel
theorem dX5_machine_2 : decode cX5_machine 2 = .ok (.lconst 0, 1) := by decide +kernel
theorem dX5_machine_3 : decode cX5_machine 3 = .ok (.ldc2_w 94, 3) := by decide +kernel
theorem dX5_machine_6 : decode cX5_machine 6 = .ok (.invokestatic 81, 3) := by decide +kernel
theorem dX5_machine_9 : decode cX5_machine 9 = .ok (.ifCond .eq 36, 3) := by decide +kernel
theorem dX5_machine_12 : decode cX5_machine 12 = .ok (.iload_n 2, 1) := by decide +kernel
theorem dX5_machine_13 : decode cX5_machine 13 = .ok (.iconst 5, 1) := by decide +kernel
theorem dX5_machine_14 : decode cX5_machine 14 = .ok (.if_icmp .gt 31, 3) := by decide +kernel
theorem dX5_machine_17 : decode cX5_machine 17 = .ok (.iload_n 2, 1) := by decide +kernel
theorem dX5_machine_18 : decode cX5_machine 18 = .ok (.ifCond .lt 29, 3) := by decide +kernel
theorem dX5_machine_21 : decode cX5_machine 21 = .ok (.iload_n 2, 1) := by decide +kernel
theorem dX5_machine_22 : decode cX5_machine 22 = .ok (.iload_n 1, 1) := by decide +kernel
theorem dX5_machine_23 : decode cX5_machine 23 = .ok (.iconst 3, 1) := by decide +kernel
theorem dX5_machine_24 : decode cX5_machine 24 = .ok (.if_icmp .ne 7, 3) := by decide +kernel
theorem dX5_machine_27 : decode cX5_machine 27 = .ok (.iconst 2, 1) := by decide +kernel
theorem dX5_machine_28 : decode cX5_machine 28 = .ok (.goto 4, 3) := by decide +kernel
theorem dX5_machine_31 : decode cX5_machine 31 = .ok (.iconst 1, 1) := by decide +kernel
theorem dX5_machine_32 : decode cX5_machine 32 = .ok (.if_icmp .lt 13, 3) := by decide +kernel
theorem dX5_machine_35 : decode cX5_machine 35 = .ok (.iload_n 1, 1) := by decide +kernel
theorem dX5_machine_36 : decode cX5_machine 36 = .ok (.iconst 1, 1) := by decide +kernel
theorem dX5_machine_37 : decode cX5_machine 37 = .ok (.if_icmp .ne 10, 3) := by decide +kernel
theorem dX5_machine_40 : decode cX5_machine 40 = .ok (.iload_n 2, 1) := by decide +kernel
theorem dX5_machine_41 : decode cX5_machine 41 = .ok (.iconst 1, 1) := by decide +kernel
theorem dX5_machine_42 : decode cX5_machine 42 = .ok (.if_icmp .eq 5, 3) := by decide +kernel
theorem dX5_machine_45 : decode cX5_machine 45 = .ok (.iconst (-1), 1) := by decide +kernel
theorem dX5_machine_46 : decode cX5_machine 46 = .ok (.ireturn, 1) := by decide +kernel
theorem dX5_machine_47 : decode cX5_machine 47 = .ok (.aload_n 0, 1) := by decide +kernel
theorem dX5_machine_48 : decode cX5_machine 48 = .ok (.getfield 111, 3) := by decide +kernel
theorem dX5_machine_51 : decode cX5_machine 51 = .ok (.bipush 16, 2) := by decide +kernel
theorem dX5_machine_53 : decode cX5_machine 53 = .ok (.if_icmp .ne 6, 3) := by decide +kernel
theorem dX5_machine_56 : decode cX5_machine 56 = .ok (.bipush (-2), 2) := by decide +kernel
theorem dX5_machine_58 : decode cX5_machine 58 = .ok (.ireturn, 1) := by decide +kernel
theorem dX5_machine_59 : decode cX5_machine 59 = .ok (.iload_n 2, 1) := by decide +kernel
theorem dX5_machine_60 : decode cX5_machine 60 = .ok (.ifCond .ge 9, 3) := by decide +kernel
theorem dX5_machine_63 : decode cX5_machine 63 = .ok (.aload_n 0, 1) := by decide +kernel
theorem dX5_machine_64 : decode cX5_machine 64 = .ok (.iconst 5, 1) := by decide +kernel
theorem dX5_machine_65 : decode cX5_machine 65 = .ok (.invokevirtual 96, 3) := by decide +kernel
theorem dX5_machine_68 : decode cX5_machine 68 = .ok (.ireturn, 1) := by decide +kernel
theorem dX5_machine_69 : decode cX5_machine 69 = .ok (.aload_n 0, 1) := by decide +kernel
theorem dX5_machine_70 : decode cX5_machine 70 = .ok (.getfield 111, 3) := by decide +kernel
theorem dX5_machine_73 : decode cX5_machine 73 = .ok (.istore_n 3, 1) := by decide +kernel
theorem dX5_machine_74 : decode cX5_machine 74 = .ok (.aload_n 0, 1) := by decide +kernel
theorem dX5_machine_75 : decode cX5_machine 75 = .ok (.getfield 26, 3) := by decide +kernel
theorem dX5_machine_78 : decode cX5_machine 78 = .ok (.iload_n 3, 1) := by decide +kernel
theorem dX5_machine_79 : decode cX5_machine 79 = .ok (.iload_n 1, 1) := by decide +kernel
theorem dX5_machine_80 : decode cX5_machine 80 = .ok (.iastore, 1) := by decide +kernel
theorem dX5_machine_81 : decode cX5_machine 81 = .ok (.aload_n 0, 1) := by decide +kernel
theorem dX5_machine_82 : decode cX5_machine 82 = .ok (.getfield 29, 3) := by decide +kernel
theorem dX5_machine_85 : decode cX5_machine 85 = .ok (.iload_n 3, 1) := by decide +kernel
theorem dX5_machine_86 : decode cX5_machine 86 = .ok (.iload_n 2, 1) := by decide +kernel
theorem dX5_machine_87 : decode cX5_machine 87 = .ok (.iastore, 1) := by decide +kernel
theorem dX5_machine_88 : decode cX5_machine 88 = .ok (.aload_n 0, 1) := by decide +kernel
theorem dX5_machine_89 : decode cX5_machine 89 = .ok (.getfield 32, 3) := by decide +kernel
theorem dX5_machine_92 : decode cX5_machine 92 = .ok (.iload_n 3, 1) := by decide +kernel
theorem dX5_machine_93 : decode cX5_machine 93 = .ok (.iconst 0, 1) := by decide +kernel
theorem dX5_machine_94 : decode cX5_machine 94 = .ok (.iastore, 1) := by decide +kernel
theorem dX5_machine_95 : decode cX5_machine 95 = .ok (.aload_n 0, 1) := by decide +kernel
theorem dX5_machine_96 : decode cX5_machine 96 = .ok (.getfield 41, 3) := by decide +kernel
theorem dX5_machine_99 : decode cX5_machine 99 = .ok (.iload_n 3, 1) := by decide +kernel
theorem dX5_machine_100 : decode cX5_machine 100 = .ok (.iconst 0, 1) := by decide +kernel
theorem dX5_machine_101 : decode cX5_machine 101 = .ok (.iastore, 1) := by decide +kernel
theorem dX5_machine_102 : decode cX5_machine 102 = .ok (.iconst 0, 1) := by decide +kernel
theorem dX5_machine_103 : decode cX5_machine 103 = .ok (.istore 4, 2) := by decide +kernel
theorem dX5_machine_105 : decode cX5_machine 105 = .ok (.iload 4, 2) := by decide +kernel
theorem dX5_machine_107 : decode cX5_machine 107 = .ok (.iconst 5, 1) := by decide +kernel
theorem dX5_machine_108 : decode cX5_machine 108 = .ok (.if_icmp .ge 89, 3) := by decide +kernel
theorem dX5_machine_111 : decode cX5_machine 111 = .ok (.aload_n 0, 1) := by decide +kernel
theorem dX5_machine_112 : decode cX5_machine 112 = .ok (.getfield 35, 3) := by decide +kernel
theorem dX5_machine_115 : decode cX5_machine 115 = .ok (.iconst 5, 1) := by decide +kernel
theorem dX5_machine_116 : decode cX5_machine 116 = .ok (.iload_n 3, 1) := by decide +kernel
theorem dX5_machine_117 : decode cX5_machine 117 = .ok (.imul, 1) := by decide +kernel
theorem dX5_machine_118 : decode cX5_machine 118 = .ok (.iload 4, 2) := by decide +kernel
theorem dX5_machine_120 : decode cX5_machine 120 = .ok (.iadd, 1) := by decide +kernel
theorem dX5_machine_121 : decode cX5_machine 121 = .ok (.iconst 0, 1) := by decide +kernel
theorem dX5_machine_122 : decode cX5_machine 122 = .ok (.iastore, 1) := by decide +kernel
theorem dX5_machine_123 : decode cX5_machine 123 = .ok (.iconst 0, 1) := by decide +kernel
theorem dX5_machine_124 : decode cX5_machine 124 = .ok (.istore 5, 2) := by decide +kernel
theorem dX5_machine_126 : decode cX5_machine 126 = .ok (.iload 5, 2) := by decide +kernel
theorem dX5_machine_128 : decode cX5_machine 128 = .ok (.iconst 5, 1) := by decide +kernel
theorem dX5_machine_129 : decode cX5_machine 129 = .ok (.if_icmp .ge 62, 3) := by decide +kernel
theorem dX5_machine_132 : decode cX5_machine 132 = .ok (.iload_n 1, 1) := by decide +kernel
theorem dX5_machine_133 : decode cX5_machine 133 = .ok (.iconst 2, 1) := by decide +kernel
theorem dX5_machine_134 : decode cX5_machine 134 = .ok (.if_icmp .lt 18, 3) := by decide +kernel
theorem dX5_machine_137 : decode cX5_machine 137 = .ok (.iload 4, 2) := by decide +kernel
theorem dX5_machine_139 : decode cX5_machine 139 = .ok (.iconst 1, 1) := by decide +kernel
theorem dX5_machine_140 : decode cX5_machine 140 = .ok (.iadd, 1) := by decide +kernel
theorem dX5_machine_141 : decode cX5_machine 141 = .ok (.iload_n 2, 1) := by decide +kernel
theorem dX5_machine_142 : decode cX5_machine 142 = .ok (.if_icmp .ge 10, 3) := by decide +kernel
theorem dX5_machine_145 : decode cX5_machine 145 = .ok (.iload 4, 2) := by decide +kernel
theorem dX5_machine_147 : decode cX5_machine 147 = .ok (.iconst 1, 1) := by decide +kernel
theorem dX5_machine_148 : decode cX5_machine 148 = .ok (.iadd, 1) := by decide +kernel
theorem dX5_machine_149 : decode cX5_machine 149 = .ok (.goto 5, 3) := by decide +kernel
theorem dX5_machine_152 : decode cX5_machine 152 = .ok (.iload 4, 2) := by decide +kernel
theorem dX5_machine_154 : decode cX5_machine 154 = .ok (.istore 6, 2) := by decide +kernel
theorem dX5_machine_156 : decode cX5_machine 156 = .ok (.aload_n 0, 1) := by decide +kernel
theorem dX5_machine_157 : decode cX5_machine 157 = .ok (.getfield 38, 3) := by decide +kernel
theorem dX5_machine_160 : decode cX5_machine 160 = .ok (.bipush 25, 2) := by decide +kernel
theorem dX5_machine_162 : decode cX5_machine 162 = .ok (.iload_n 3, 1) := by decide +kernel
theorem dX5_machine_163 : decode cX5_machine 163 = .ok (.imul, 1) := by decide +kernel
theorem dX5_machine_164 : decode cX5_machine 164 = .ok (.iconst 5, 1) := by decide +kernel
theorem dX5_machine_165 : decode cX5_machine 165 = .ok (.iload 4, 2) := by decide +kernel
theorem dX5_machine_167 : decode cX5_machine 167 = .ok (.imul, 1) := by decide +kernel
theorem dX5_machine_168 : decode cX5_machine 168 = .ok (.iadd, 1) := by decide +kernel
theorem dX5_machine_169 : decode cX5_machine 169 = .ok (.iload 5, 2) := by decide +kernel
theorem dX5_machine_171 : decode cX5_machine 171 = .ok (.iadd, 1) := by decide +kernel
theorem dX5_machine_172 : decode cX5_machine 172 = .ok (.iload 5, 2) := by decide +kernel
theorem dX5_machine_174 : decode cX5_machine 174 = .ok (.iload 6, 2) := by decide +kernel
theorem dX5_machine_176 : decode cX5_machine 176 = .ok (.if_icmp .ne 7, 3) := by decide +kernel
theorem dX5_machine_179 : decode cX5_machine 179 = .ok (.iconst 1, 1) := by decide +kernel
theorem dX5_machine_180 : decode cX5_machine 180 = .ok (.goto 4, 3) := by decide +kernel
theorem dX5_machine_183 : decode cX5_machine 183 = .ok (.iconst 0, 1) := by decide +kernel
theorem dX5_machine_184 : decode cX5_machine 184 = .ok (.iastore, 1) := by decide +kernel
theorem dX5_machine_185 : decode cX5_machine 185 = .ok (.iinc 5 1, 3) := by decide +kernel
theorem dX5_machine_188 : decode cX5_machine 188 = .ok (.goto (-62), 3) := by decide +kernel
theorem dX5_machine_191 : decode cX5_machine 191 = .ok (.iinc 4 1, 3) := by decide +kernel
theorem dX5_machine_194 : decode cX5_machine 194 = .ok (.goto (-89), 3) := by decide +kernel
theorem dX5_machine_197 : decode cX5_machine 197 = .ok (.aload_n 0, 1) := by decide +kernel
theorem dX5_machine_198 : decode cX5_machine 198 = .ok (.dup, 1) := by decide +kernel
theorem dX5_machine_199 : decode cX5_machine 199 = .ok (.getfield 111, 3) := by decide +kernel
theorem dX5_machine_202 : decode cX5_machine 202 = .ok (.iconst 1, 1) := by decide +kernel
theorem dX5_machine_203 : decode cX5_machine 203 = .ok (.iadd, 1) := by decide +kernel
theorem dX5_machine_204 : decode cX5_machine 204 = .ok (.putfield 111, 3) := by decide +kernel
theorem dX5_machine_207 : decode cX5_machine 207 = .ok (.iload_n 3, 1) := by decide +kernel
theorem dX5_machine_208 : decode cX5_machine 208 = .ok (.ireturn, 1) := by decide +kernel
theorem dX5_is_0 : decode cX5_is 0 = .ok (.aload_n 0, 1) := by decide +kernel
theorem dX5_is_1 : decode cX5_is 1 = .ok (.iload_n 1, 1) := by decide +kernel
theorem dX5_is_2 : decode cX5_is 2 = .ok (.invokevirtual 114, 3) := by decide +kernel
theorem dX5_is_5 : decode cX5_is 5 = .ok (.ifCond .eq 15, 3) := by decide +kernel
theorem dX5_is_8 : decode cX5_is 8 = .ok (.iload_n 2, 1) := by decide +kernel
theorem dX5_is_9 : decode cX5_is 9 = .ok (.i2l, 1) := by decide +kernel
theorem dX5_is_10 : decode cX5_is 10 = .ok (.lconst 0, 1) := by decide +kernel
theorem dX5_is_11 : decode cX5_is 11 = .ok (.ldc2_w 94, 3) := by decide +kernel
theorem dX5_is_14 : decode cX5_is 14 = .ok (.invokestatic 81, 3) := by decide +kernel
theorem dX5_is_17 : decode cX5_is 17 = .ok (.ifCond .ne 5, 3) := by decide +kernel
theorem dX5_is_20 : decode cX5_is 20 = .ok (.iconst (-1), 1) := by decide +kernel
theorem dX5_is_21 : decode cX5_is 21 = .ok (.ireturn, 1) := by decide +kernel
theorem dX5_is_22 : decode cX5_is 22 = .ok (.aload_n 0, 1) := by decide +kernel
theorem dX5_is_23 : decode cX5_is 23 = .ok (.getfield 26, 3) := by decide +kernel
theorem dX5_is_26 : decode cX5_is 26 = .ok (.iload_n 1, 1) := by decide +kernel
theorem dX5_is_27 : decode cX5_is 27 = .ok (.iaload, 1) := by decide +kernel
theorem dX5_is_28 : decode cX5_is 28 = .ok (.istore_n 3, 1) := by decide +kernel
theorem dX5_is_29 : decode cX5_is 29 = .ok (.iload_n 2, 1) := by decide +kernel
theorem dX5_is_30 : decode cX5_is 30 = .ok (.ifCond .eq 18, 3) := by decide +kernel
theorem dX5_is_33 : decode cX5_is 33 = .ok (.iload_n 3, 1) := by decide +kernel
theorem dX5_is_34 : decode cX5_is 34 = .ok (.iload_n 2, 1) := by decide +kernel
theorem dX5_is_35 : decode cX5_is 35 = .ok (.if_icmp .eq 13, 3) := by decide +kernel
theorem dX5_is_38 : decode cX5_is 38 = .ok (.iload_n 2, 1) := by decide +kernel
theorem dX5_is_39 : decode cX5_is 39 = .ok (.iconst 2, 1) := by decide +kernel
theorem dX5_is_40 : decode cX5_is 40 = .ok (.if_icmp .ne 12, 3) := by decide +kernel
theorem dX5_is_43 : decode cX5_is 43 = .ok (.iload_n 3, 1) := by decide +kernel
theorem dX5_is_44 : decode cX5_is 44 = .ok (.iconst 3, 1) := by decide +kernel
theorem dX5_is_45 : decode cX5_is 45 = .ok (.if_icmp .ne 7, 3) := by decide +kernel
theorem dX5_is_48 : decode cX5_is 48 = .ok (.iconst 1, 1) := by decide +kernel
theorem dX5_is_49 : decode cX5_is 49 = .ok (.goto 4, 3) := by decide +kernel
theorem dX5_is_52 : decode cX5_is 52 = .ok (.iconst 0, 1) := by decide +kernel
theorem dX5_is_53 : decode cX5_is 53 = .ok (.ireturn, 1) := by decide +kernel
theorem dX5_told_0 : decode cX5_told 0 = .ok (.aload_n 0, 1) := by decide +kernel
theorem dX5_told_1 : decode cX5_told 1 = .ok (.iload_n 1, 1) := by decide +kernel
theorem dX5_told_2 : decode cX5_told 2 = .ok (.invokevirtual 114, 3) := by decide +kernel
theorem dX5_told_5 : decode cX5_told 5 = .ok (.ifCond .eq 15, 3) := by decide +kernel
theorem dX5_told_8 : decode cX5_told 8 = .ok (.iload_n 2, 1) := by decide +kernel
theorem dX5_told_9 : decode cX5_told 9 = .ok (.i2l, 1) := by decide +kernel
theorem dX5_told_10 : decode cX5_told 10 = .ok (.lconst 0, 1) := by decide +kernel
theorem dX5_told_11 : decode cX5_told 11 = .ok (.ldc2_w 87, 3) := by decide +kernel
theorem dX5_told_14 : decode cX5_told 14 = .ok (.invokestatic 81, 3) := by decide +kernel
theorem dX5_told_17 : decode cX5_told 17 = .ok (.ifCond .ne 7, 3) := by decide +kernel
theorem dX5_told_20 : decode cX5_told 20 = .ok (.iconst (-1), 1) := by decide +kernel
theorem dX5_told_21 : decode cX5_told 21 = .ok (.goto 36, 3) := by decide +kernel
theorem dX5_told_24 : decode cX5_told 24 = .ok (.iload_n 2, 1) := by decide +kernel
theorem dX5_told_25 : decode cX5_told 25 = .ok (.ifCond .ne 12, 3) := by decide +kernel
theorem dX5_told_28 : decode cX5_told 28 = .ok (.aload_n 0, 1) := by decide +kernel
theorem dX5_told_29 : decode cX5_told 29 = .ok (.getfield 26, 3) := by decide +kernel
theorem dX5_told_32 : decode cX5_told 32 = .ok (.iload_n 1, 1) := by decide +kernel
theorem dX5_told_33 : decode cX5_told 33 = .ok (.iaload, 1) := by decide +kernel
theorem dX5_told_34 : decode cX5_told 34 = .ok (.goto 23, 3) := by decide +kernel
theorem dX5_told_37 : decode cX5_told 37 = .ok (.iload_n 2, 1) := by decide +kernel
theorem dX5_told_38 : decode cX5_told 38 = .ok (.iconst 1, 1) := by decide +kernel
theorem dX5_told_39 : decode cX5_told 39 = .ok (.if_icmp .ne 12, 3) := by decide +kernel
theorem dX5_told_42 : decode cX5_told 42 = .ok (.aload_n 0, 1) := by decide +kernel
theorem dX5_told_43 : decode cX5_told 43 = .ok (.getfield 29, 3) := by decide +kernel
theorem dX5_told_46 : decode cX5_told 46 = .ok (.iload_n 1, 1) := by decide +kernel
theorem dX5_told_47 : decode cX5_told 47 = .ok (.iaload, 1) := by decide +kernel
theorem dX5_told_48 : decode cX5_told 48 = .ok (.goto 9, 3) := by decide +kernel
theorem dX5_told_51 : decode cX5_told 51 = .ok (.aload_n 0, 1) := by decide +kernel
theorem dX5_told_52 : decode cX5_told 52 = .ok (.getfield 32, 3) := by decide +kernel
theorem dX5_told_55 : decode cX5_told 55 = .ok (.iload_n 1, 1) := by decide +kernel
theorem dX5_told_56 : decode cX5_told 56 = .ok (.iaload, 1) := by decide +kernel
theorem dX5_told_57 : decode cX5_told 57 = .ok (.ireturn, 1) := by decide +kernel
theorem dX5_mayPay_0 : decode cX5_mayPay 0 = .ok (.aload_n 0, 1) := by decide +kernel
theorem dX5_mayPay_1 : decode cX5_mayPay 1 = .ok (.getfield 26, 3) := by decide +kernel
theorem dX5_mayPay_4 : decode cX5_mayPay 4 = .ok (.iload_n 1, 1) := by decide +kernel
theorem dX5_mayPay_5 : decode cX5_mayPay 5 = .ok (.iaload, 1) := by decide +kernel
theorem dX5_mayPay_6 : decode cX5_mayPay 6 = .ok (.iconst 3, 1) := by decide +kernel
theorem dX5_mayPay_7 : decode cX5_mayPay 7 = .ok (.if_icmp .ne 15, 3) := by decide +kernel
theorem dX5_mayPay_10 : decode cX5_mayPay 10 = .ok (.iload_n 2, 1) := by decide +kernel
theorem dX5_mayPay_11 : decode cX5_mayPay 11 = .ok (.aload_n 0, 1) := by decide +kernel
theorem dX5_mayPay_12 : decode cX5_mayPay 12 = .ok (.getfield 29, 3) := by decide +kernel
theorem dX5_mayPay_15 : decode cX5_mayPay 15 = .ok (.iload_n 1, 1) := by decide +kernel
theorem dX5_mayPay_16 : decode cX5_mayPay 16 = .ok (.iaload, 1) := by decide +kernel
theorem dX5_mayPay_17 : decode cX5_mayPay 17 = .ok (.iconst 2, 1) := by decide +kernel
theorem dX5_mayPay_18 : decode cX5_mayPay 18 = .ok (.isub, 1) := by decide +kernel
theorem dX5_mayPay_19 : decode cX5_mayPay 19 = .ok (.if_icmp .ne 7, 3) := by decide +kernel
theorem dX5_mayPay_22 : decode cX5_mayPay 22 = .ok (.iconst 1, 1) := by decide +kernel
theorem dX5_mayPay_23 : decode cX5_mayPay 23 = .ok (.goto 4, 3) := by decide +kernel
theorem dX5_mayPay_26 : decode cX5_mayPay 26 = .ok (.iconst 0, 1) := by decide +kernel
theorem dX5_mayPay_27 : decode cX5_mayPay 27 = .ok (.ireturn, 1) := by decide +kernel
theorem dX5_pay_0 : decode cX5_pay 0 = .ok (.aload_n 0, 1) := by decide +kernel
theorem dX5_pay_1 : decode cX5_pay 1 = .ok (.iload_n 1, 1) := by decide +kernel
theorem dX5_pay_2 : decode cX5_pay 2 = .ok (.invokevirtual 114, 3) := by decide +kernel
theorem dX5_pay_5 : decode cX5_pay 5 = .ok (.ifCond .eq 17, 3) := by decide +kernel
theorem dX5_pay_8 : decode cX5_pay 8 = .ok (.iload_n 3, 1) := by decide +kernel
theorem dX5_pay_9 : decode cX5_pay 9 = .ok (.i2l, 1) := by decide +kernel
theorem dX5_pay_10 : decode cX5_pay 10 = .ok (.ldc2_w 117, 3) := by decide +kernel
theorem dX5_pay_13 : decode cX5_pay 13 = .ok (.ldc2_w 119, 3) := by decide +kernel
theorem dX5_pay_16 : decode cX5_pay 16 = .ok (.invokestatic 81, 3) := by decide +kernel
theorem dX5_pay_19 : decode cX5_pay 19 = .ok (.ifCond .ne 5, 3) := by decide +kernel
theorem dX5_pay_22 : decode cX5_pay 22 = .ok (.iconst (-1), 1) := by decide +kernel
theorem dX5_pay_23 : decode cX5_pay 23 = .ok (.ireturn, 1) := by decide +kernel
theorem dX5_pay_24 : decode cX5_pay 24 = .ok (.aload_n 0, 1) := by decide +kernel
theorem dX5_pay_25 : decode cX5_pay 25 = .ok (.iload_n 1, 1) := by decide +kernel
theorem dX5_pay_26 : decode cX5_pay 26 = .ok (.iload_n 2, 1) := by decide +kernel
theorem dX5_pay_27 : decode cX5_pay 27 = .ok (.invokevirtual 121, 3) := by decide +kernel
theorem dX5_pay_30 : decode cX5_pay 30 = .ok (.ifCond .ne 9, 3) := by decide +kernel
theorem dX5_pay_33 : decode cX5_pay 33 = .ok (.aload_n 0, 1) := by decide +kernel
theorem dX5_pay_34 : decode cX5_pay 34 = .ok (.iconst 2, 1) := by decide +kernel
theorem dX5_pay_35 : decode cX5_pay 35 = .ok (.invokevirtual 96, 3) := by decide +kernel
theorem dX5_pay_38 : decode cX5_pay 38 = .ok (.ireturn, 1) := by decide +kernel
theorem dX5_pay_39 : decode cX5_pay 39 = .ok (.aload_n 0, 1) := by decide +kernel
theorem dX5_pay_40 : decode cX5_pay 40 = .ok (.iload_n 1, 1) := by decide +kernel
theorem dX5_pay_41 : decode cX5_pay 41 = .ok (.iload_n 2, 1) := by decide +kernel
theorem dX5_pay_42 : decode cX5_pay 42 = .ok (.invokevirtual 125, 3) := by decide +kernel
theorem dX5_pay_45 : decode cX5_pay 45 = .ok (.ifCond .ne 6, 3) := by decide +kernel
theorem dX5_pay_48 : decode cX5_pay 48 = .ok (.bipush (-4), 2) := by decide +kernel
theorem dX5_pay_50 : decode cX5_pay 50 = .ok (.ireturn, 1) := by decide +kernel
theorem dX5_pay_51 : decode cX5_pay 51 = .ok (.aload_n 0, 1) := by decide +kernel
theorem dX5_pay_52 : decode cX5_pay 52 = .ok (.getfield 35, 3) := by decide +kernel
theorem dX5_pay_55 : decode cX5_pay 55 = .ok (.iconst 5, 1) := by decide +kernel
theorem dX5_pay_56 : decode cX5_pay 56 = .ok (.iload_n 1, 1) := by decide +kernel
theorem dX5_pay_57 : decode cX5_pay 57 = .ok (.imul, 1) := by decide +kernel
theorem dX5_pay_58 : decode cX5_pay 58 = .ok (.iload_n 2, 1) := by decide +kernel
theorem dX5_pay_59 : decode cX5_pay 59 = .ok (.iadd, 1) := by decide +kernel
theorem dX5_pay_60 : decode cX5_pay 60 = .ok (.iaload, 1) := by decide +kernel
theorem dX5_pay_61 : decode cX5_pay 61 = .ok (.istore 4, 2) := by decide +kernel
theorem dX5_pay_63 : decode cX5_pay 63 = .ok (.aload_n 0, 1) := by decide +kernel
theorem dX5_pay_64 : decode cX5_pay 64 = .ok (.getfield 35, 3) := by decide +kernel
theorem dX5_pay_67 : decode cX5_pay 67 = .ok (.iconst 5, 1) := by decide +kernel
theorem dX5_pay_68 : decode cX5_pay 68 = .ok (.iload_n 1, 1) := by decide +kernel
theorem dX5_pay_69 : decode cX5_pay 69 = .ok (.imul, 1) := by decide +kernel
theorem dX5_pay_70 : decode cX5_pay 70 = .ok (.iload_n 2, 1) := by decide +kernel
theorem dX5_pay_71 : decode cX5_pay 71 = .ok (.iadd, 1) := by decide +kernel
theorem dX5_pay_72 : decode cX5_pay 72 = .ok (.iload_n 3, 1) := by decide +kernel
theorem dX5_pay_73 : decode cX5_pay 73 = .ok (.iastore, 1) := by decide +kernel
theorem dX5_pay_74 : decode cX5_pay 74 = .ok (.sipush 1000, 3) := by decide +kernel
theorem dX5_pay_77 : decode cX5_pay 77 = .ok (.iload 4, 2) := by decide +kernel
theorem dX5_pay_79 : decode cX5_pay 79 = .ok (.iadd, 1) := by decide +kernel
theorem dX5_pay_80 : decode cX5_pay 80 = .ok (.ireturn, 1) := by decide +kernel
theorem dX5_sum_0 : decode cX5_sum 0 = .ok (.iconst 0, 1) := by decide +kernel
theorem dX5_sum_1 : decode cX5_sum 1 = .ok (.istore_n 3, 1) := by decide +kernel
theorem dX5_sum_2 : decode cX5_sum 2 = .ok (.iconst 0, 1) := by decide +kernel
theorem dX5_sum_3 : decode cX5_sum 3 = .ok (.istore 4, 2) := by decide +kernel
theorem dX5_sum_5 : decode cX5_sum 5 = .ok (.iload 4, 2) := by decide +kernel
theorem dX5_sum_7 : decode cX5_sum 7 = .ok (.iconst 5, 1) := by decide +kernel
theorem dX5_sum_8 : decode cX5_sum 8 = .ok (.if_icmp .ge 28, 3) := by decide +kernel
theorem dX5_sum_11 : decode cX5_sum 11 = .ok (.iload_n 3, 1) := by decide +kernel
theorem dX5_sum_12 : decode cX5_sum 12 = .ok (.aload_n 0, 1) := by decide +kernel
theorem dX5_sum_13 : decode cX5_sum 13 = .ok (.getfield 38, 3) := by decide +kernel
theorem dX5_sum_16 : decode cX5_sum 16 = .ok (.bipush 25, 2) := by decide +kernel
theorem dX5_sum_18 : decode cX5_sum 18 = .ok (.iload_n 1, 1) := by decide +kernel
theorem dX5_sum_19 : decode cX5_sum 19 = .ok (.imul, 1) := by decide +kernel
theorem dX5_sum_20 : decode cX5_sum 20 = .ok (.iconst 5, 1) := by decide +kernel
theorem dX5_sum_21 : decode cX5_sum 21 = .ok (.iload_n 2, 1) := by decide +kernel
theorem dX5_sum_22 : decode cX5_sum 22 = .ok (.imul, 1) := by decide +kernel
theorem dX5_sum_23 : decode cX5_sum 23 = .ok (.iadd, 1) := by decide +kernel
theorem dX5_sum_24 : decode cX5_sum 24 = .ok (.iload 4, 2) := by decide +kernel
theorem dX5_sum_26 : decode cX5_sum 26 = .ok (.iadd, 1) := by decide +kernel
theorem dX5_sum_27 : decode cX5_sum 27 = .ok (.iaload, 1) := by decide +kernel
theorem dX5_sum_28 : decode cX5_sum 28 = .ok (.iadd, 1) := by decide +kernel
theorem dX5_sum_29 : decode cX5_sum 29 = .ok (.istore_n 3, 1) := by decide +kernel
theorem dX5_sum_30 : decode cX5_sum 30 = .ok (.iinc 4 1, 3) := by decide +kernel
theorem dX5_sum_33 : decode cX5_sum 33 = .ok (.goto (-28), 3) := by decide +kernel
theorem dX5_sum_36 : decode cX5_sum 36 = .ok (.iload_n 3, 1) := by decide +kernel
theorem dX5_sum_37 : decode cX5_sum 37 = .ok (.ireturn, 1) := by decide +kernel
theorem dX5_chance_0 : decode cX5_chance 0 = .ok (.aload_n 0, 1) := by decide +kernel
theorem dX5_chance_1 : decode cX5_chance 1 = .ok (.iload_n 1, 1) := by decide +kernel
theorem dX5_chance_2 : decode cX5_chance 2 = .ok (.invokevirtual 114, 3) := by decide +kernel
theorem dX5_chance_5 : decode cX5_chance 5 = .ok (.ifCond .eq 16, 3) := by decide +kernel
theorem dX5_chance_8 : decode cX5_chance 8 = .ok (.iload 4, 2) := by decide +kernel
theorem dX5_chance_10 : decode cX5_chance 10 = .ok (.i2l, 1) := by decide +kernel
theorem dX5_chance_11 : decode cX5_chance 11 = .ok (.lconst 0, 1) := by decide +kernel
theorem dX5_chance_12 : decode cX5_chance 12 = .ok (.ldc2_w 128, 3) := by decide +kernel
theorem dX5_chance_15 : decode cX5_chance 15 = .ok (.invokestatic 81, 3) := by decide +kernel
theorem dX5_chance_18 : decode cX5_chance 18 = .ok (.ifCond .ne 5, 3) := by decide +kernel
theorem dX5_chance_21 : decode cX5_chance 21 = .ok (.iconst (-1), 1) := by decide +kernel
theorem dX5_chance_22 : decode cX5_chance 22 = .ok (.ireturn, 1) := by decide +kernel
theorem dX5_chance_23 : decode cX5_chance 23 = .ok (.aload_n 0, 1) := by decide +kernel
theorem dX5_chance_24 : decode cX5_chance 24 = .ok (.iload_n 1, 1) := by decide +kernel
theorem dX5_chance_25 : decode cX5_chance 25 = .ok (.invokevirtual 130, 3) := by decide +kernel
theorem dX5_chance_28 : decode cX5_chance 28 = .ok (.ifCond .eq 9, 3) := by decide +kernel
theorem dX5_chance_31 : decode cX5_chance 31 = .ok (.aload_n 0, 1) := by decide +kernel
theorem dX5_chance_32 : decode cX5_chance 32 = .ok (.iconst 3, 1) := by decide +kernel
theorem dX5_chance_33 : decode cX5_chance 33 = .ok (.invokevirtual 96, 3) := by decide +kernel
theorem dX5_chance_36 : decode cX5_chance 36 = .ok (.ireturn, 1) := by decide +kernel
theorem dX5_chance_37 : decode cX5_chance 37 = .ok (.aload_n 0, 1) := by decide +kernel
theorem dX5_chance_38 : decode cX5_chance 38 = .ok (.iload_n 1, 1) := by decide +kernel
theorem dX5_chance_39 : decode cX5_chance 39 = .ok (.iload_n 2, 1) := by decide +kernel
theorem dX5_chance_40 : decode cX5_chance 40 = .ok (.invokevirtual 121, 3) := by decide +kernel
theorem dX5_chance_43 : decode cX5_chance 43 = .ok (.ifCond .eq 12, 3) := by decide +kernel
theorem dX5_chance_46 : decode cX5_chance 46 = .ok (.aload_n 0, 1) := by decide +kernel
theorem dX5_chance_47 : decode cX5_chance 47 = .ok (.iload_n 1, 1) := by decide +kernel
theorem dX5_chance_48 : decode cX5_chance 48 = .ok (.iload_n 3, 1) := by decide +kernel
theorem dX5_chance_49 : decode cX5_chance 49 = .ok (.invokevirtual 121, 3) := by decide +kernel
theorem dX5_chance_52 : decode cX5_chance 52 = .ok (.ifCond .ne 9, 3) := by decide +kernel
theorem dX5_chance_55 : decode cX5_chance 55 = .ok (.aload_n 0, 1) := by decide +kernel
theorem dX5_chance_56 : decode cX5_chance 56 = .ok (.iconst 2, 1) := by decide +kernel
theorem dX5_chance_57 : decode cX5_chance 57 = .ok (.invokevirtual 96, 3) := by decide +kernel
theorem dX5_chance_60 : decode cX5_chance 60 = .ok (.ireturn, 1) := by decide +kernel
theorem dX5_chance_61 : decode cX5_chance 61 = .ok (.bipush 25, 2) := by decide +kernel
theorem dX5_chance_63 : decode cX5_chance 63 = .ok (.iload_n 1, 1) := by decide +kernel
theorem dX5_chance_64 : decode cX5_chance 64 = .ok (.imul, 1) := by decide +kernel
theorem dX5_chance_65 : decode cX5_chance 65 = .ok (.iconst 5, 1) := by decide +kernel
theorem dX5_chance_66 : decode cX5_chance 66 = .ok (.iload_n 2, 1) := by decide +kernel
theorem dX5_chance_67 : decode cX5_chance 67 = .ok (.imul, 1) := by decide +kernel
theorem dX5_chance_68 : decode cX5_chance 68 = .ok (.iadd, 1) := by decide +kernel
theorem dX5_chance_69 : decode cX5_chance 69 = .ok (.iload_n 3, 1) := by decide +kernel
theorem dX5_chance_70 : decode cX5_chance 70 = .ok (.iadd, 1) := by decide +kernel
theorem dX5_chance_71 : decode cX5_chance 71 = .ok (.istore 5, 2) := by decide +kernel
theorem dX5_chance_73 : decode cX5_chance 73 = .ok (.aload_n 0, 1) := by decide +kernel
theorem dX5_chance_74 : decode cX5_chance 74 = .ok (.getfield 38, 3) := by decide +kernel
theorem dX5_chance_77 : decode cX5_chance 77 = .ok (.iload 5, 2) := by decide +kernel
theorem dX5_chance_79 : decode cX5_chance 79 = .ok (.iaload, 1) := by decide +kernel
theorem dX5_chance_80 : decode cX5_chance 80 = .ok (.istore 6, 2) := by decide +kernel
theorem dX5_chance_82 : decode cX5_chance 82 = .ok (.aload_n 0, 1) := by decide +kernel
theorem dX5_chance_83 : decode cX5_chance 83 = .ok (.iload_n 1, 1) := by decide +kernel
theorem dX5_chance_84 : decode cX5_chance 84 = .ok (.iload_n 2, 1) := by decide +kernel
theorem dX5_chance_85 : decode cX5_chance 85 = .ok (.invokevirtual 133, 3) := by decide +kernel
theorem dX5_chance_88 : decode cX5_chance 88 = .ok (.iload 6, 2) := by decide +kernel
theorem dX5_chance_90 : decode cX5_chance 90 = .ok (.isub, 1) := by decide +kernel
theorem dX5_chance_91 : decode cX5_chance 91 = .ok (.iload 4, 2) := by decide +kernel
theorem dX5_chance_93 : decode cX5_chance 93 = .ok (.iadd, 1) := by decide +kernel
theorem dX5_chance_94 : decode cX5_chance 94 = .ok (.i2l, 1) := by decide +kernel
theorem dX5_chance_95 : decode cX5_chance 95 = .ok (.lconst 1, 1) := by decide +kernel
theorem dX5_chance_96 : decode cX5_chance 96 = .ok (.ldc2_w 128, 3) := by decide +kernel
theorem dX5_chance_99 : decode cX5_chance 99 = .ok (.invokestatic 81, 3) := by decide +kernel
theorem dX5_chance_102 : decode cX5_chance 102 = .ok (.ifCond .ne 6, 3) := by decide +kernel
theorem dX5_chance_105 : decode cX5_chance 105 = .ok (.bipush (-4), 2) := by decide +kernel
theorem dX5_chance_107 : decode cX5_chance 107 = .ok (.ireturn, 1) := by decide +kernel
theorem dX5_chance_108 : decode cX5_chance 108 = .ok (.aload_n 0, 1) := by decide +kernel
theorem dX5_chance_109 : decode cX5_chance 109 = .ok (.getfield 38, 3) := by decide +kernel
theorem dX5_chance_112 : decode cX5_chance 112 = .ok (.iload 5, 2) := by decide +kernel
theorem dX5_chance_114 : decode cX5_chance 114 = .ok (.iload 4, 2) := by decide +kernel
theorem dX5_chance_116 : decode cX5_chance 116 = .ok (.iastore, 1) := by decide +kernel
theorem dX5_chance_117 : decode cX5_chance 117 = .ok (.iload 6, 2) := by decide +kernel
theorem dX5_chance_119 : decode cX5_chance 119 = .ok (.ireturn, 1) := by decide +kernel
theorem dX5_fill_0 : decode cX5_fill 0 = .ok (.aload_n 0, 1) := by decide +kernel
theorem dX5_fill_1 : decode cX5_fill 1 = .ok (.iload_n 1, 1) := by decide +kernel
theorem dX5_fill_2 : decode cX5_fill 2 = .ok (.invokevirtual 114, 3) := by decide +kernel
theorem dX5_fill_5 : decode cX5_fill 5 = .ok (.ifCond .eq 11, 3) := by decide +kernel
theorem dX5_fill_8 : decode cX5_fill 8 = .ok (.aload_n 0, 1) := by decide +kernel
theorem dX5_fill_9 : decode cX5_fill 9 = .ok (.iload_n 2, 1) := by decide +kernel
theorem dX5_fill_10 : decode cX5_fill 10 = .ok (.invokevirtual 100, 3) := by decide +kernel
theorem dX5_fill_13 : decode cX5_fill 13 = .ok (.ifCond .ne 5, 3) := by decide +kernel
theorem dX5_fill_16 : decode cX5_fill 16 = .ok (.iconst (-1), 1) := by decide +kernel
theorem dX5_fill_17 : decode cX5_fill 17 = .ok (.ireturn, 1) := by decide +kernel
theorem dX5_fill_18 : decode cX5_fill 18 = .ok (.aload_n 0, 1) := by decide +kernel
theorem dX5_fill_19 : decode cX5_fill 19 = .ok (.getfield 29, 3) := by decide +kernel
theorem dX5_fill_22 : decode cX5_fill 22 = .ok (.iload_n 1, 1) := by decide +kernel
theorem dX5_fill_23 : decode cX5_fill 23 = .ok (.iaload, 1) := by decide +kernel
theorem dX5_fill_24 : decode cX5_fill 24 = .ok (.istore 4, 2) := by decide +kernel
theorem dX5_fill_26 : decode cX5_fill 26 = .ok (.aload_n 0, 1) := by decide +kernel
theorem dX5_fill_27 : decode cX5_fill 27 = .ok (.getfield 16, 3) := by decide +kernel
theorem dX5_fill_30 : decode cX5_fill 30 = .ok (.iload_n 2, 1) := by decide +kernel
theorem dX5_fill_31 : decode cX5_fill 31 = .ok (.iaload, 1) := by decide +kernel
theorem dX5_fill_32 : decode cX5_fill 32 = .ok (.ifCond .ge 9, 3) := by decide +kernel
theorem dX5_fill_35 : decode cX5_fill 35 = .ok (.aload_n 0, 1) := by decide +kernel
theorem dX5_fill_36 : decode cX5_fill 36 = .ok (.iconst 1, 1) := by decide +kernel
theorem dX5_fill_37 : decode cX5_fill 37 = .ok (.invokevirtual 96, 3) := by decide +kernel
theorem dX5_fill_40 : decode cX5_fill 40 = .ok (.ireturn, 1) := by decide +kernel
theorem dX5_fill_41 : decode cX5_fill 41 = .ok (.iload_n 3, 1) := by decide +kernel
theorem dX5_fill_42 : decode cX5_fill 42 = .ok (.ifCond .lt 20, 3) := by decide +kernel
theorem dX5_fill_45 : decode cX5_fill 45 = .ok (.iload_n 3, 1) := by decide +kernel
theorem dX5_fill_46 : decode cX5_fill 46 = .ok (.i2l, 1) := by decide +kernel
theorem dX5_fill_47 : decode cX5_fill 47 = .ok (.iload 4, 2) := by decide +kernel
theorem dX5_fill_49 : decode cX5_fill 49 = .ok (.i2l, 1) := by decide +kernel
theorem dX5_fill_50 : decode cX5_fill 50 = .ok (.ladd, 1) := by decide +kernel
theorem dX5_fill_51 : decode cX5_fill 51 = .ok (.aload_n 0, 1) := by decide +kernel
theorem dX5_fill_52 : decode cX5_fill 52 = .ok (.getfield 16, 3) := by decide +kernel
theorem dX5_fill_55 : decode cX5_fill 55 = .ok (.iload_n 2, 1) := by decide +kernel
theorem dX5_fill_56 : decode cX5_fill 56 = .ok (.iaload, 1) := by decide +kernel
theorem dX5_fill_57 : decode cX5_fill 57 = .ok (.i2l, 1) := by decide +kernel
theorem dX5_fill_58 : decode cX5_fill 58 = .ok (.lcmp, 1) := by decide +kernel
theorem dX5_fill_59 : decode cX5_fill 59 = .ok (.ifCond .le 9, 3) := by decide +kernel
theorem dX5_fill_62 : decode cX5_fill 62 = .ok (.aload_n 0, 1) := by decide +kernel
theorem dX5_fill_63 : decode cX5_fill 63 = .ok (.iconst 2, 1) := by decide +kernel
theorem dX5_fill_64 : decode cX5_fill 64 = .ok (.invokevirtual 96, 3) := by decide +kernel
theorem dX5_fill_67 : decode cX5_fill 67 = .ok (.ireturn, 1) := by decide +kernel
theorem dX5_fill_68 : decode cX5_fill 68 = .ok (.iconst 0, 1) := by decide +kernel
theorem dX5_fill_69 : decode cX5_fill 69 = .ok (.istore 5, 2) := by decide +kernel
theorem dX5_fill_71 : decode cX5_fill 71 = .ok (.iload 5, 2) := by decide +kernel
theorem dX5_fill_73 : decode cX5_fill 73 = .ok (.iload 4, 2) := by decide +kernel
theorem dX5_fill_75 : decode cX5_fill 75 = .ok (.if_icmp .ge 59, 3) := by decide +kernel
theorem dX5_fill_78 : decode cX5_fill 78 = .ok (.aload_n 0, 1) := by decide +kernel
theorem dX5_fill_79 : decode cX5_fill 79 = .ok (.getfield 19, 3) := by decide +kernel
theorem dX5_fill_82 : decode cX5_fill 82 = .ok (.bipush 24, 2) := by decide +kernel
theorem dX5_fill_84 : decode cX5_fill 84 = .ok (.iload_n 2, 1) := by decide +kernel
theorem dX5_fill_85 : decode cX5_fill 85 = .ok (.imul, 1) := by decide +kernel
theorem dX5_fill_86 : decode cX5_fill 86 = .ok (.iload_n 3, 1) := by decide +kernel
theorem dX5_fill_87 : decode cX5_fill 87 = .ok (.iadd, 1) := by decide +kernel
theorem dX5_fill_88 : decode cX5_fill 88 = .ok (.iload 5, 2) := by decide +kernel
theorem dX5_fill_90 : decode cX5_fill 90 = .ok (.iadd, 1) := by decide +kernel
theorem dX5_fill_91 : decode cX5_fill 91 = .ok (.laload, 1) := by decide +kernel
theorem dX5_fill_92 : decode cX5_fill 92 = .ok (.lstore 6, 2) := by decide +kernel
theorem dX5_fill_94 : decode cX5_fill 94 = .ok (.lload 6, 2) := by decide +kernel
theorem dX5_fill_96 : decode cX5_fill 96 = .ok (.ldc2_w 117, 3) := by decide +kernel
theorem dX5_fill_99 : decode cX5_fill 99 = .ok (.ldc2_w 119, 3) := by decide +kernel
theorem dX5_fill_102 : decode cX5_fill 102 = .ok (.invokestatic 81, 3) := by decide +kernel
theorem dX5_fill_105 : decode cX5_fill 105 = .ok (.ifCond .eq 20, 3) := by decide +kernel
theorem dX5_fill_108 : decode cX5_fill 108 = .ok (.lload 6, 2) := by decide +kernel
theorem dX5_fill_110 : decode cX5_fill 110 = .ok (.lconst 0, 1) := by decide +kernel
theorem dX5_fill_111 : decode cX5_fill 111 = .ok (.lcmp, 1) := by decide +kernel
theorem dX5_fill_112 : decode cX5_fill 112 = .ok (.ifCond .eq 16, 3) := by decide +kernel
theorem dX5_fill_115 : decode cX5_fill 115 = .ok (.aload_n 0, 1) := by decide +kernel
theorem dX5_fill_116 : decode cX5_fill 116 = .ok (.iload_n 1, 1) := by decide +kernel
theorem dX5_fill_117 : decode cX5_fill 117 = .ok (.iload 5, 2) := by decide +kernel
theorem dX5_fill_119 : decode cX5_fill 119 = .ok (.invokevirtual 125, 3) := by decide +kernel
theorem dX5_fill_122 : decode cX5_fill 122 = .ok (.ifCond .ne 6, 3) := by decide +kernel
theorem dX5_fill_125 : decode cX5_fill 125 = .ok (.bipush (-4), 2) := by decide +kernel
theorem dX5_fill_127 : decode cX5_fill 127 = .ok (.ireturn, 1) := by decide +kernel
theorem dX5_fill_128 : decode cX5_fill 128 = .ok (.iinc 5 1, 3) := by decide +kernel
theorem dX5_fill_131 : decode cX5_fill 131 = .ok (.goto (-60), 3) := by decide +kernel
theorem dX5_fill_134 : decode cX5_fill 134 = .ok (.iconst 0, 1) := by decide +kernel
theorem dX5_fill_135 : decode cX5_fill 135 = .ok (.istore 5, 2) := by decide +kernel
theorem dX5_fill_137 : decode cX5_fill 137 = .ok (.iload 5, 2) := by decide +kernel
theorem dX5_fill_139 : decode cX5_fill 139 = .ok (.iload 4, 2) := by decide +kernel
theorem dX5_fill_141 : decode cX5_fill 141 = .ok (.if_icmp .ge 35, 3) := by decide +kernel
theorem dX5_fill_144 : decode cX5_fill 144 = .ok (.aload_n 0, 1) := by decide +kernel
theorem dX5_fill_145 : decode cX5_fill 145 = .ok (.getfield 35, 3) := by decide +kernel
theorem dX5_fill_148 : decode cX5_fill 148 = .ok (.iconst 5, 1) := by decide +kernel
theorem dX5_fill_149 : decode cX5_fill 149 = .ok (.iload_n 1, 1) := by decide +kernel
theorem dX5_fill_150 : decode cX5_fill 150 = .ok (.imul, 1) := by decide +kernel
theorem dX5_fill_151 : decode cX5_fill 151 = .ok (.iload 5, 2) := by decide +kernel
theorem dX5_fill_153 : decode cX5_fill 153 = .ok (.iadd, 1) := by decide +kernel
theorem dX5_fill_154 : decode cX5_fill 154 = .ok (.aload_n 0, 1) := by decide +kernel
theorem dX5_fill_155 : decode cX5_fill 155 = .ok (.getfield 19, 3) := by decide +kernel
theorem dX5_fill_158 : decode cX5_fill 158 = .ok (.bipush 24, 2) := by decide +kernel
theorem dX5_fill_160 : decode cX5_fill 160 = .ok (.iload_n 2, 1) := by decide +kernel
theorem dX5_fill_161 : decode cX5_fill 161 = .ok (.imul, 1) := by decide +kernel
theorem dX5_fill_162 : decode cX5_fill 162 = .ok (.iload_n 3, 1) := by decide +kernel
theorem dX5_fill_163 : decode cX5_fill 163 = .ok (.iadd, 1) := by decide +kernel
theorem dX5_fill_164 : decode cX5_fill 164 = .ok (.iload 5, 2) := by decide +kernel
theorem dX5_fill_166 : decode cX5_fill 166 = .ok (.iadd, 1) := by decide +kernel
theorem dX5_fill_167 : decode cX5_fill 167 = .ok (.laload, 1) := by decide +kernel
theorem dX5_fill_168 : decode cX5_fill 168 = .ok (.l2i, 1) := by decide +kernel
theorem dX5_fill_169 : decode cX5_fill 169 = .ok (.iastore, 1) := by decide +kernel
theorem dX5_fill_170 : decode cX5_fill 170 = .ok (.iinc 5 1, 3) := by decide +kernel
theorem dX5_fill_173 : decode cX5_fill 173 = .ok (.goto (-36), 3) := by decide +kernel
theorem dX5_fill_176 : decode cX5_fill 176 = .ok (.iload 4, 2) := by decide +kernel
theorem dX5_fill_178 : decode cX5_fill 178 = .ok (.ireturn, 1) := by decide +kernel
theorem dX5_ask_0 : decode cX5_ask 0 = .ok (.aload_n 0, 1) := by decide +kernel
theorem dX5_ask_1 : decode cX5_ask 1 = .ok (.iload_n 1, 1) := by decide +kernel
theorem dX5_ask_2 : decode cX5_ask 2 = .ok (.invokevirtual 114, 3) := by decide +kernel
theorem dX5_ask_5 : decode cX5_ask 5 = .ok (.ifCond .ne 5, 3) := by decide +kernel
theorem dX5_ask_8 : decode cX5_ask 8 = .ok (.iconst (-1), 1) := by decide +kernel
theorem dX5_ask_9 : decode cX5_ask 9 = .ok (.ireturn, 1) := by decide +kernel
theorem dX5_ask_10 : decode cX5_ask 10 = .ok (.aload_n 0, 1) := by decide +kernel
theorem dX5_ask_11 : decode cX5_ask 11 = .ok (.iload_n 1, 1) := by decide +kernel
theorem dX5_ask_12 : decode cX5_ask 12 = .ok (.iload_n 2, 1) := by decide +kernel
theorem dX5_ask_13 : decode cX5_ask 13 = .ok (.invokevirtual 121, 3) := by decide +kernel
theorem dX5_ask_16 : decode cX5_ask 16 = .ok (.ifCond .ne 9, 3) := by decide +kernel
theorem dX5_ask_19 : decode cX5_ask 19 = .ok (.aload_n 0, 1) := by decide +kernel
theorem dX5_ask_20 : decode cX5_ask 20 = .ok (.iconst 2, 1) := by decide +kernel
theorem dX5_ask_21 : decode cX5_ask 21 = .ok (.invokevirtual 96, 3) := by decide +kernel
theorem dX5_ask_24 : decode cX5_ask 24 = .ok (.ireturn, 1) := by decide +kernel
theorem dX5_ask_25 : decode cX5_ask 25 = .ok (.iload_n 3, 1) := by decide +kernel
theorem dX5_ask_26 : decode cX5_ask 26 = .ok (.i2l, 1) := by decide +kernel
theorem dX5_ask_27 : decode cX5_ask 27 = .ok (.lconst 0, 1) := by decide +kernel
theorem dX5_ask_28 : decode cX5_ask 28 = .ok (.aload_n 0, 1) := by decide +kernel
theorem dX5_ask_29 : decode cX5_ask 29 = .ok (.getfield 29, 3) := by decide +kernel
theorem dX5_ask_32 : decode cX5_ask 32 = .ok (.iload_n 1, 1) := by decide +kernel
theorem dX5_ask_33 : decode cX5_ask 33 = .ok (.iaload, 1) := by decide +kernel
theorem dX5_ask_34 : decode cX5_ask 34 = .ok (.i2l, 1) := by decide +kernel
theorem dX5_ask_35 : decode cX5_ask 35 = .ok (.invokestatic 81, 3) := by decide +kernel
theorem dX5_ask_38 : decode cX5_ask 38 = .ok (.ifCond .ne 5, 3) := by decide +kernel
theorem dX5_ask_41 : decode cX5_ask 41 = .ok (.iconst (-1), 1) := by decide +kernel
theorem dX5_ask_42 : decode cX5_ask 42 = .ok (.ireturn, 1) := by decide +kernel
theorem dX5_ask_43 : decode cX5_ask 43 = .ok (.aload_n 0, 1) := by decide +kernel
theorem dX5_ask_44 : decode cX5_ask 44 = .ok (.iload_n 3, 1) := by decide +kernel
theorem dX5_ask_45 : decode cX5_ask 45 = .ok (.ifCond .ne 17, 3) := by decide +kernel
theorem dX5_ask_48 : decode cX5_ask 48 = .ok (.aload_n 0, 1) := by decide +kernel
theorem dX5_ask_49 : decode cX5_ask 49 = .ok (.getfield 35, 3) := by decide +kernel
theorem dX5_ask_52 : decode cX5_ask 52 = .ok (.iconst 5, 1) := by decide +kernel
theorem dX5_ask_53 : decode cX5_ask 53 = .ok (.iload_n 1, 1) := by decide +kernel
theorem dX5_ask_54 : decode cX5_ask 54 = .ok (.imul, 1) := by decide +kernel
theorem dX5_ask_55 : decode cX5_ask 55 = .ok (.iload_n 2, 1) := by decide +kernel
theorem dX5_ask_56 : decode cX5_ask 56 = .ok (.iadd, 1) := by decide +kernel
theorem dX5_ask_57 : decode cX5_ask 57 = .ok (.iaload, 1) := by decide +kernel
theorem dX5_ask_58 : decode cX5_ask 58 = .ok (.i2l, 1) := by decide +kernel
theorem dX5_ask_59 : decode cX5_ask 59 = .ok (.goto 21, 3) := by decide +kernel
theorem dX5_ask_62 : decode cX5_ask 62 = .ok (.aload_n 0, 1) := by decide +kernel
theorem dX5_ask_63 : decode cX5_ask 63 = .ok (.getfield 38, 3) := by decide +kernel
theorem dX5_ask_66 : decode cX5_ask 66 = .ok (.bipush 25, 2) := by decide +kernel
theorem dX5_ask_68 : decode cX5_ask 68 = .ok (.iload_n 1, 1) := by decide +kernel
theorem dX5_ask_69 : decode cX5_ask 69 = .ok (.imul, 1) := by decide +kernel
theorem dX5_ask_70 : decode cX5_ask 70 = .ok (.iconst 5, 1) := by decide +kernel
theorem dX5_ask_71 : decode cX5_ask 71 = .ok (.iload_n 2, 1) := by decide +kernel
theorem dX5_ask_72 : decode cX5_ask 72 = .ok (.imul, 1) := by decide +kernel
theorem dX5_ask_73 : decode cX5_ask 73 = .ok (.iadd, 1) := by decide +kernel
theorem dX5_ask_74 : decode cX5_ask 74 = .ok (.iload_n 3, 1) := by decide +kernel
theorem dX5_ask_75 : decode cX5_ask 75 = .ok (.iadd, 1) := by decide +kernel
theorem dX5_ask_76 : decode cX5_ask 76 = .ok (.iconst 1, 1) := by decide +kernel
theorem dX5_ask_77 : decode cX5_ask 77 = .ok (.isub, 1) := by decide +kernel
theorem dX5_ask_78 : decode cX5_ask 78 = .ok (.iaload, 1) := by decide +kernel
theorem dX5_ask_79 : decode cX5_ask 79 = .ok (.i2l, 1) := by decide +kernel
theorem dX5_ask_80 : decode cX5_ask 80 = .ok (.putfield 108, 3) := by decide +kernel
theorem dX5_ask_83 : decode cX5_ask 83 = .ok (.iconst 1, 1) := by decide +kernel
theorem dX5_ask_84 : decode cX5_ask 84 = .ok (.ireturn, 1) := by decide +kernel
theorem dX5_asked_0 : decode cX5_asked 0 = .ok (.aload_n 0, 1) := by decide +kernel
theorem dX5_asked_1 : decode cX5_asked 1 = .ok (.getfield 108, 3) := by decide +kernel
theorem dX5_asked_4 : decode cX5_asked 4 = .ok (.lreturn, 1) := by decide +kernel
theorem dX5_stand_0 : decode cX5_stand 0 = .ok (.aload_n 0, 1) := by decide +kernel
theorem dX5_stand_1 : decode cX5_stand 1 = .ok (.iload_n 1, 1) := by decide +kernel
theorem dX5_stand_2 : decode cX5_stand 2 = .ok (.invokevirtual 114, 3) := by decide +kernel
theorem dX5_stand_5 : decode cX5_stand 5 = .ok (.ifCond .ne 5, 3) := by decide +kernel
theorem dX5_stand_8 : decode cX5_stand 8 = .ok (.iconst (-1), 1) := by decide +kernel
theorem dX5_stand_9 : decode cX5_stand 9 = .ok (.ireturn, 1) := by decide +kernel
theorem dX5_stand_10 : decode cX5_stand 10 = .ok (.aload_n 0, 1) := by decide +kernel
theorem dX5_stand_11 : decode cX5_stand 11 = .ok (.iload_n 1, 1) := by decide +kernel
theorem dX5_stand_12 : decode cX5_stand 12 = .ok (.iload_n 2, 1) := by decide +kernel
theorem dX5_stand_13 : decode cX5_stand 13 = .ok (.invokevirtual 121, 3) := by decide +kernel
theorem dX5_stand_16 : decode cX5_stand 16 = .ok (.ifCond .ne 9, 3) := by decide +kernel
theorem dX5_stand_19 : decode cX5_stand 19 = .ok (.aload_n 0, 1) := by decide +kernel
theorem dX5_stand_20 : decode cX5_stand 20 = .ok (.iconst 2, 1) := by decide +kernel
theorem dX5_stand_21 : decode cX5_stand 21 = .ok (.invokevirtual 96, 3) := by decide +kernel
theorem dX5_stand_24 : decode cX5_stand 24 = .ok (.ireturn, 1) := by decide +kernel
theorem dX5_stand_25 : decode cX5_stand 25 = .ok (.aload_n 0, 1) := by decide +kernel
theorem dX5_stand_26 : decode cX5_stand 26 = .ok (.getfield 32, 3) := by decide +kernel
theorem dX5_stand_29 : decode cX5_stand 29 = .ok (.iload_n 1, 1) := by decide +kernel
theorem dX5_stand_30 : decode cX5_stand 30 = .ok (.iaload, 1) := by decide +kernel
theorem dX5_stand_31 : decode cX5_stand 31 = .ok (.istore_n 3, 1) := by decide +kernel
theorem dX5_stand_32 : decode cX5_stand 32 = .ok (.aload_n 0, 1) := by decide +kernel
theorem dX5_stand_33 : decode cX5_stand 33 = .ok (.getfield 32, 3) := by decide +kernel
theorem dX5_stand_36 : decode cX5_stand 36 = .ok (.iload_n 1, 1) := by decide +kernel
theorem dX5_stand_37 : decode cX5_stand 37 = .ok (.iload_n 2, 1) := by decide +kernel
theorem dX5_stand_38 : decode cX5_stand 38 = .ok (.iastore, 1) := by decide +kernel
theorem dX5_stand_39 : decode cX5_stand 39 = .ok (.iload_n 3, 1) := by decide +kernel
theorem dX5_stand_40 : decode cX5_stand 40 = .ok (.ireturn, 1) := by decide +kernel
theorem dX5_gcd_0 : decode cX5_gcd 0 = .ok (.lload_n 0, 1) := by decide +kernel
theorem dX5_gcd_1 : decode cX5_gcd 1 = .ok (.lconst 0, 1) := by decide +kernel
theorem dX5_gcd_2 : decode cX5_gcd 2 = .ok (.lcmp, 1) := by decide +kernel
theorem dX5_gcd_3 : decode cX5_gcd 3 = .ok (.ifCond .ge 8, 3) := by decide +kernel
theorem dX5_gcd_6 : decode cX5_gcd 6 = .ok (.lload_n 0, 1) := by decide +kernel
theorem dX5_gcd_7 : decode cX5_gcd 7 = .ok (.lneg, 1) := by decide +kernel
theorem dX5_gcd_8 : decode cX5_gcd 8 = .ok (.goto 4, 3) := by decide +kernel
theorem dX5_gcd_11 : decode cX5_gcd 11 = .ok (.lload_n 0, 1) := by decide +kernel
theorem dX5_gcd_12 : decode cX5_gcd 12 = .ok (.lstore 4, 2) := by decide +kernel
theorem dX5_gcd_14 : decode cX5_gcd 14 = .ok (.lload_n 2, 1) := by decide +kernel
theorem dX5_gcd_15 : decode cX5_gcd 15 = .ok (.lstore 6, 2) := by decide +kernel
theorem dX5_gcd_17 : decode cX5_gcd 17 = .ok (.lload 6, 2) := by decide +kernel
theorem dX5_gcd_19 : decode cX5_gcd 19 = .ok (.lconst 0, 1) := by decide +kernel
theorem dX5_gcd_20 : decode cX5_gcd 20 = .ok (.lcmp, 1) := by decide +kernel
theorem dX5_gcd_21 : decode cX5_gcd 21 = .ok (.ifCond .eq 21, 3) := by decide +kernel
theorem dX5_gcd_24 : decode cX5_gcd 24 = .ok (.lload 4, 2) := by decide +kernel
theorem dX5_gcd_26 : decode cX5_gcd 26 = .ok (.lload 6, 2) := by decide +kernel
theorem dX5_gcd_28 : decode cX5_gcd 28 = .ok (.lrem, 1) := by decide +kernel
theorem dX5_gcd_29 : decode cX5_gcd 29 = .ok (.lstore 8, 2) := by decide +kernel
theorem dX5_gcd_31 : decode cX5_gcd 31 = .ok (.lload 6, 2) := by decide +kernel
theorem dX5_gcd_33 : decode cX5_gcd 33 = .ok (.lstore 4, 2) := by decide +kernel
theorem dX5_gcd_35 : decode cX5_gcd 35 = .ok (.lload 8, 2) := by decide +kernel
theorem dX5_gcd_37 : decode cX5_gcd 37 = .ok (.lstore 6, 2) := by decide +kernel
theorem dX5_gcd_39 : decode cX5_gcd 39 = .ok (.goto (-22), 3) := by decide +kernel
theorem dX5_gcd_42 : decode cX5_gcd 42 = .ok (.lload 4, 2) := by decide +kernel
theorem dX5_gcd_44 : decode cX5_gcd 44 = .ok (.lreturn, 1) := by decide +kernel
theorem dX5_fraction_0 : decode cX5_fraction 0 = .ok (.lload_n 1, 1) := by decide +kernel
theorem dX5_fraction_1 : decode cX5_fraction 1 = .ok (.lload_n 3, 1) := by decide +kernel
theorem dX5_fraction_2 : decode cX5_fraction 2 = .ok (.invokestatic 136, 3) := by decide +kernel
theorem dX5_fraction_5 : decode cX5_fraction 5 = .ok (.lstore 5, 2) := by decide +kernel
theorem dX5_fraction_7 : decode cX5_fraction 7 = .ok (.aload_n 0, 1) := by decide +kernel
theorem dX5_fraction_8 : decode cX5_fraction 8 = .ok (.lload_n 1, 1) := by decide +kernel
theorem dX5_fraction_9 : decode cX5_fraction 9 = .ok (.lload 5, 2) := by decide +kernel
theorem dX5_fraction_11 : decode cX5_fraction 11 = .ok (.ldiv, 1) := by decide +kernel
theorem dX5_fraction_12 : decode cX5_fraction 12 = .ok (.putfield 140, 3) := by decide +kernel
theorem dX5_fraction_15 : decode cX5_fraction 15 = .ok (.aload_n 0, 1) := by decide +kernel
theorem dX5_fraction_16 : decode cX5_fraction 16 = .ok (.lload_n 3, 1) := by decide +kernel
theorem dX5_fraction_17 : decode cX5_fraction 17 = .ok (.lload 5, 2) := by decide +kernel
theorem dX5_fraction_19 : decode cX5_fraction 19 = .ok (.ldiv, 1) := by decide +kernel
theorem dX5_fraction_20 : decode cX5_fraction 20 = .ok (.putfield 143, 3) := by decide +kernel
theorem dX5_fraction_23 : decode cX5_fraction 23 = .ok (.return_, 1) := by decide +kernel
theorem dX5_tells_0 : decode cX5_tells 0 = .ok (.aload_n 0, 1) := by decide +kernel
theorem dX5_tells_1 : decode cX5_tells 1 = .ok (.aload_n 0, 1) := by decide +kernel
theorem dX5_tells_2 : decode cX5_tells 2 = .ok (.getfield 140, 3) := by decide +kernel
theorem dX5_tells_5 : decode cX5_tells 5 = .ok (.putfield 146, 3) := by decide +kernel
theorem dX5_tells_8 : decode cX5_tells 8 = .ok (.aload_n 0, 1) := by decide +kernel
theorem dX5_tells_9 : decode cX5_tells 9 = .ok (.aload_n 0, 1) := by decide +kernel
theorem dX5_tells_10 : decode cX5_tells 10 = .ok (.getfield 143, 3) := by decide +kernel
theorem dX5_tells_13 : decode cX5_tells 13 = .ok (.putfield 72, 3) := by decide +kernel
theorem dX5_tells_16 : decode cX5_tells 16 = .ok (.iconst 1, 1) := by decide +kernel
theorem dX5_tells_17 : decode cX5_tells 17 = .ok (.ireturn, 1) := by decide +kernel
theorem dX5_upper_0 : decode cX5_upper 0 = .ok (.aload_n 0, 1) := by decide +kernel
theorem dX5_upper_1 : decode cX5_upper 1 = .ok (.getfield 146, 3) := by decide +kernel
theorem dX5_upper_4 : decode cX5_upper 4 = .ok (.lreturn, 1) := by decide +kernel
theorem dX5_lower_0 : decode cX5_lower 0 = .ok (.aload_n 0, 1) := by decide +kernel
theorem dX5_lower_1 : decode cX5_lower 1 = .ok (.getfield 72, 3) := by decide +kernel
theorem dX5_lower_4 : decode cX5_lower 4 = .ok (.lreturn, 1) := by decide +kernel
theorem dX5_cutDown_0 : decode cX5_cutDown 0 = .ok (.lload_n 0, 1) := by decide +kernel
theorem dX5_cutDown_1 : decode cX5_cutDown 1 = .ok (.lload_n 2, 1) := by decide +kernel
theorem dX5_cutDown_2 : decode cX5_cutDown 2 = .ok (.ldiv, 1) := by decide +kernel
theorem dX5_cutDown_3 : decode cX5_cutDown 3 = .ok (.lstore 4, 2) := by decide +kernel
theorem dX5_cutDown_5 : decode cX5_cutDown 5 = .ok (.lload_n 0, 1) := by decide +kernel
theorem dX5_cutDown_6 : decode cX5_cutDown 6 = .ok (.lload_n 2, 1) := by decide +kernel
theorem dX5_cutDown_7 : decode cX5_cutDown 7 = .ok (.lrem, 1) := by decide +kernel
theorem dX5_cutDown_8 : decode cX5_cutDown 8 = .ok (.lconst 0, 1) := by decide +kernel
theorem dX5_cutDown_9 : decode cX5_cutDown 9 = .ok (.lcmp, 1) := by decide +kernel
theorem dX5_cutDown_10 : decode cX5_cutDown 10 = .ok (.ifCond .ge 10, 3) := by decide +kernel
theorem dX5_cutDown_13 : decode cX5_cutDown 13 = .ok (.lload 4, 2) := by decide +kernel
theorem dX5_cutDown_15 : decode cX5_cutDown 15 = .ok (.lconst 1, 1) := by decide +kernel
theorem dX5_cutDown_16 : decode cX5_cutDown 16 = .ok (.lsub, 1) := by decide +kernel
theorem dX5_cutDown_17 : decode cX5_cutDown 17 = .ok (.goto 5, 3) := by decide +kernel
theorem dX5_cutDown_20 : decode cX5_cutDown 20 = .ok (.lload 4, 2) := by decide +kernel
theorem dX5_cutDown_22 : decode cX5_cutDown 22 = .ok (.lreturn, 1) := by decide +kernel
theorem dX5_compared_0 : decode cX5_compared 0 = .ok (.lload_n 0, 1) := by decide +kernel
theorem dX5_compared_1 : decode cX5_compared 1 = .ok (.lstore 8, 2) := by decide +kernel
theorem dX5_compared_3 : decode cX5_compared 3 = .ok (.lload_n 2, 1) := by decide +kernel
theorem dX5_compared_4 : decode cX5_compared 4 = .ok (.lstore 10, 2) := by decide +kernel
theorem dX5_compared_6 : decode cX5_compared 6 = .ok (.lload 4, 2) := by decide +kernel
theorem dX5_compared_8 : decode cX5_compared 8 = .ok (.lstore 12, 2) := by decide +kernel
theorem dX5_compared_10 : decode cX5_compared 10 = .ok (.lload 6, 2) := by decide +kernel
theorem dX5_compared_12 : decode cX5_compared 12 = .ok (.lstore 14, 2) := by decide +kernel
theorem dX5_compared_14 : decode cX5_compared 14 = .ok (.iconst 1, 1) := by decide +kernel
theorem dX5_compared_15 : decode cX5_compared 15 = .ok (.istore 16, 2) := by decide +kernel
theorem dX5_compared_17 : decode cX5_compared 17 = .ok (.lload 8, 2) := by decide +kernel
theorem dX5_compared_19 : decode cX5_compared 19 = .ok (.lload 10, 2) := by decide +kernel
theorem dX5_compared_21 : decode cX5_compared 21 = .ok (.invokestatic 149, 3) := by decide +kernel
theorem dX5_compared_24 : decode cX5_compared 24 = .ok (.lstore 17, 2) := by decide +kernel
theorem dX5_compared_26 : decode cX5_compared 26 = .ok (.lload 12, 2) := by decide +kernel
theorem dX5_compared_28 : decode cX5_compared 28 = .ok (.lload 14, 2) := by decide +kernel
theorem dX5_compared_30 : decode cX5_compared 30 = .ok (.invokestatic 149, 3) := by decide +kernel
theorem dX5_compared_33 : decode cX5_compared 33 = .ok (.lstore 19, 2) := by decide +kernel
theorem dX5_compared_35 : decode cX5_compared 35 = .ok (.lload 17, 2) := by decide +kernel
theorem dX5_compared_37 : decode cX5_compared 37 = .ok (.lload 19, 2) := by decide +kernel
theorem dX5_compared_39 : decode cX5_compared 39 = .ok (.lcmp, 1) := by decide +kernel
theorem dX5_compared_40 : decode cX5_compared 40 = .ok (.ifCond .eq 20, 3) := by decide +kernel
theorem dX5_compared_43 : decode cX5_compared 43 = .ok (.lload 17, 2) := by decide +kernel
theorem dX5_compared_45 : decode cX5_compared 45 = .ok (.lload 19, 2) := by decide +kernel
theorem dX5_compared_47 : decode cX5_compared 47 = .ok (.lcmp, 1) := by decide +kernel
theorem dX5_compared_48 : decode cX5_compared 48 = .ok (.ifCond .le 8, 3) := by decide +kernel
theorem dX5_compared_51 : decode cX5_compared 51 = .ok (.iload 16, 2) := by decide +kernel
theorem dX5_compared_53 : decode cX5_compared 53 = .ok (.goto 6, 3) := by decide +kernel
theorem dX5_compared_56 : decode cX5_compared 56 = .ok (.iload 16, 2) := by decide +kernel
theorem dX5_compared_58 : decode cX5_compared 58 = .ok (.ineg, 1) := by decide +kernel
theorem dX5_compared_59 : decode cX5_compared 59 = .ok (.ireturn, 1) := by decide +kernel
theorem dX5_compared_60 : decode cX5_compared 60 = .ok (.lload 8, 2) := by decide +kernel
theorem dX5_compared_62 : decode cX5_compared 62 = .ok (.lload 17, 2) := by decide +kernel
theorem dX5_compared_64 : decode cX5_compared 64 = .ok (.lload 10, 2) := by decide +kernel
theorem dX5_compared_66 : decode cX5_compared 66 = .ok (.lmul, 1) := by decide +kernel
theorem dX5_compared_67 : decode cX5_compared 67 = .ok (.lsub, 1) := by decide +kernel
theorem dX5_compared_68 : decode cX5_compared 68 = .ok (.lstore 21, 2) := by decide +kernel
theorem dX5_compared_70 : decode cX5_compared 70 = .ok (.lload 12, 2) := by decide +kernel
theorem dX5_compared_72 : decode cX5_compared 72 = .ok (.lload 19, 2) := by decide +kernel
theorem dX5_compared_74 : decode cX5_compared 74 = .ok (.lload 14, 2) := by decide +kernel
theorem dX5_compared_76 : decode cX5_compared 76 = .ok (.lmul, 1) := by decide +kernel
theorem dX5_compared_77 : decode cX5_compared 77 = .ok (.lsub, 1) := by decide +kernel
theorem dX5_compared_78 : decode cX5_compared 78 = .ok (.lstore 23, 2) := by decide +kernel
theorem dX5_compared_80 : decode cX5_compared 80 = .ok (.lload 21, 2) := by decide +kernel
theorem dX5_compared_82 : decode cX5_compared 82 = .ok (.lconst 0, 1) := by decide +kernel
theorem dX5_compared_83 : decode cX5_compared 83 = .ok (.lcmp, 1) := by decide +kernel
theorem dX5_compared_84 : decode cX5_compared 84 = .ok (.ifCond .eq 10, 3) := by decide +kernel
theorem dX5_compared_87 : decode cX5_compared 87 = .ok (.lload 23, 2) := by decide +kernel
theorem dX5_compared_89 : decode cX5_compared 89 = .ok (.lconst 0, 1) := by decide +kernel
theorem dX5_compared_90 : decode cX5_compared 90 = .ok (.lcmp, 1) := by decide +kernel
theorem dX5_compared_91 : decode cX5_compared 91 = .ok (.ifCond .ne 31, 3) := by decide +kernel
theorem dX5_compared_94 : decode cX5_compared 94 = .ok (.lload 21, 2) := by decide +kernel
theorem dX5_compared_96 : decode cX5_compared 96 = .ok (.lload 23, 2) := by decide +kernel
theorem dX5_compared_98 : decode cX5_compared 98 = .ok (.lcmp, 1) := by decide +kernel
theorem dX5_compared_99 : decode cX5_compared 99 = .ok (.ifCond .ne 7, 3) := by decide +kernel
theorem dX5_compared_102 : decode cX5_compared 102 = .ok (.iconst 0, 1) := by decide +kernel
theorem dX5_compared_103 : decode cX5_compared 103 = .ok (.goto 18, 3) := by decide +kernel
theorem dX5_compared_106 : decode cX5_compared 106 = .ok (.lload 21, 2) := by decide +kernel
theorem dX5_compared_108 : decode cX5_compared 108 = .ok (.lconst 0, 1) := by decide +kernel
theorem dX5_compared_109 : decode cX5_compared 109 = .ok (.lcmp, 1) := by decide +kernel
theorem dX5_compared_110 : decode cX5_compared 110 = .ok (.ifCond .ne 9, 3) := by decide +kernel
theorem dX5_compared_113 : decode cX5_compared 113 = .ok (.iload 16, 2) := by decide +kernel
theorem dX5_compared_115 : decode cX5_compared 115 = .ok (.ineg, 1) := by decide +kernel
theorem dX5_compared_116 : decode cX5_compared 116 = .ok (.goto 5, 3) := by decide +kernel
theorem dX5_compared_119 : decode cX5_compared 119 = .ok (.iload 16, 2) := by decide +kernel
theorem dX5_compared_121 : decode cX5_compared 121 = .ok (.ireturn, 1) := by decide +kernel
theorem dX5_compared_122 : decode cX5_compared 122 = .ok (.lload 10, 2) := by decide +kernel
theorem dX5_compared_124 : decode cX5_compared 124 = .ok (.lstore 8, 2) := by decide +kernel
theorem dX5_compared_126 : decode cX5_compared 126 = .ok (.lload 21, 2) := by decide +kernel
theorem dX5_compared_128 : decode cX5_compared 128 = .ok (.lstore 10, 2) := by decide +kernel
theorem dX5_compared_130 : decode cX5_compared 130 = .ok (.lload 14, 2) := by decide +kernel
theorem dX5_compared_132 : decode cX5_compared 132 = .ok (.lstore 12, 2) := by decide +kernel
theorem dX5_compared_134 : decode cX5_compared 134 = .ok (.lload 23, 2) := by decide +kernel
theorem dX5_compared_136 : decode cX5_compared 136 = .ok (.lstore 14, 2) := by decide +kernel
theorem dX5_compared_138 : decode cX5_compared 138 = .ok (.iload 16, 2) := by decide +kernel
theorem dX5_compared_140 : decode cX5_compared 140 = .ok (.ineg, 1) := by decide +kernel
theorem dX5_compared_141 : decode cX5_compared 141 = .ok (.istore 16, 2) := by decide +kernel
theorem dX5_compared_143 : decode cX5_compared 143 = .ok (.goto (-126), 3) := by decide +kernel
theorem dX5_determinant_0 : decode cX5_determinant 0 = .ok (.iconst 0, 1) := by decide +kernel
theorem dX5_determinant_1 : decode cX5_determinant 1 = .ok (.istore_n 2, 1) := by decide +kernel
theorem dX5_determinant_2 : decode cX5_determinant 2 = .ok (.iload_n 2, 1) := by decide +kernel
theorem dX5_determinant_3 : decode cX5_determinant 3 = .ok (.bipush 32, 2) := by decide +kernel
theorem dX5_determinant_5 : decode cX5_determinant 5 = .ok (.if_icmp .ge 16, 3) := by decide +kernel
theorem dX5_determinant_8 : decode cX5_determinant 8 = .ok (.aload_n 0, 1) := by decide +kernel
theorem dX5_determinant_9 : decode cX5_determinant 9 = .ok (.getfield 47, 3) := by decide +kernel
theorem dX5_determinant_12 : decode cX5_determinant 12 = .ok (.iload_n 2, 1) := by decide +kernel
theorem dX5_determinant_13 : decode cX5_determinant 13 = .ok (.lconst 0, 1) := by decide +kernel
theorem dX5_determinant_14 : decode cX5_determinant 14 = .ok (.lastore, 1) := by decide +kernel
theorem dX5_determinant_15 : decode cX5_determinant 15 = .ok (.iinc 2 1, 3) := by decide +kernel
theorem dX5_determinant_18 : decode cX5_determinant 18 = .ok (.goto (-16), 3) := by decide +kernel
theorem dX5_determinant_21 : decode cX5_determinant 21 = .ok (.aload_n 0, 1) := by decide +kernel
theorem dX5_determinant_22 : decode cX5_determinant 22 = .ok (.getfield 47, 3) := by decide +kernel
theorem dX5_determinant_25 : decode cX5_determinant 25 = .ok (.iconst 0, 1) := by decide +kernel
theorem dX5_determinant_26 : decode cX5_determinant 26 = .ok (.lconst 1, 1) := by decide +kernel
theorem dX5_determinant_27 : decode cX5_determinant 27 = .ok (.lastore, 1) := by decide +kernel
theorem dX5_determinant_28 : decode cX5_determinant 28 = .ok (.iconst 0, 1) := by decide +kernel
theorem dX5_determinant_29 : decode cX5_determinant 29 = .ok (.istore_n 2, 1) := by decide +kernel
theorem dX5_determinant_30 : decode cX5_determinant 30 = .ok (.iload_n 2, 1) := by decide +kernel
theorem dX5_determinant_31 : decode cX5_determinant 31 = .ok (.iconst 1, 1) := by decide +kernel
theorem dX5_determinant_32 : decode cX5_determinant 32 = .ok (.iload_n 1, 1) := by decide +kernel
theorem dX5_determinant_33 : decode cX5_determinant 33 = .ok (.ishl, 1) := by decide +kernel
theorem dX5_determinant_34 : decode cX5_determinant 34 = .ok (.if_icmp .ge 146, 3) := by decide +kernel
theorem dX5_determinant_37 : decode cX5_determinant 37 = .ok (.iconst 0, 1) := by decide +kernel
theorem dX5_determinant_38 : decode cX5_determinant 38 = .ok (.istore_n 3, 1) := by decide +kernel
theorem dX5_determinant_39 : decode cX5_determinant 39 = .ok (.iconst 0, 1) := by decide +kernel
theorem dX5_determinant_40 : decode cX5_determinant 40 = .ok (.istore 4, 2) := by decide +kernel
theorem dX5_determinant_42 : decode cX5_determinant 42 = .ok (.iload 4, 2) := by decide +kernel
theorem dX5_determinant_44 : decode cX5_determinant 44 = .ok (.iload_n 1, 1) := by decide +kernel
theorem dX5_determinant_45 : decode cX5_determinant 45 = .ok (.if_icmp .ge 18, 3) := by decide +kernel
theorem dX5_determinant_48 : decode cX5_determinant 48 = .ok (.iload_n 3, 1) := by decide +kernel
theorem dX5_determinant_49 : decode cX5_determinant 49 = .ok (.iload_n 2, 1) := by decide +kernel
theorem dX5_determinant_50 : decode cX5_determinant 50 = .ok (.iload 4, 2) := by decide +kernel
theorem dX5_determinant_52 : decode cX5_determinant 52 = .ok (.ishr, 1) := by decide +kernel
theorem dX5_determinant_53 : decode cX5_determinant 53 = .ok (.iconst 1, 1) := by decide +kernel
theorem dX5_determinant_54 : decode cX5_determinant 54 = .ok (.iand, 1) := by decide +kernel
theorem dX5_determinant_55 : decode cX5_determinant 55 = .ok (.iadd, 1) := by decide +kernel
theorem dX5_determinant_56 : decode cX5_determinant 56 = .ok (.istore_n 3, 1) := by decide +kernel
theorem dX5_determinant_57 : decode cX5_determinant 57 = .ok (.iinc 4 1, 3) := by decide +kernel
theorem dX5_determinant_60 : decode cX5_determinant 60 = .ok (.goto (-18), 3) := by decide +kernel
theorem dX5_determinant_63 : decode cX5_determinant 63 = .ok (.iconst 0, 1) := by decide +kernel
theorem dX5_determinant_64 : decode cX5_determinant 64 = .ok (.istore 4, 2) := by decide +kernel
theorem dX5_determinant_66 : decode cX5_determinant 66 = .ok (.iload 4, 2) := by decide +kernel
theorem dX5_determinant_68 : decode cX5_determinant 68 = .ok (.iload_n 1, 1) := by decide +kernel
theorem dX5_determinant_69 : decode cX5_determinant 69 = .ok (.if_icmp .ge 105, 3) := by decide +kernel
theorem dX5_determinant_72 : decode cX5_determinant 72 = .ok (.iload_n 3, 1) := by decide +kernel
theorem dX5_determinant_73 : decode cX5_determinant 73 = .ok (.iload_n 1, 1) := by decide +kernel
theorem dX5_determinant_74 : decode cX5_determinant 74 = .ok (.if_icmp .ge 100, 3) := by decide +kernel
theorem dX5_determinant_77 : decode cX5_determinant 77 = .ok (.iload_n 2, 1) := by decide +kernel
theorem dX5_determinant_78 : decode cX5_determinant 78 = .ok (.iload 4, 2) := by decide +kernel
theorem dX5_determinant_80 : decode cX5_determinant 80 = .ok (.ishr, 1) := by decide +kernel
theorem dX5_determinant_81 : decode cX5_determinant 81 = .ok (.iconst 1, 1) := by decide +kernel
theorem dX5_determinant_82 : decode cX5_determinant 82 = .ok (.iand, 1) := by decide +kernel
theorem dX5_determinant_83 : decode cX5_determinant 83 = .ok (.ifCond .ne 85, 3) := by decide +kernel
theorem dX5_determinant_86 : decode cX5_determinant 86 = .ok (.iconst 0, 1) := by decide +kernel
theorem dX5_determinant_87 : decode cX5_determinant 87 = .ok (.istore 5, 2) := by decide +kernel
theorem dX5_determinant_89 : decode cX5_determinant 89 = .ok (.iload 4, 2) := by decide +kernel
theorem dX5_determinant_91 : decode cX5_determinant 91 = .ok (.iconst 1, 1) := by decide +kernel
theorem dX5_determinant_92 : decode cX5_determinant 92 = .ok (.iadd, 1) := by decide +kernel
theorem dX5_determinant_93 : decode cX5_determinant 93 = .ok (.istore 6, 2) := by decide +kernel
theorem dX5_determinant_95 : decode cX5_determinant 95 = .ok (.iload 6, 2) := by decide +kernel
theorem dX5_determinant_97 : decode cX5_determinant 97 = .ok (.iload_n 1, 1) := by decide +kernel
theorem dX5_determinant_98 : decode cX5_determinant 98 = .ok (.if_icmp .ge 20, 3) := by decide +kernel
theorem dX5_determinant_101 : decode cX5_determinant 101 = .ok (.iload 5, 2) := by decide +kernel
theorem dX5_determinant_103 : decode cX5_determinant 103 = .ok (.iload_n 2, 1) := by decide +kernel
theorem dX5_determinant_104 : decode cX5_determinant 104 = .ok (.iload 6, 2) := by decide +kernel
theorem dX5_determinant_106 : decode cX5_determinant 106 = .ok (.ishr, 1) := by decide +kernel
theorem dX5_determinant_107 : decode cX5_determinant 107 = .ok (.iconst 1, 1) := by decide +kernel
theorem dX5_determinant_108 : decode cX5_determinant 108 = .ok (.iand, 1) := by decide +kernel
theorem dX5_determinant_109 : decode cX5_determinant 109 = .ok (.iadd, 1) := by decide +kernel
theorem dX5_determinant_110 : decode cX5_determinant 110 = .ok (.istore 5, 2) := by decide +kernel
theorem dX5_determinant_112 : decode cX5_determinant 112 = .ok (.iinc 6 1, 3) := by decide +kernel
theorem dX5_determinant_115 : decode cX5_determinant 115 = .ok (.goto (-20), 3) := by decide +kernel
theorem dX5_determinant_118 : decode cX5_determinant 118 = .ok (.aload_n 0, 1) := by decide +kernel
theorem dX5_determinant_119 : decode cX5_determinant 119 = .ok (.getfield 47, 3) := by decide +kernel
theorem dX5_determinant_122 : decode cX5_determinant 122 = .ok (.iload_n 2, 1) := by decide +kernel
theorem dX5_determinant_123 : decode cX5_determinant 123 = .ok (.laload, 1) := by decide +kernel
theorem dX5_determinant_124 : decode cX5_determinant 124 = .ok (.aload_n 0, 1) := by decide +kernel
theorem dX5_determinant_125 : decode cX5_determinant 125 = .ok (.getfield 44, 3) := by decide +kernel
theorem dX5_determinant_128 : decode cX5_determinant 128 = .ok (.iconst 5, 1) := by decide +kernel
theorem dX5_determinant_129 : decode cX5_determinant 129 = .ok (.iload_n 3, 1) := by decide +kernel
theorem dX5_determinant_130 : decode cX5_determinant 130 = .ok (.imul, 1) := by decide +kernel
theorem dX5_determinant_131 : decode cX5_determinant 131 = .ok (.iload 4, 2) := by decide +kernel
theorem dX5_determinant_133 : decode cX5_determinant 133 = .ok (.iadd, 1) := by decide +kernel
theorem dX5_determinant_134 : decode cX5_determinant 134 = .ok (.laload, 1) := by decide +kernel
theorem dX5_determinant_135 : decode cX5_determinant 135 = .ok (.lmul, 1) := by decide +kernel
theorem dX5_determinant_136 : decode cX5_determinant 136 = .ok (.lstore 6, 2) := by decide +kernel
theorem dX5_determinant_138 : decode cX5_determinant 138 = .ok (.aload_n 0, 1) := by decide +kernel
theorem dX5_determinant_139 : decode cX5_determinant 139 = .ok (.getfield 47, 3) := by decide +kernel
theorem dX5_determinant_142 : decode cX5_determinant 142 = .ok (.iload_n 2, 1) := by decide +kernel
theorem dX5_determinant_143 : decode cX5_determinant 143 = .ok (.iconst 1, 1) := by decide +kernel
theorem dX5_determinant_144 : decode cX5_determinant 144 = .ok (.iload 4, 2) := by decide +kernel
theorem dX5_determinant_146 : decode cX5_determinant 146 = .ok (.ishl, 1) := by decide +kernel
theorem dX5_determinant_147 : decode cX5_determinant 147 = .ok (.ior, 1) := by decide +kernel
theorem dX5_determinant_148 : decode cX5_determinant 148 = .ok (.dup2, 1) := by decide +kernel
theorem dX5_determinant_149 : decode cX5_determinant 149 = .ok (.laload, 1) := by decide +kernel
theorem dX5_determinant_150 : decode cX5_determinant 150 = .ok (.iload 5, 2) := by decide +kernel
theorem dX5_determinant_152 : decode cX5_determinant 152 = .ok (.iconst 2, 1) := by decide +kernel
theorem dX5_determinant_153 : decode cX5_determinant 153 = .ok (.irem, 1) := by decide +kernel
theorem dX5_determinant_154 : decode cX5_determinant 154 = .ok (.iconst 1, 1) := by decide +kernel
theorem dX5_determinant_155 : decode cX5_determinant 155 = .ok (.if_icmp .ne 9, 3) := by decide +kernel
theorem dX5_determinant_158 : decode cX5_determinant 158 = .ok (.lload 6, 2) := by decide +kernel
theorem dX5_determinant_160 : decode cX5_determinant 160 = .ok (.lneg, 1) := by decide +kernel
theorem dX5_determinant_161 : decode cX5_determinant 161 = .ok (.goto 5, 3) := by decide +kernel
theorem dX5_determinant_164 : decode cX5_determinant 164 = .ok (.lload 6, 2) := by decide +kernel
theorem dX5_determinant_166 : decode cX5_determinant 166 = .ok (.ladd, 1) := by decide +kernel
theorem dX5_determinant_167 : decode cX5_determinant 167 = .ok (.lastore, 1) := by decide +kernel
theorem dX5_determinant_168 : decode cX5_determinant 168 = .ok (.iinc 4 1, 3) := by decide +kernel
theorem dX5_determinant_171 : decode cX5_determinant 171 = .ok (.goto (-105), 3) := by decide +kernel
theorem dX5_determinant_174 : decode cX5_determinant 174 = .ok (.iinc 2 1, 3) := by decide +kernel
theorem dX5_determinant_177 : decode cX5_determinant 177 = .ok (.goto (-147), 3) := by decide +kernel
theorem dX5_determinant_180 : decode cX5_determinant 180 = .ok (.aload_n 0, 1) := by decide +kernel
theorem dX5_determinant_181 : decode cX5_determinant 181 = .ok (.getfield 47, 3) := by decide +kernel
theorem dX5_determinant_184 : decode cX5_determinant 184 = .ok (.iconst 1, 1) := by decide +kernel
theorem dX5_determinant_185 : decode cX5_determinant 185 = .ok (.iload_n 1, 1) := by decide +kernel
theorem dX5_determinant_186 : decode cX5_determinant 186 = .ok (.ishl, 1) := by decide +kernel
theorem dX5_determinant_187 : decode cX5_determinant 187 = .ok (.iconst 1, 1) := by decide +kernel
theorem dX5_determinant_188 : decode cX5_determinant 188 = .ok (.isub, 1) := by decide +kernel
theorem dX5_determinant_189 : decode cX5_determinant 189 = .ok (.laload, 1) := by decide +kernel
theorem dX5_determinant_190 : decode cX5_determinant 190 = .ok (.lreturn, 1) := by decide +kernel
theorem dX5_layTable_0 : decode cX5_layTable 0 = .ok (.aload_n 0, 1) := by decide +kernel
theorem dX5_layTable_1 : decode cX5_layTable 1 = .ok (.getfield 29, 3) := by decide +kernel
theorem dX5_layTable_4 : decode cX5_layTable 4 = .ok (.iload_n 1, 1) := by decide +kernel
theorem dX5_layTable_5 : decode cX5_layTable 5 = .ok (.iaload, 1) := by decide +kernel
theorem dX5_layTable_6 : decode cX5_layTable 6 = .ok (.istore 5, 2) := by decide +kernel
theorem dX5_layTable_8 : decode cX5_layTable 8 = .ok (.iconst 0, 1) := by decide +kernel
theorem dX5_layTable_9 : decode cX5_layTable 9 = .ok (.istore 6, 2) := by decide +kernel
theorem dX5_layTable_11 : decode cX5_layTable 11 = .ok (.iload 6, 2) := by decide +kernel
theorem dX5_layTable_13 : decode cX5_layTable 13 = .ok (.iload 5, 2) := by decide +kernel
theorem dX5_layTable_15 : decode cX5_layTable 15 = .ok (.if_icmp .ge 147, 3) := by decide +kernel
theorem dX5_layTable_18 : decode cX5_layTable 18 = .ok (.aload_n 0, 1) := by decide +kernel
theorem dX5_layTable_19 : decode cX5_layTable 19 = .ok (.getfield 66, 3) := by decide +kernel
theorem dX5_layTable_22 : decode cX5_layTable 22 = .ok (.i2l, 1) := by decide +kernel
theorem dX5_layTable_23 : decode cX5_layTable 23 = .ok (.aload_n 0, 1) := by decide +kernel
theorem dX5_layTable_24 : decode cX5_layTable 24 = .ok (.iload_n 1, 1) := by decide +kernel
theorem dX5_layTable_25 : decode cX5_layTable 25 = .ok (.iload 6, 2) := by decide +kernel
theorem dX5_layTable_27 : decode cX5_layTable 27 = .ok (.invokevirtual 133, 3) := by decide +kernel
theorem dX5_layTable_30 : decode cX5_layTable 30 = .ok (.i2l, 1) := by decide +kernel
theorem dX5_layTable_31 : decode cX5_layTable 31 = .ok (.lmul, 1) := by decide +kernel
theorem dX5_layTable_32 : decode cX5_layTable 32 = .ok (.lstore 7, 2) := by decide +kernel
theorem dX5_layTable_34 : decode cX5_layTable 34 = .ok (.iconst 0, 1) := by decide +kernel
theorem dX5_layTable_35 : decode cX5_layTable 35 = .ok (.istore 9, 2) := by decide +kernel
theorem dX5_layTable_37 : decode cX5_layTable 37 = .ok (.iload 9, 2) := by decide +kernel
theorem dX5_layTable_39 : decode cX5_layTable 39 = .ok (.iload 5, 2) := by decide +kernel
theorem dX5_layTable_41 : decode cX5_layTable 41 = .ok (.if_icmp .ge 115, 3) := by decide +kernel
theorem dX5_layTable_44 : decode cX5_layTable 44 = .ok (.iload 6, 2) := by decide +kernel
theorem dX5_layTable_46 : decode cX5_layTable 46 = .ok (.iload 9, 2) := by decide +kernel
theorem dX5_layTable_48 : decode cX5_layTable 48 = .ok (.if_icmp .ne 8, 3) := by decide +kernel
theorem dX5_layTable_51 : decode cX5_layTable 51 = .ok (.lload 7, 2) := by decide +kernel
theorem dX5_layTable_53 : decode cX5_layTable 53 = .ok (.goto 4, 3) := by decide +kernel
theorem dX5_layTable_56 : decode cX5_layTable 56 = .ok (.lconst 0, 1) := by decide +kernel
theorem dX5_layTable_57 : decode cX5_layTable 57 = .ok (.lstore 10, 2) := by decide +kernel
theorem dX5_layTable_59 : decode cX5_layTable 59 = .ok (.lload 10, 2) := by decide +kernel
theorem dX5_layTable_61 : decode cX5_layTable 61 = .ok (.iload_n 2, 1) := by decide +kernel
theorem dX5_layTable_62 : decode cX5_layTable 62 = .ok (.iload 9, 2) := by decide +kernel
theorem dX5_layTable_64 : decode cX5_layTable 64 = .ok (.ishr, 1) := by decide +kernel
theorem dX5_layTable_65 : decode cX5_layTable 65 = .ok (.iconst 1, 1) := by decide +kernel
theorem dX5_layTable_66 : decode cX5_layTable 66 = .ok (.iand, 1) := by decide +kernel
theorem dX5_layTable_67 : decode cX5_layTable 67 = .ok (.iconst 1, 1) := by decide +kernel
theorem dX5_layTable_68 : decode cX5_layTable 68 = .ok (.if_icmp .ne 30, 3) := by decide +kernel
theorem dX5_layTable_71 : decode cX5_layTable 71 = .ok (.aload_n 0, 1) := by decide +kernel
theorem dX5_layTable_72 : decode cX5_layTable 72 = .ok (.getfield 62, 3) := by decide +kernel
theorem dX5_layTable_75 : decode cX5_layTable 75 = .ok (.i2l, 1) := by decide +kernel
theorem dX5_layTable_76 : decode cX5_layTable 76 = .ok (.aload_n 0, 1) := by decide +kernel
theorem dX5_layTable_77 : decode cX5_layTable 77 = .ok (.getfield 38, 3) := by decide +kernel
theorem dX5_layTable_80 : decode cX5_layTable 80 = .ok (.bipush 25, 2) := by decide +kernel
theorem dX5_layTable_82 : decode cX5_layTable 82 = .ok (.iload_n 1, 1) := by decide +kernel
theorem dX5_layTable_83 : decode cX5_layTable 83 = .ok (.imul, 1) := by decide +kernel
theorem dX5_layTable_84 : decode cX5_layTable 84 = .ok (.iconst 5, 1) := by decide +kernel
theorem dX5_layTable_85 : decode cX5_layTable 85 = .ok (.iload 6, 2) := by decide +kernel
theorem dX5_layTable_87 : decode cX5_layTable 87 = .ok (.imul, 1) := by decide +kernel
theorem dX5_layTable_88 : decode cX5_layTable 88 = .ok (.iadd, 1) := by decide +kernel
theorem dX5_layTable_89 : decode cX5_layTable 89 = .ok (.iload 9, 2) := by decide +kernel
theorem dX5_layTable_91 : decode cX5_layTable 91 = .ok (.iadd, 1) := by decide +kernel
theorem dX5_layTable_92 : decode cX5_layTable 92 = .ok (.iaload, 1) := by decide +kernel
theorem dX5_layTable_93 : decode cX5_layTable 93 = .ok (.i2l, 1) := by decide +kernel
theorem dX5_layTable_94 : decode cX5_layTable 94 = .ok (.lmul, 1) := by decide +kernel
theorem dX5_layTable_95 : decode cX5_layTable 95 = .ok (.goto 4, 3) := by decide +kernel
theorem dX5_layTable_98 : decode cX5_layTable 98 = .ok (.lconst 0, 1) := by decide +kernel
theorem dX5_layTable_99 : decode cX5_layTable 99 = .ok (.lsub, 1) := by decide +kernel
theorem dX5_layTable_100 : decode cX5_layTable 100 = .ok (.lstore 10, 2) := by decide +kernel
theorem dX5_layTable_102 : decode cX5_layTable 102 = .ok (.aload_n 0, 1) := by decide +kernel
theorem dX5_layTable_103 : decode cX5_layTable 103 = .ok (.getfield 44, 3) := by decide +kernel
theorem dX5_layTable_106 : decode cX5_layTable 106 = .ok (.iconst 5, 1) := by decide +kernel
theorem dX5_layTable_107 : decode cX5_layTable 107 = .ok (.iload 6, 2) := by decide +kernel
theorem dX5_layTable_109 : decode cX5_layTable 109 = .ok (.imul, 1) := by decide +kernel
theorem dX5_layTable_110 : decode cX5_layTable 110 = .ok (.iload 9, 2) := by decide +kernel
theorem dX5_layTable_112 : decode cX5_layTable 112 = .ok (.iadd, 1) := by decide +kernel
theorem dX5_layTable_113 : decode cX5_layTable 113 = .ok (.iload 9, 2) := by decide +kernel
theorem dX5_layTable_115 : decode cX5_layTable 115 = .ok (.iload_n 3, 1) := by decide +kernel
theorem dX5_layTable_116 : decode cX5_layTable 116 = .ok (.if_icmp .eq 8, 3) := by decide +kernel
theorem dX5_layTable_119 : decode cX5_layTable 119 = .ok (.lload 10, 2) := by decide +kernel
theorem dX5_layTable_121 : decode cX5_layTable 121 = .ok (.goto 28, 3) := by decide +kernel
theorem dX5_layTable_124 : decode cX5_layTable 124 = .ok (.iload 4, 2) := by decide +kernel
theorem dX5_layTable_126 : decode cX5_layTable 126 = .ok (.ifCond .eq 21, 3) := by decide +kernel
theorem dX5_layTable_129 : decode cX5_layTable 129 = .ok (.lload 7, 2) := by decide +kernel
theorem dX5_layTable_131 : decode cX5_layTable 131 = .ok (.aload_n 0, 1) := by decide +kernel
theorem dX5_layTable_132 : decode cX5_layTable 132 = .ok (.getfield 35, 3) := by decide +kernel
theorem dX5_layTable_135 : decode cX5_layTable 135 = .ok (.iconst 5, 1) := by decide +kernel
theorem dX5_layTable_136 : decode cX5_layTable 136 = .ok (.iload_n 1, 1) := by decide +kernel
theorem dX5_layTable_137 : decode cX5_layTable 137 = .ok (.imul, 1) := by decide +kernel
theorem dX5_layTable_138 : decode cX5_layTable 138 = .ok (.iload 6, 2) := by decide +kernel
theorem dX5_layTable_140 : decode cX5_layTable 140 = .ok (.iadd, 1) := by decide +kernel
theorem dX5_layTable_141 : decode cX5_layTable 141 = .ok (.iaload, 1) := by decide +kernel
theorem dX5_layTable_142 : decode cX5_layTable 142 = .ok (.i2l, 1) := by decide +kernel
theorem dX5_layTable_143 : decode cX5_layTable 143 = .ok (.lmul, 1) := by decide +kernel
theorem dX5_layTable_144 : decode cX5_layTable 144 = .ok (.goto 5, 3) := by decide +kernel
theorem dX5_layTable_147 : decode cX5_layTable 147 = .ok (.lload 7, 2) := by decide +kernel
theorem dX5_layTable_149 : decode cX5_layTable 149 = .ok (.lastore, 1) := by decide +kernel
theorem dX5_layTable_150 : decode cX5_layTable 150 = .ok (.iinc 9 1, 3) := by decide +kernel
theorem dX5_layTable_153 : decode cX5_layTable 153 = .ok (.goto (-116), 3) := by decide +kernel
theorem dX5_layTable_156 : decode cX5_layTable 156 = .ok (.iinc 6 1, 3) := by decide +kernel
theorem dX5_layTable_159 : decode cX5_layTable 159 = .ok (.goto (-148), 3) := by decide +kernel
theorem dX5_layTable_162 : decode cX5_layTable 162 = .ok (.return_, 1) := by decide +kernel
theorem dX5_value_0 : decode cX5_value 0 = .ok (.aload_n 0, 1) := by decide +kernel
theorem dX5_value_1 : decode cX5_value 1 = .ok (.iload_n 1, 1) := by decide +kernel
theorem dX5_value_2 : decode cX5_value 2 = .ok (.iload_n 3, 1) := by decide +kernel
theorem dX5_value_3 : decode cX5_value 3 = .ok (.iload_n 2, 1) := by decide +kernel
theorem dX5_value_4 : decode cX5_value 4 = .ok (.iconst 1, 1) := by decide +kernel
theorem dX5_value_5 : decode cX5_value 5 = .ok (.invokevirtual 152, 3) := by decide +kernel
theorem dX5_value_8 : decode cX5_value 8 = .ok (.aload_n 0, 1) := by decide +kernel
theorem dX5_value_9 : decode cX5_value 9 = .ok (.aload_n 0, 1) := by decide +kernel
theorem dX5_value_10 : decode cX5_value 10 = .ok (.getfield 29, 3) := by decide +kernel
theorem dX5_value_13 : decode cX5_value 13 = .ok (.iload_n 1, 1) := by decide +kernel
theorem dX5_value_14 : decode cX5_value 14 = .ok (.iaload, 1) := by decide +kernel
theorem dX5_value_15 : decode cX5_value 15 = .ok (.invokevirtual 156, 3) := by decide +kernel
theorem dX5_value_18 : decode cX5_value 18 = .ok (.lstore 4, 2) := by decide +kernel
theorem dX5_value_20 : decode cX5_value 20 = .ok (.aload_n 0, 1) := by decide +kernel
theorem dX5_value_21 : decode cX5_value 21 = .ok (.iload_n 1, 1) := by decide +kernel
theorem dX5_value_22 : decode cX5_value 22 = .ok (.iload_n 3, 1) := by decide +kernel
theorem dX5_value_23 : decode cX5_value 23 = .ok (.iload_n 2, 1) := by decide +kernel
theorem dX5_value_24 : decode cX5_value 24 = .ok (.iconst 0, 1) := by decide +kernel
theorem dX5_value_25 : decode cX5_value 25 = .ok (.invokevirtual 152, 3) := by decide +kernel
theorem dX5_value_28 : decode cX5_value 28 = .ok (.aload_n 0, 1) := by decide +kernel
theorem dX5_value_29 : decode cX5_value 29 = .ok (.aload_n 0, 1) := by decide +kernel
theorem dX5_value_30 : decode cX5_value 30 = .ok (.getfield 29, 3) := by decide +kernel
theorem dX5_value_33 : decode cX5_value 33 = .ok (.iload_n 1, 1) := by decide +kernel
theorem dX5_value_34 : decode cX5_value 34 = .ok (.iaload, 1) := by decide +kernel
theorem dX5_value_35 : decode cX5_value 35 = .ok (.invokevirtual 156, 3) := by decide +kernel
theorem dX5_value_38 : decode cX5_value 38 = .ok (.lstore 6, 2) := by decide +kernel
theorem dX5_value_40 : decode cX5_value 40 = .ok (.aload_n 0, 1) := by decide +kernel
theorem dX5_value_41 : decode cX5_value 41 = .ok (.lload 4, 2) := by decide +kernel
theorem dX5_value_43 : decode cX5_value 43 = .ok (.lload 6, 2) := by decide +kernel
theorem dX5_value_45 : decode cX5_value 45 = .ok (.invokevirtual 160, 3) := by decide +kernel
theorem dX5_value_48 : decode cX5_value 48 = .ok (.return_, 1) := by decide +kernel
theorem dX5_worthOf_0 : decode cX5_worthOf 0 = .ok (.aload_n 0, 1) := by decide +kernel
theorem dX5_worthOf_1 : decode cX5_worthOf 1 = .ok (.iload_n 1, 1) := by decide +kernel
theorem dX5_worthOf_2 : decode cX5_worthOf 2 = .ok (.iload_n 2, 1) := by decide +kernel
theorem dX5_worthOf_3 : decode cX5_worthOf 3 = .ok (.iconst 0, 1) := by decide +kernel
theorem dX5_worthOf_4 : decode cX5_worthOf 4 = .ok (.invokevirtual 164, 3) := by decide +kernel
theorem dX5_worthOf_7 : decode cX5_worthOf 7 = .ok (.aload_n 0, 1) := by decide +kernel
theorem dX5_worthOf_8 : decode cX5_worthOf 8 = .ok (.getfield 140, 3) := by decide +kernel
theorem dX5_worthOf_11 : decode cX5_worthOf 11 = .ok (.lstore_n 3, 1) := by decide +kernel
theorem dX5_worthOf_12 : decode cX5_worthOf 12 = .ok (.aload_n 0, 1) := by decide +kernel
theorem dX5_worthOf_13 : decode cX5_worthOf 13 = .ok (.getfield 143, 3) := by decide +kernel
theorem dX5_worthOf_16 : decode cX5_worthOf 16 = .ok (.lstore 5, 2) := by decide +kernel
theorem dX5_worthOf_18 : decode cX5_worthOf 18 = .ok (.iconst 1, 1) := by decide +kernel
theorem dX5_worthOf_19 : decode cX5_worthOf 19 = .ok (.istore 7, 2) := by decide +kernel
theorem dX5_worthOf_21 : decode cX5_worthOf 21 = .ok (.iload 7, 2) := by decide +kernel
theorem dX5_worthOf_23 : decode cX5_worthOf 23 = .ok (.iconst 1, 1) := by decide +kernel
theorem dX5_worthOf_24 : decode cX5_worthOf 24 = .ok (.aload_n 0, 1) := by decide +kernel
theorem dX5_worthOf_25 : decode cX5_worthOf 25 = .ok (.getfield 29, 3) := by decide +kernel
theorem dX5_worthOf_28 : decode cX5_worthOf 28 = .ok (.iload_n 1, 1) := by decide +kernel
theorem dX5_worthOf_29 : decode cX5_worthOf 29 = .ok (.iaload, 1) := by decide +kernel
theorem dX5_worthOf_30 : decode cX5_worthOf 30 = .ok (.ishl, 1) := by decide +kernel
theorem dX5_worthOf_31 : decode cX5_worthOf 31 = .ok (.if_icmp .ge 45, 3) := by decide +kernel
theorem dX5_worthOf_34 : decode cX5_worthOf 34 = .ok (.aload_n 0, 1) := by decide +kernel
theorem dX5_worthOf_35 : decode cX5_worthOf 35 = .ok (.iload_n 1, 1) := by decide +kernel
theorem dX5_worthOf_36 : decode cX5_worthOf 36 = .ok (.iload_n 2, 1) := by decide +kernel
theorem dX5_worthOf_37 : decode cX5_worthOf 37 = .ok (.iload 7, 2) := by decide +kernel
theorem dX5_worthOf_39 : decode cX5_worthOf 39 = .ok (.invokevirtual 164, 3) := by decide +kernel
theorem dX5_worthOf_42 : decode cX5_worthOf 42 = .ok (.aload_n 0, 1) := by decide +kernel
theorem dX5_worthOf_43 : decode cX5_worthOf 43 = .ok (.getfield 140, 3) := by decide +kernel
theorem dX5_worthOf_46 : decode cX5_worthOf 46 = .ok (.aload_n 0, 1) := by decide +kernel
theorem dX5_worthOf_47 : decode cX5_worthOf 47 = .ok (.getfield 143, 3) := by decide +kernel
theorem dX5_worthOf_50 : decode cX5_worthOf 50 = .ok (.lload_n 3, 1) := by decide +kernel
theorem dX5_worthOf_51 : decode cX5_worthOf 51 = .ok (.lload 5, 2) := by decide +kernel
theorem dX5_worthOf_53 : decode cX5_worthOf 53 = .ok (.invokestatic 168, 3) := by decide +kernel
theorem dX5_worthOf_56 : decode cX5_worthOf 56 = .ok (.ifCond .le 14, 3) := by decide +kernel
theorem dX5_worthOf_59 : decode cX5_worthOf 59 = .ok (.aload_n 0, 1) := by decide +kernel
theorem dX5_worthOf_60 : decode cX5_worthOf 60 = .ok (.getfield 140, 3) := by decide +kernel
theorem dX5_worthOf_63 : decode cX5_worthOf 63 = .ok (.lstore_n 3, 1) := by decide +kernel
theorem dX5_worthOf_64 : decode cX5_worthOf 64 = .ok (.aload_n 0, 1) := by decide +kernel
theorem dX5_worthOf_65 : decode cX5_worthOf 65 = .ok (.getfield 143, 3) := by decide +kernel
theorem dX5_worthOf_68 : decode cX5_worthOf 68 = .ok (.lstore 5, 2) := by decide +kernel
theorem dX5_worthOf_70 : decode cX5_worthOf 70 = .ok (.iinc 7 1, 3) := by decide +kernel
theorem dX5_worthOf_73 : decode cX5_worthOf 73 = .ok (.goto (-52), 3) := by decide +kernel
theorem dX5_worthOf_76 : decode cX5_worthOf 76 = .ok (.aload_n 0, 1) := by decide +kernel
theorem dX5_worthOf_77 : decode cX5_worthOf 77 = .ok (.lload_n 3, 1) := by decide +kernel
theorem dX5_worthOf_78 : decode cX5_worthOf 78 = .ok (.putfield 140, 3) := by decide +kernel
theorem dX5_worthOf_81 : decode cX5_worthOf 81 = .ok (.aload_n 0, 1) := by decide +kernel
theorem dX5_worthOf_82 : decode cX5_worthOf 82 = .ok (.lload 5, 2) := by decide +kernel
theorem dX5_worthOf_84 : decode cX5_worthOf 84 = .ok (.putfield 143, 3) := by decide +kernel
theorem dX5_worthOf_87 : decode cX5_worthOf 87 = .ok (.return_, 1) := by decide +kernel
theorem dX5_need_0 : decode cX5_need 0 = .ok (.aload_n 0, 1) := by decide +kernel
theorem dX5_need_1 : decode cX5_need 1 = .ok (.iload_n 1, 1) := by decide +kernel
theorem dX5_need_2 : decode cX5_need 2 = .ok (.invokevirtual 114, 3) := by decide +kernel
theorem dX5_need_5 : decode cX5_need 5 = .ok (.ifCond .ne 7, 3) := by decide +kernel
theorem dX5_need_8 : decode cX5_need 8 = .ok (.iconst (-1), 1) := by decide +kernel
theorem dX5_need_9 : decode cX5_need 9 = .ok (.goto 21, 3) := by decide +kernel
theorem dX5_need_12 : decode cX5_need 12 = .ok (.aload_n 0, 1) := by decide +kernel
theorem dX5_need_13 : decode cX5_need 13 = .ok (.iload_n 1, 1) := by decide +kernel
theorem dX5_need_14 : decode cX5_need 14 = .ok (.iload_n 2, 1) := by decide +kernel
theorem dX5_need_15 : decode cX5_need 15 = .ok (.invokevirtual 121, 3) := by decide +kernel
theorem dX5_need_18 : decode cX5_need 18 = .ok (.ifCond .ne 11, 3) := by decide +kernel
theorem dX5_need_21 : decode cX5_need 21 = .ok (.aload_n 0, 1) := by decide +kernel
theorem dX5_need_22 : decode cX5_need 22 = .ok (.iconst 2, 1) := by decide +kernel
theorem dX5_need_23 : decode cX5_need 23 = .ok (.invokevirtual 96, 3) := by decide +kernel
theorem dX5_need_26 : decode cX5_need 26 = .ok (.goto 4, 3) := by decide +kernel
theorem dX5_need_29 : decode cX5_need 29 = .ok (.iconst 0, 1) := by decide +kernel
theorem dX5_need_30 : decode cX5_need 30 = .ok (.ireturn, 1) := by decide +kernel
theorem dX5_worth_0 : decode cX5_worth 0 = .ok (.aload_n 0, 1) := by decide +kernel
theorem dX5_worth_1 : decode cX5_worth 1 = .ok (.iload_n 1, 1) := by decide +kernel
theorem dX5_worth_2 : decode cX5_worth 2 = .ok (.iload_n 2, 1) := by decide +kernel
theorem dX5_worth_3 : decode cX5_worth 3 = .ok (.invokevirtual 172, 3) := by decide +kernel
theorem dX5_worth_6 : decode cX5_worth 6 = .ok (.istore_n 3, 1) := by decide +kernel
theorem dX5_worth_7 : decode cX5_worth 7 = .ok (.iload_n 3, 1) := by decide +kernel
theorem dX5_worth_8 : decode cX5_worth 8 = .ok (.ifCond .ge 5, 3) := by decide +kernel
theorem dX5_worth_11 : decode cX5_worth 11 = .ok (.iload_n 3, 1) := by decide +kernel
theorem dX5_worth_12 : decode cX5_worth 12 = .ok (.ireturn, 1) := by decide +kernel
theorem dX5_worth_13 : decode cX5_worth 13 = .ok (.aload_n 0, 1) := by decide +kernel
theorem dX5_worth_14 : decode cX5_worth 14 = .ok (.iload_n 1, 1) := by decide +kernel
theorem dX5_worth_15 : decode cX5_worth 15 = .ok (.iload_n 2, 1) := by decide +kernel
theorem dX5_worth_16 : decode cX5_worth 16 = .ok (.invokevirtual 175, 3) := by decide +kernel
theorem dX5_worth_19 : decode cX5_worth 19 = .ok (.aload_n 0, 1) := by decide +kernel
theorem dX5_worth_20 : decode cX5_worth 20 = .ok (.invokevirtual 179, 3) := by decide +kernel
theorem dX5_worth_23 : decode cX5_worth 23 = .ok (.ireturn, 1) := by decide +kernel
theorem dX5_way_0 : decode cX5_way 0 = .ok (.iload_n 3, 1) := by decide +kernel
theorem dX5_way_1 : decode cX5_way 1 = .ok (.i2l, 1) := by decide +kernel
theorem dX5_way_2 : decode cX5_way 2 = .ok (.lconst 0, 1) := by decide +kernel
theorem dX5_way_3 : decode cX5_way 3 = .ok (.ldc2_w 183, 3) := by decide +kernel
theorem dX5_way_6 : decode cX5_way 6 = .ok (.invokestatic 81, 3) := by decide +kernel
theorem dX5_way_9 : decode cX5_way 9 = .ok (.ifCond .ne 5, 3) := by decide +kernel
theorem dX5_way_12 : decode cX5_way 12 = .ok (.iconst (-1), 1) := by decide +kernel
theorem dX5_way_13 : decode cX5_way 13 = .ok (.ireturn, 1) := by decide +kernel
theorem dX5_way_14 : decode cX5_way 14 = .ok (.aload_n 0, 1) := by decide +kernel
theorem dX5_way_15 : decode cX5_way 15 = .ok (.iload_n 1, 1) := by decide +kernel
theorem dX5_way_16 : decode cX5_way 16 = .ok (.iload_n 2, 1) := by decide +kernel
theorem dX5_way_17 : decode cX5_way 17 = .ok (.invokevirtual 172, 3) := by decide +kernel
theorem dX5_way_20 : decode cX5_way 20 = .ok (.istore 4, 2) := by decide +kernel
theorem dX5_way_22 : decode cX5_way 22 = .ok (.iload 4, 2) := by decide +kernel
theorem dX5_way_24 : decode cX5_way 24 = .ok (.ifCond .ge 6, 3) := by decide +kernel
theorem dX5_way_27 : decode cX5_way 27 = .ok (.iload 4, 2) := by decide +kernel
theorem dX5_way_29 : decode cX5_way 29 = .ok (.ireturn, 1) := by decide +kernel
theorem dX5_way_30 : decode cX5_way 30 = .ok (.aload_n 0, 1) := by decide +kernel
theorem dX5_way_31 : decode cX5_way 31 = .ok (.iload_n 1, 1) := by decide +kernel
theorem dX5_way_32 : decode cX5_way 32 = .ok (.iload_n 2, 1) := by decide +kernel
theorem dX5_way_33 : decode cX5_way 33 = .ok (.iload_n 3, 1) := by decide +kernel
theorem dX5_way_34 : decode cX5_way 34 = .ok (.invokevirtual 164, 3) := by decide +kernel
theorem dX5_way_37 : decode cX5_way 37 = .ok (.aload_n 0, 1) := by decide +kernel
theorem dX5_way_38 : decode cX5_way 38 = .ok (.invokevirtual 179, 3) := by decide +kernel
theorem dX5_way_41 : decode cX5_way 41 = .ok (.ireturn, 1) := by decide +kernel
theorem dX5_layWorths_0 : decode cX5_layWorths 0 = .ok (.iconst 0, 1) := by decide +kernel
theorem dX5_layWorths_1 : decode cX5_layWorths 1 = .ok (.istore_n 2, 1) := by decide +kernel
theorem dX5_layWorths_2 : decode cX5_layWorths 2 = .ok (.iload_n 2, 1) := by decide +kernel
theorem dX5_layWorths_3 : decode cX5_layWorths 3 = .ok (.aload_n 0, 1) := by decide +kernel
theorem dX5_layWorths_4 : decode cX5_layWorths 4 = .ok (.getfield 29, 3) := by decide +kernel
theorem dX5_layWorths_7 : decode cX5_layWorths 7 = .ok (.iload_n 1, 1) := by decide +kernel
theorem dX5_layWorths_8 : decode cX5_layWorths 8 = .ok (.iaload, 1) := by decide +kernel
theorem dX5_layWorths_9 : decode cX5_layWorths 9 = .ok (.if_icmp .ge 35, 3) := by decide +kernel
theorem dX5_layWorths_12 : decode cX5_layWorths 12 = .ok (.aload_n 0, 1) := by decide +kernel
theorem dX5_layWorths_13 : decode cX5_layWorths 13 = .ok (.iload_n 1, 1) := by decide +kernel
theorem dX5_layWorths_14 : decode cX5_layWorths 14 = .ok (.iload_n 2, 1) := by decide +kernel
theorem dX5_layWorths_15 : decode cX5_layWorths 15 = .ok (.invokevirtual 175, 3) := by decide +kernel
theorem dX5_layWorths_18 : decode cX5_layWorths 18 = .ok (.aload_n 0, 1) := by decide +kernel
theorem dX5_layWorths_19 : decode cX5_layWorths 19 = .ok (.getfield 50, 3) := by decide +kernel
theorem dX5_layWorths_22 : decode cX5_layWorths 22 = .ok (.iload_n 2, 1) := by decide +kernel
theorem dX5_layWorths_23 : decode cX5_layWorths 23 = .ok (.aload_n 0, 1) := by decide +kernel
theorem dX5_layWorths_24 : decode cX5_layWorths 24 = .ok (.getfield 140, 3) := by decide +kernel
theorem dX5_layWorths_27 : decode cX5_layWorths 27 = .ok (.lastore, 1) := by decide +kernel
theorem dX5_layWorths_28 : decode cX5_layWorths 28 = .ok (.aload_n 0, 1) := by decide +kernel
theorem dX5_layWorths_29 : decode cX5_layWorths 29 = .ok (.getfield 53, 3) := by decide +kernel
theorem dX5_layWorths_32 : decode cX5_layWorths 32 = .ok (.iload_n 2, 1) := by decide +kernel
theorem dX5_layWorths_33 : decode cX5_layWorths 33 = .ok (.aload_n 0, 1) := by decide +kernel
theorem dX5_layWorths_34 : decode cX5_layWorths 34 = .ok (.getfield 143, 3) := by decide +kernel
theorem dX5_layWorths_37 : decode cX5_layWorths 37 = .ok (.lastore, 1) := by decide +kernel
theorem dX5_layWorths_38 : decode cX5_layWorths 38 = .ok (.iinc 2 1, 3) := by decide +kernel
theorem dX5_layWorths_41 : decode cX5_layWorths 41 = .ok (.goto (-39), 3) := by decide +kernel
theorem dX5_layWorths_44 : decode cX5_layWorths 44 = .ok (.return_, 1) := by decide +kernel
theorem dX5_between_0 : decode cX5_between 0 = .ok (.aload_n 0, 1) := by decide +kernel
theorem dX5_between_1 : decode cX5_between 1 = .ok (.getfield 50, 3) := by decide +kernel
theorem dX5_between_4 : decode cX5_between 4 = .ok (.iload_n 1, 1) := by decide +kernel
theorem dX5_between_5 : decode cX5_between 5 = .ok (.laload, 1) := by decide +kernel
theorem dX5_between_6 : decode cX5_between 6 = .ok (.aload_n 0, 1) := by decide +kernel
theorem dX5_between_7 : decode cX5_between 7 = .ok (.getfield 53, 3) := by decide +kernel
theorem dX5_between_10 : decode cX5_between 10 = .ok (.iload_n 1, 1) := by decide +kernel
theorem dX5_between_11 : decode cX5_between 11 = .ok (.laload, 1) := by decide +kernel
theorem dX5_between_12 : decode cX5_between 12 = .ok (.aload_n 0, 1) := by decide +kernel
theorem dX5_between_13 : decode cX5_between 13 = .ok (.getfield 50, 3) := by decide +kernel
theorem dX5_between_16 : decode cX5_between 16 = .ok (.iload_n 2, 1) := by decide +kernel
theorem dX5_between_17 : decode cX5_between 17 = .ok (.laload, 1) := by decide +kernel
theorem dX5_between_18 : decode cX5_between 18 = .ok (.aload_n 0, 1) := by decide +kernel
theorem dX5_between_19 : decode cX5_between 19 = .ok (.getfield 53, 3) := by decide +kernel
theorem dX5_between_22 : decode cX5_between 22 = .ok (.iload_n 2, 1) := by decide +kernel
theorem dX5_between_23 : decode cX5_between 23 = .ok (.laload, 1) := by decide +kernel
theorem dX5_between_24 : decode cX5_between 24 = .ok (.invokestatic 168, 3) := by decide +kernel
theorem dX5_between_27 : decode cX5_between 27 = .ok (.ireturn, 1) := by decide +kernel
theorem dX5_order_0 : decode cX5_order 0 = .ok (.aload_n 0, 1) := by decide +kernel
theorem dX5_order_1 : decode cX5_order 1 = .ok (.iload_n 1, 1) := by decide +kernel
theorem dX5_order_2 : decode cX5_order 2 = .ok (.invokevirtual 114, 3) := by decide +kernel
theorem dX5_order_5 : decode cX5_order 5 = .ok (.ifCond .ne 5, 3) := by decide +kernel
theorem dX5_order_8 : decode cX5_order 8 = .ok (.iconst (-1), 1) := by decide +kernel
theorem dX5_order_9 : decode cX5_order 9 = .ok (.ireturn, 1) := by decide +kernel
theorem dX5_order_10 : decode cX5_order 10 = .ok (.iload_n 2, 1) := by decide +kernel
theorem dX5_order_11 : decode cX5_order 11 = .ok (.i2l, 1) := by decide +kernel
theorem dX5_order_12 : decode cX5_order 12 = .ok (.lconst 0, 1) := by decide +kernel
theorem dX5_order_13 : decode cX5_order 13 = .ok (.aload_n 0, 1) := by decide +kernel
theorem dX5_order_14 : decode cX5_order 14 = .ok (.getfield 29, 3) := by decide +kernel
theorem dX5_order_17 : decode cX5_order 17 = .ok (.iload_n 1, 1) := by decide +kernel
theorem dX5_order_18 : decode cX5_order 18 = .ok (.iaload, 1) := by decide +kernel
theorem dX5_order_19 : decode cX5_order 19 = .ok (.iconst 1, 1) := by decide +kernel
theorem dX5_order_20 : decode cX5_order 20 = .ok (.isub, 1) := by decide +kernel
theorem dX5_order_21 : decode cX5_order 21 = .ok (.i2l, 1) := by decide +kernel
theorem dX5_order_22 : decode cX5_order 22 = .ok (.invokestatic 81, 3) := by decide +kernel
theorem dX5_order_25 : decode cX5_order 25 = .ok (.ifCond .ne 6, 3) := by decide +kernel
theorem dX5_order_28 : decode cX5_order 28 = .ok (.bipush (-9), 2) := by decide +kernel
theorem dX5_order_30 : decode cX5_order 30 = .ok (.ireturn, 1) := by decide +kernel
theorem dX5_order_31 : decode cX5_order 31 = .ok (.aload_n 0, 1) := by decide +kernel
theorem dX5_order_32 : decode cX5_order 32 = .ok (.iload_n 1, 1) := by decide +kernel
theorem dX5_order_33 : decode cX5_order 33 = .ok (.invokevirtual 185, 3) := by decide +kernel
theorem dX5_order_36 : decode cX5_order 36 = .ok (.iconst 0, 1) := by decide +kernel
theorem dX5_order_37 : decode cX5_order 37 = .ok (.istore_n 3, 1) := by decide +kernel
theorem dX5_order_38 : decode cX5_order 38 = .ok (.iload_n 3, 1) := by decide +kernel
theorem dX5_order_39 : decode cX5_order 39 = .ok (.aload_n 0, 1) := by decide +kernel
theorem dX5_order_40 : decode cX5_order 40 = .ok (.getfield 29, 3) := by decide +kernel
theorem dX5_order_43 : decode cX5_order 43 = .ok (.iload_n 1, 1) := by decide +kernel
theorem dX5_order_44 : decode cX5_order 44 = .ok (.iaload, 1) := by decide +kernel
theorem dX5_order_45 : decode cX5_order 45 = .ok (.if_icmp .ge 64, 3) := by decide +kernel
theorem dX5_order_48 : decode cX5_order 48 = .ok (.iload_n 3, 1) := by decide +kernel
theorem dX5_order_49 : decode cX5_order 49 = .ok (.istore 4, 2) := by decide +kernel
theorem dX5_order_51 : decode cX5_order 51 = .ok (.iload 4, 2) := by decide +kernel
theorem dX5_order_53 : decode cX5_order 53 = .ok (.ifCond .le 42, 3) := by decide +kernel
theorem dX5_order_56 : decode cX5_order 56 = .ok (.aload_n 0, 1) := by decide +kernel
theorem dX5_order_57 : decode cX5_order 57 = .ok (.iload_n 3, 1) := by decide +kernel
theorem dX5_order_58 : decode cX5_order 58 = .ok (.aload_n 0, 1) := by decide +kernel
theorem dX5_order_59 : decode cX5_order 59 = .ok (.getfield 56, 3) := by decide +kernel
theorem dX5_order_62 : decode cX5_order 62 = .ok (.iload 4, 2) := by decide +kernel
theorem dX5_order_64 : decode cX5_order 64 = .ok (.iconst 1, 1) := by decide +kernel
theorem dX5_order_65 : decode cX5_order 65 = .ok (.isub, 1) := by decide +kernel
theorem dX5_order_66 : decode cX5_order 66 = .ok (.iaload, 1) := by decide +kernel
theorem dX5_order_67 : decode cX5_order 67 = .ok (.invokevirtual 189, 3) := by decide +kernel
theorem dX5_order_70 : decode cX5_order 70 = .ok (.ifCond .le 25, 3) := by decide +kernel
theorem dX5_order_73 : decode cX5_order 73 = .ok (.aload_n 0, 1) := by decide +kernel
theorem dX5_order_74 : decode cX5_order 74 = .ok (.getfield 56, 3) := by decide +kernel
theorem dX5_order_77 : decode cX5_order 77 = .ok (.iload 4, 2) := by decide +kernel
theorem dX5_order_79 : decode cX5_order 79 = .ok (.aload_n 0, 1) := by decide +kernel
theorem dX5_order_80 : decode cX5_order 80 = .ok (.getfield 56, 3) := by decide +kernel
theorem dX5_order_83 : decode cX5_order 83 = .ok (.iload 4, 2) := by decide +kernel
theorem dX5_order_85 : decode cX5_order 85 = .ok (.iconst 1, 1) := by decide +kernel
theorem dX5_order_86 : decode cX5_order 86 = .ok (.isub, 1) := by decide +kernel
theorem dX5_order_87 : decode cX5_order 87 = .ok (.iaload, 1) := by decide +kernel
theorem dX5_order_88 : decode cX5_order 88 = .ok (.iastore, 1) := by decide +kernel
theorem dX5_order_89 : decode cX5_order 89 = .ok (.iinc 4 (-1), 3) := by decide +kernel
theorem dX5_order_92 : decode cX5_order 92 = .ok (.goto (-41), 3) := by decide +kernel
theorem dX5_order_95 : decode cX5_order 95 = .ok (.aload_n 0, 1) := by decide +kernel
theorem dX5_order_96 : decode cX5_order 96 = .ok (.getfield 56, 3) := by decide +kernel
theorem dX5_order_99 : decode cX5_order 99 = .ok (.iload 4, 2) := by decide +kernel
theorem dX5_order_101 : decode cX5_order 101 = .ok (.iload_n 3, 1) := by decide +kernel
theorem dX5_order_102 : decode cX5_order 102 = .ok (.iastore, 1) := by decide +kernel
theorem dX5_order_103 : decode cX5_order 103 = .ok (.iinc 3 1, 3) := by decide +kernel
theorem dX5_order_106 : decode cX5_order 106 = .ok (.goto (-68), 3) := by decide +kernel
theorem dX5_order_109 : decode cX5_order 109 = .ok (.aload_n 0, 1) := by decide +kernel
theorem dX5_order_110 : decode cX5_order 110 = .ok (.getfield 56, 3) := by decide +kernel
theorem dX5_order_113 : decode cX5_order 113 = .ok (.iload_n 2, 1) := by decide +kernel
theorem dX5_order_114 : decode cX5_order 114 = .ok (.iaload, 1) := by decide +kernel
theorem dX5_order_115 : decode cX5_order 115 = .ok (.ireturn, 1) := by decide +kernel
theorem dX5_goes_0 : decode cX5_goes 0 = .ok (.aload_n 0, 1) := by decide +kernel
theorem dX5_goes_1 : decode cX5_goes 1 = .ok (.iload_n 1, 1) := by decide +kernel
theorem dX5_goes_2 : decode cX5_goes 2 = .ok (.iload_n 2, 1) := by decide +kernel
theorem dX5_goes_3 : decode cX5_goes 3 = .ok (.invokevirtual 172, 3) := by decide +kernel
theorem dX5_goes_6 : decode cX5_goes 6 = .ok (.istore_n 3, 1) := by decide +kernel
theorem dX5_goes_7 : decode cX5_goes 7 = .ok (.iload_n 3, 1) := by decide +kernel
theorem dX5_goes_8 : decode cX5_goes 8 = .ok (.ifCond .ge 5, 3) := by decide +kernel
theorem dX5_goes_11 : decode cX5_goes 11 = .ok (.iload_n 3, 1) := by decide +kernel
theorem dX5_goes_12 : decode cX5_goes 12 = .ok (.ireturn, 1) := by decide +kernel
theorem dX5_goes_13 : decode cX5_goes 13 = .ok (.aload_n 0, 1) := by decide +kernel
theorem dX5_goes_14 : decode cX5_goes 14 = .ok (.iload_n 1, 1) := by decide +kernel
theorem dX5_goes_15 : decode cX5_goes 15 = .ok (.invokevirtual 185, 3) := by decide +kernel
theorem dX5_goes_18 : decode cX5_goes 18 = .ok (.iconst 0, 1) := by decide +kernel
theorem dX5_goes_19 : decode cX5_goes 19 = .ok (.istore 4, 2) := by decide +kernel
theorem dX5_goes_21 : decode cX5_goes 21 = .ok (.iconst 0, 1) := by decide +kernel
theorem dX5_goes_22 : decode cX5_goes 22 = .ok (.istore 5, 2) := by decide +kernel
theorem dX5_goes_24 : decode cX5_goes 24 = .ok (.iload 5, 2) := by decide +kernel
theorem dX5_goes_26 : decode cX5_goes 26 = .ok (.aload_n 0, 1) := by decide +kernel
theorem dX5_goes_27 : decode cX5_goes 27 = .ok (.getfield 29, 3) := by decide +kernel
theorem dX5_goes_30 : decode cX5_goes 30 = .ok (.iload_n 1, 1) := by decide +kernel
theorem dX5_goes_31 : decode cX5_goes 31 = .ok (.iaload, 1) := by decide +kernel
theorem dX5_goes_32 : decode cX5_goes 32 = .ok (.if_icmp .ge 32, 3) := by decide +kernel
theorem dX5_goes_35 : decode cX5_goes 35 = .ok (.iload 4, 2) := by decide +kernel
theorem dX5_goes_37 : decode cX5_goes 37 = .ok (.aload_n 0, 1) := by decide +kernel
theorem dX5_goes_38 : decode cX5_goes 38 = .ok (.iload 5, 2) := by decide +kernel
theorem dX5_goes_40 : decode cX5_goes 40 = .ok (.iload_n 2, 1) := by decide +kernel
theorem dX5_goes_41 : decode cX5_goes 41 = .ok (.invokevirtual 189, 3) := by decide +kernel
theorem dX5_goes_44 : decode cX5_goes 44 = .ok (.ifCond .lt 10, 3) := by decide +kernel
theorem dX5_goes_47 : decode cX5_goes 47 = .ok (.iconst 1, 1) := by decide +kernel
theorem dX5_goes_48 : decode cX5_goes 48 = .ok (.iload 5, 2) := by decide +kernel
theorem dX5_goes_50 : decode cX5_goes 50 = .ok (.ishl, 1) := by decide +kernel
theorem dX5_goes_51 : decode cX5_goes 51 = .ok (.goto 4, 3) := by decide +kernel
theorem dX5_goes_54 : decode cX5_goes 54 = .ok (.iconst 0, 1) := by decide +kernel
theorem dX5_goes_55 : decode cX5_goes 55 = .ok (.ior, 1) := by decide +kernel
theorem dX5_goes_56 : decode cX5_goes 56 = .ok (.istore 4, 2) := by decide +kernel
theorem dX5_goes_58 : decode cX5_goes 58 = .ok (.iinc 5 1, 3) := by decide +kernel
theorem dX5_goes_61 : decode cX5_goes 61 = .ok (.goto (-37), 3) := by decide +kernel
theorem dX5_goes_64 : decode cX5_goes 64 = .ok (.iload 4, 2) := by decide +kernel
theorem dX5_goes_66 : decode cX5_goes 66 = .ok (.ireturn, 1) := by decide +kernel
theorem dX5_even_0 : decode cX5_even 0 = .ok (.aload_n 0, 1) := by decide +kernel
theorem dX5_even_1 : decode cX5_even 1 = .ok (.iload_n 1, 1) := by decide +kernel
theorem dX5_even_2 : decode cX5_even 2 = .ok (.invokevirtual 114, 3) := by decide +kernel
theorem dX5_even_5 : decode cX5_even 5 = .ok (.ifCond .eq 30, 3) := by decide +kernel
theorem dX5_even_8 : decode cX5_even 8 = .ok (.iload_n 3, 1) := by decide +kernel
theorem dX5_even_9 : decode cX5_even 9 = .ok (.i2l, 1) := by decide +kernel
theorem dX5_even_10 : decode cX5_even 10 = .ok (.ldc2_w 192, 3) := by decide +kernel
theorem dX5_even_13 : decode cX5_even 13 = .ok (.ldc2_w 194, 3) := by decide +kernel
theorem dX5_even_16 : decode cX5_even 16 = .ok (.invokestatic 81, 3) := by decide +kernel
theorem dX5_even_19 : decode cX5_even 19 = .ok (.ifCond .eq 16, 3) := by decide +kernel
theorem dX5_even_22 : decode cX5_even 22 = .ok (.iload 4, 2) := by decide +kernel
theorem dX5_even_24 : decode cX5_even 24 = .ok (.i2l, 1) := by decide +kernel
theorem dX5_even_25 : decode cX5_even 25 = .ok (.lconst 0, 1) := by decide +kernel
theorem dX5_even_26 : decode cX5_even 26 = .ok (.ldc2_w 194, 3) := by decide +kernel
theorem dX5_even_29 : decode cX5_even 29 = .ok (.invokestatic 81, 3) := by decide +kernel
theorem dX5_even_32 : decode cX5_even 32 = .ok (.ifCond .ne 5, 3) := by decide +kernel
theorem dX5_even_35 : decode cX5_even 35 = .ok (.iconst (-1), 1) := by decide +kernel
theorem dX5_even_36 : decode cX5_even 36 = .ok (.ireturn, 1) := by decide +kernel
theorem dX5_even_37 : decode cX5_even 37 = .ok (.aload_n 0, 1) := by decide +kernel
theorem dX5_even_38 : decode cX5_even 38 = .ok (.iload_n 1, 1) := by decide +kernel
theorem dX5_even_39 : decode cX5_even 39 = .ok (.iload_n 2, 1) := by decide +kernel
theorem dX5_even_40 : decode cX5_even 40 = .ok (.invokevirtual 121, 3) := by decide +kernel
theorem dX5_even_43 : decode cX5_even 43 = .ok (.ifCond .ne 9, 3) := by decide +kernel
theorem dX5_even_46 : decode cX5_even 46 = .ok (.aload_n 0, 1) := by decide +kernel
theorem dX5_even_47 : decode cX5_even 47 = .ok (.iconst 2, 1) := by decide +kernel
theorem dX5_even_48 : decode cX5_even 48 = .ok (.invokevirtual 96, 3) := by decide +kernel
theorem dX5_even_51 : decode cX5_even 51 = .ok (.ireturn, 1) := by decide +kernel
theorem dX5_even_52 : decode cX5_even 52 = .ok (.iload 4, 2) := by decide +kernel
theorem dX5_even_54 : decode cX5_even 54 = .ok (.ifCond .ne 9, 3) := by decide +kernel
theorem dX5_even_57 : decode cX5_even 57 = .ok (.aload_n 0, 1) := by decide +kernel
theorem dX5_even_58 : decode cX5_even 58 = .ok (.iconst 4, 1) := by decide +kernel
theorem dX5_even_59 : decode cX5_even 59 = .ok (.invokevirtual 96, 3) := by decide +kernel
theorem dX5_even_62 : decode cX5_even 62 = .ok (.ireturn, 1) := by decide +kernel
theorem dX5_even_63 : decode cX5_even 63 = .ok (.aload_n 0, 1) := by decide +kernel
theorem dX5_even_64 : decode cX5_even 64 = .ok (.iload_n 1, 1) := by decide +kernel
theorem dX5_even_65 : decode cX5_even 65 = .ok (.iload_n 2, 1) := by decide +kernel
theorem dX5_even_66 : decode cX5_even 66 = .ok (.invokevirtual 175, 3) := by decide +kernel
theorem dX5_even_69 : decode cX5_even 69 = .ok (.aload_n 0, 1) := by decide +kernel
theorem dX5_even_70 : decode cX5_even 70 = .ok (.getfield 140, 3) := by decide +kernel
theorem dX5_even_73 : decode cX5_even 73 = .ok (.aload_n 0, 1) := by decide +kernel
theorem dX5_even_74 : decode cX5_even 74 = .ok (.getfield 143, 3) := by decide +kernel
theorem dX5_even_77 : decode cX5_even 77 = .ok (.iload_n 3, 1) := by decide +kernel
theorem dX5_even_78 : decode cX5_even 78 = .ok (.i2l, 1) := by decide +kernel
theorem dX5_even_79 : decode cX5_even 79 = .ok (.iload 4, 2) := by decide +kernel
theorem dX5_even_81 : decode cX5_even 81 = .ok (.i2l, 1) := by decide +kernel
theorem dX5_even_82 : decode cX5_even 82 = .ok (.invokestatic 168, 3) := by decide +kernel
theorem dX5_even_85 : decode cX5_even 85 = .ok (.istore 5, 2) := by decide +kernel
theorem dX5_even_87 : decode cX5_even 87 = .ok (.iload 5, 2) := by decide +kernel
theorem dX5_even_89 : decode cX5_even 89 = .ok (.ifCond .le 7, 3) := by decide +kernel
theorem dX5_even_92 : decode cX5_even 92 = .ok (.iconst 1, 1) := by decide +kernel
theorem dX5_even_93 : decode cX5_even 93 = .ok (.goto 13, 3) := by decide +kernel
theorem dX5_even_96 : decode cX5_even 96 = .ok (.iload 5, 2) := by decide +kernel
theorem dX5_even_98 : decode cX5_even 98 = .ok (.ifCond .ne 7, 3) := by decide +kernel
theorem dX5_even_101 : decode cX5_even 101 = .ok (.iconst 0, 1) := by decide +kernel
theorem dX5_even_102 : decode cX5_even 102 = .ok (.goto 4, 3) := by decide +kernel
theorem dX5_even_105 : decode cX5_even 105 = .ok (.iconst 2, 1) := by decide +kernel
theorem dX5_even_106 : decode cX5_even 106 = .ok (.ireturn, 1) := by decide +kernel
theorem dX5_better_0 : decode cX5_better 0 = .ok (.aload_n 0, 1) := by decide +kernel
theorem dX5_better_1 : decode cX5_better 1 = .ok (.iload_n 1, 1) := by decide +kernel
theorem dX5_better_2 : decode cX5_better 2 = .ok (.iload_n 2, 1) := by decide +kernel
theorem dX5_better_3 : decode cX5_better 3 = .ok (.invokevirtual 172, 3) := by decide +kernel
theorem dX5_better_6 : decode cX5_better 6 = .ok (.istore_n 3, 1) := by decide +kernel
theorem dX5_better_7 : decode cX5_better 7 = .ok (.iload_n 3, 1) := by decide +kernel
theorem dX5_better_8 : decode cX5_better 8 = .ok (.ifCond .ge 5, 3) := by decide +kernel
theorem dX5_better_11 : decode cX5_better 11 = .ok (.iload_n 3, 1) := by decide +kernel
theorem dX5_better_12 : decode cX5_better 12 = .ok (.ireturn, 1) := by decide +kernel
theorem dX5_better_13 : decode cX5_better 13 = .ok (.aload_n 0, 1) := by decide +kernel
theorem dX5_better_14 : decode cX5_better 14 = .ok (.iload_n 1, 1) := by decide +kernel
theorem dX5_better_15 : decode cX5_better 15 = .ok (.iload_n 2, 1) := by decide +kernel
theorem dX5_better_16 : decode cX5_better 16 = .ok (.invokevirtual 175, 3) := by decide +kernel
theorem dX5_better_19 : decode cX5_better 19 = .ok (.aload_n 0, 1) := by decide +kernel
theorem dX5_better_20 : decode cX5_better 20 = .ok (.aload_n 0, 1) := by decide +kernel
theorem dX5_better_21 : decode cX5_better 21 = .ok (.getfield 140, 3) := by decide +kernel
theorem dX5_better_24 : decode cX5_better 24 = .ok (.aload_n 0, 1) := by decide +kernel
theorem dX5_better_25 : decode cX5_better 25 = .ok (.getfield 143, 3) := by decide +kernel
theorem dX5_better_28 : decode cX5_better 28 = .ok (.aload_n 0, 1) := by decide +kernel
theorem dX5_better_29 : decode cX5_better 29 = .ok (.getfield 35, 3) := by decide +kernel
theorem dX5_better_32 : decode cX5_better 32 = .ok (.iconst 5, 1) := by decide +kernel
theorem dX5_better_33 : decode cX5_better 33 = .ok (.iload_n 1, 1) := by decide +kernel
theorem dX5_better_34 : decode cX5_better 34 = .ok (.imul, 1) := by decide +kernel
theorem dX5_better_35 : decode cX5_better 35 = .ok (.iload_n 2, 1) := by decide +kernel
theorem dX5_better_36 : decode cX5_better 36 = .ok (.iadd, 1) := by decide +kernel
theorem dX5_better_37 : decode cX5_better 37 = .ok (.iaload, 1) := by decide +kernel
theorem dX5_better_38 : decode cX5_better 38 = .ok (.i2l, 1) := by decide +kernel
theorem dX5_better_39 : decode cX5_better 39 = .ok (.lmul, 1) := by decide +kernel
theorem dX5_better_40 : decode cX5_better 40 = .ok (.lsub, 1) := by decide +kernel
theorem dX5_better_41 : decode cX5_better 41 = .ok (.aload_n 0, 1) := by decide +kernel
theorem dX5_better_42 : decode cX5_better 42 = .ok (.getfield 143, 3) := by decide +kernel
theorem dX5_better_45 : decode cX5_better 45 = .ok (.invokevirtual 160, 3) := by decide +kernel
theorem dX5_better_48 : decode cX5_better 48 = .ok (.aload_n 0, 1) := by decide +kernel
theorem dX5_better_49 : decode cX5_better 49 = .ok (.invokevirtual 179, 3) := by decide +kernel
theorem dX5_better_52 : decode cX5_better 52 = .ok (.ireturn, 1) := by decide +kernel
theorem dX5_mean_0 : decode cX5_mean 0 = .ok (.aload_n 0, 1) := by decide +kernel
theorem dX5_mean_1 : decode cX5_mean 1 = .ok (.iload_n 1, 1) := by decide +kernel
theorem dX5_mean_2 : decode cX5_mean 2 = .ok (.iload_n 2, 1) := by decide +kernel
theorem dX5_mean_3 : decode cX5_mean 3 = .ok (.invokevirtual 172, 3) := by decide +kernel
theorem dX5_mean_6 : decode cX5_mean 6 = .ok (.istore_n 3, 1) := by decide +kernel
theorem dX5_mean_7 : decode cX5_mean 7 = .ok (.iload_n 3, 1) := by decide +kernel
theorem dX5_mean_8 : decode cX5_mean 8 = .ok (.ifCond .ge 5, 3) := by decide +kernel
theorem dX5_mean_11 : decode cX5_mean 11 = .ok (.iload_n 3, 1) := by decide +kernel
theorem dX5_mean_12 : decode cX5_mean 12 = .ok (.ireturn, 1) := by decide +kernel
theorem dX5_mean_13 : decode cX5_mean 13 = .ok (.lconst 0, 1) := by decide +kernel
theorem dX5_mean_14 : decode cX5_mean 14 = .ok (.lstore 4, 2) := by decide +kernel
theorem dX5_mean_16 : decode cX5_mean 16 = .ok (.iconst 0, 1) := by decide +kernel
theorem dX5_mean_17 : decode cX5_mean 17 = .ok (.istore 6, 2) := by decide +kernel
theorem dX5_mean_19 : decode cX5_mean 19 = .ok (.iload 6, 2) := by decide +kernel
theorem dX5_mean_21 : decode cX5_mean 21 = .ok (.aload_n 0, 1) := by decide +kernel
theorem dX5_mean_22 : decode cX5_mean 22 = .ok (.getfield 29, 3) := by decide +kernel
theorem dX5_mean_25 : decode cX5_mean 25 = .ok (.iload_n 1, 1) := by decide +kernel
theorem dX5_mean_26 : decode cX5_mean 26 = .ok (.iaload, 1) := by decide +kernel
theorem dX5_mean_27 : decode cX5_mean 27 = .ok (.if_icmp .ge 44, 3) := by decide +kernel
theorem dX5_mean_30 : decode cX5_mean 30 = .ok (.lload 4, 2) := by decide +kernel
theorem dX5_mean_32 : decode cX5_mean 32 = .ok (.aload_n 0, 1) := by decide +kernel
theorem dX5_mean_33 : decode cX5_mean 33 = .ok (.getfield 38, 3) := by decide +kernel
theorem dX5_mean_36 : decode cX5_mean 36 = .ok (.bipush 25, 2) := by decide +kernel
theorem dX5_mean_38 : decode cX5_mean 38 = .ok (.iload_n 1, 1) := by decide +kernel
theorem dX5_mean_39 : decode cX5_mean 39 = .ok (.imul, 1) := by decide +kernel
theorem dX5_mean_40 : decode cX5_mean 40 = .ok (.iconst 5, 1) := by decide +kernel
theorem dX5_mean_41 : decode cX5_mean 41 = .ok (.iload_n 2, 1) := by decide +kernel
theorem dX5_mean_42 : decode cX5_mean 42 = .ok (.imul, 1) := by decide +kernel
theorem dX5_mean_43 : decode cX5_mean 43 = .ok (.iadd, 1) := by decide +kernel
theorem dX5_mean_44 : decode cX5_mean 44 = .ok (.iload 6, 2) := by decide +kernel
theorem dX5_mean_46 : decode cX5_mean 46 = .ok (.iadd, 1) := by decide +kernel
theorem dX5_mean_47 : decode cX5_mean 47 = .ok (.iaload, 1) := by decide +kernel
theorem dX5_mean_48 : decode cX5_mean 48 = .ok (.i2l, 1) := by decide +kernel
theorem dX5_mean_49 : decode cX5_mean 49 = .ok (.aload_n 0, 1) := by decide +kernel
theorem dX5_mean_50 : decode cX5_mean 50 = .ok (.getfield 35, 3) := by decide +kernel
theorem dX5_mean_53 : decode cX5_mean 53 = .ok (.iconst 5, 1) := by decide +kernel
theorem dX5_mean_54 : decode cX5_mean 54 = .ok (.iload_n 1, 1) := by decide +kernel
theorem dX5_mean_55 : decode cX5_mean 55 = .ok (.imul, 1) := by decide +kernel
theorem dX5_mean_56 : decode cX5_mean 56 = .ok (.iload 6, 2) := by decide +kernel
theorem dX5_mean_58 : decode cX5_mean 58 = .ok (.iadd, 1) := by decide +kernel
theorem dX5_mean_59 : decode cX5_mean 59 = .ok (.iaload, 1) := by decide +kernel
theorem dX5_mean_60 : decode cX5_mean 60 = .ok (.i2l, 1) := by decide +kernel
theorem dX5_mean_61 : decode cX5_mean 61 = .ok (.lmul, 1) := by decide +kernel
theorem dX5_mean_62 : decode cX5_mean 62 = .ok (.ladd, 1) := by decide +kernel
theorem dX5_mean_63 : decode cX5_mean 63 = .ok (.lstore 4, 2) := by decide +kernel
theorem dX5_mean_65 : decode cX5_mean 65 = .ok (.iinc 6 1, 3) := by decide +kernel
theorem dX5_mean_68 : decode cX5_mean 68 = .ok (.goto (-49), 3) := by decide +kernel
theorem dX5_mean_71 : decode cX5_mean 71 = .ok (.aload_n 0, 1) := by decide +kernel
theorem dX5_mean_72 : decode cX5_mean 72 = .ok (.lload 4, 2) := by decide +kernel
theorem dX5_mean_74 : decode cX5_mean 74 = .ok (.aload_n 0, 1) := by decide +kernel
theorem dX5_mean_75 : decode cX5_mean 75 = .ok (.iload_n 1, 1) := by decide +kernel
theorem dX5_mean_76 : decode cX5_mean 76 = .ok (.iload_n 2, 1) := by decide +kernel
theorem dX5_mean_77 : decode cX5_mean 77 = .ok (.invokevirtual 133, 3) := by decide +kernel
theorem dX5_mean_80 : decode cX5_mean 80 = .ok (.i2l, 1) := by decide +kernel
theorem dX5_mean_81 : decode cX5_mean 81 = .ok (.invokevirtual 160, 3) := by decide +kernel
theorem dX5_mean_84 : decode cX5_mean 84 = .ok (.aload_n 0, 1) := by decide +kernel
theorem dX5_mean_85 : decode cX5_mean 85 = .ok (.invokevirtual 179, 3) := by decide +kernel
theorem dX5_mean_88 : decode cX5_mean 88 = .ok (.ireturn, 1) := by decide +kernel
theorem dX5_row_0 : decode cX5_row 0 = .ok (.aload_n 0, 1) := by decide +kernel
theorem dX5_row_1 : decode cX5_row 1 = .ok (.iload_n 1, 1) := by decide +kernel
theorem dX5_row_2 : decode cX5_row 2 = .ok (.invokevirtual 114, 3) := by decide +kernel
theorem dX5_row_5 : decode cX5_row 5 = .ok (.ifCond .ne 5, 3) := by decide +kernel
theorem dX5_row_8 : decode cX5_row 8 = .ok (.iconst (-1), 1) := by decide +kernel
theorem dX5_row_9 : decode cX5_row 9 = .ok (.ireturn, 1) := by decide +kernel
theorem dX5_row_10 : decode cX5_row 10 = .ok (.aload_n 0, 1) := by decide +kernel
theorem dX5_row_11 : decode cX5_row 11 = .ok (.iload_n 1, 1) := by decide +kernel
theorem dX5_row_12 : decode cX5_row 12 = .ok (.invokevirtual 130, 3) := by decide +kernel
theorem dX5_row_15 : decode cX5_row 15 = .ok (.ifCond .ne 9, 3) := by decide +kernel
theorem dX5_row_18 : decode cX5_row 18 = .ok (.aload_n 0, 1) := by decide +kernel
theorem dX5_row_19 : decode cX5_row 19 = .ok (.iconst 3, 1) := by decide +kernel
theorem dX5_row_20 : decode cX5_row 20 = .ok (.invokevirtual 96, 3) := by decide +kernel
theorem dX5_row_23 : decode cX5_row 23 = .ok (.ireturn, 1) := by decide +kernel
theorem dX5_row_24 : decode cX5_row 24 = .ok (.aload_n 0, 1) := by decide +kernel
theorem dX5_row_25 : decode cX5_row 25 = .ok (.iload_n 1, 1) := by decide +kernel
theorem dX5_row_26 : decode cX5_row 26 = .ok (.iload_n 2, 1) := by decide +kernel
theorem dX5_row_27 : decode cX5_row 27 = .ok (.invokevirtual 121, 3) := by decide +kernel
theorem dX5_row_30 : decode cX5_row 30 = .ok (.ifCond .ne 9, 3) := by decide +kernel
theorem dX5_row_33 : decode cX5_row 33 = .ok (.aload_n 0, 1) := by decide +kernel
theorem dX5_row_34 : decode cX5_row 34 = .ok (.iconst 2, 1) := by decide +kernel
theorem dX5_row_35 : decode cX5_row 35 = .ok (.invokevirtual 96, 3) := by decide +kernel
theorem dX5_row_38 : decode cX5_row 38 = .ok (.ireturn, 1) := by decide +kernel
theorem dX5_row_39 : decode cX5_row 39 = .ok (.iconst 0, 1) := by decide +kernel
theorem dX5_row_40 : decode cX5_row 40 = .ok (.istore_n 3, 1) := by decide +kernel
theorem dX5_row_41 : decode cX5_row 41 = .ok (.lconst 0, 1) := by decide +kernel
theorem dX5_row_42 : decode cX5_row 42 = .ok (.lstore 4, 2) := by decide +kernel
theorem dX5_row_44 : decode cX5_row 44 = .ok (.lconst 1, 1) := by decide +kernel
theorem dX5_row_45 : decode cX5_row 45 = .ok (.lstore 6, 2) := by decide +kernel
theorem dX5_row_47 : decode cX5_row 47 = .ok (.iconst 0, 1) := by decide +kernel
theorem dX5_row_48 : decode cX5_row 48 = .ok (.istore 8, 2) := by decide +kernel
theorem dX5_row_50 : decode cX5_row 50 = .ok (.iconst 1, 1) := by decide +kernel
theorem dX5_row_51 : decode cX5_row 51 = .ok (.istore 9, 2) := by decide +kernel
theorem dX5_row_53 : decode cX5_row 53 = .ok (.iload_n 2, 1) := by decide +kernel
theorem dX5_row_54 : decode cX5_row 54 = .ok (.iload 9, 2) := by decide +kernel
theorem dX5_row_56 : decode cX5_row 56 = .ok (.iadd, 1) := by decide +kernel
theorem dX5_row_57 : decode cX5_row 57 = .ok (.aload_n 0, 1) := by decide +kernel
theorem dX5_row_58 : decode cX5_row 58 = .ok (.getfield 29, 3) := by decide +kernel
theorem dX5_row_61 : decode cX5_row 61 = .ok (.iload_n 1, 1) := by decide +kernel
theorem dX5_row_62 : decode cX5_row 62 = .ok (.iaload, 1) := by decide +kernel
theorem dX5_row_63 : decode cX5_row 63 = .ok (.if_icmp .gt 67, 3) := by decide +kernel
theorem dX5_row_66 : decode cX5_row 66 = .ok (.iload 8, 2) := by decide +kernel
theorem dX5_row_68 : decode cX5_row 68 = .ok (.iconst 1, 1) := by decide +kernel
theorem dX5_row_69 : decode cX5_row 69 = .ok (.iload_n 2, 1) := by decide +kernel
theorem dX5_row_70 : decode cX5_row 70 = .ok (.iload 9, 2) := by decide +kernel
theorem dX5_row_72 : decode cX5_row 72 = .ok (.iadd, 1) := by decide +kernel
theorem dX5_row_73 : decode cX5_row 73 = .ok (.iconst 1, 1) := by decide +kernel
theorem dX5_row_74 : decode cX5_row 74 = .ok (.isub, 1) := by decide +kernel
theorem dX5_row_75 : decode cX5_row 75 = .ok (.ishl, 1) := by decide +kernel
theorem dX5_row_76 : decode cX5_row 76 = .ok (.ior, 1) := by decide +kernel
theorem dX5_row_77 : decode cX5_row 77 = .ok (.istore 8, 2) := by decide +kernel
theorem dX5_row_79 : decode cX5_row 79 = .ok (.aload_n 0, 1) := by decide +kernel
theorem dX5_row_80 : decode cX5_row 80 = .ok (.iload_n 1, 1) := by decide +kernel
theorem dX5_row_81 : decode cX5_row 81 = .ok (.iload_n 2, 1) := by decide +kernel
theorem dX5_row_82 : decode cX5_row 82 = .ok (.iload 8, 2) := by decide +kernel
theorem dX5_row_84 : decode cX5_row 84 = .ok (.invokevirtual 164, 3) := by decide +kernel
theorem dX5_row_87 : decode cX5_row 87 = .ok (.iload_n 3, 1) := by decide +kernel
theorem dX5_row_88 : decode cX5_row 88 = .ok (.ifCond .eq 21, 3) := by decide +kernel
theorem dX5_row_91 : decode cX5_row 91 = .ok (.aload_n 0, 1) := by decide +kernel
theorem dX5_row_92 : decode cX5_row 92 = .ok (.getfield 140, 3) := by decide +kernel
theorem dX5_row_95 : decode cX5_row 95 = .ok (.aload_n 0, 1) := by decide +kernel
theorem dX5_row_96 : decode cX5_row 96 = .ok (.getfield 143, 3) := by decide +kernel
theorem dX5_row_99 : decode cX5_row 99 = .ok (.lload 4, 2) := by decide +kernel
theorem dX5_row_101 : decode cX5_row 101 = .ok (.lload 6, 2) := by decide +kernel
theorem dX5_row_103 : decode cX5_row 103 = .ok (.invokestatic 168, 3) := by decide +kernel
theorem dX5_row_106 : decode cX5_row 106 = .ok (.ifCond .le 18, 3) := by decide +kernel
theorem dX5_row_109 : decode cX5_row 109 = .ok (.iload 9, 2) := by decide +kernel
theorem dX5_row_111 : decode cX5_row 111 = .ok (.istore_n 3, 1) := by decide +kernel
theorem dX5_row_112 : decode cX5_row 112 = .ok (.aload_n 0, 1) := by decide +kernel
theorem dX5_row_113 : decode cX5_row 113 = .ok (.getfield 140, 3) := by decide +kernel
theorem dX5_row_116 : decode cX5_row 116 = .ok (.lstore 4, 2) := by decide +kernel
theorem dX5_row_118 : decode cX5_row 118 = .ok (.aload_n 0, 1) := by decide +kernel
theorem dX5_row_119 : decode cX5_row 119 = .ok (.getfield 143, 3) := by decide +kernel
theorem dX5_row_122 : decode cX5_row 122 = .ok (.lstore 6, 2) := by decide +kernel
theorem dX5_row_124 : decode cX5_row 124 = .ok (.iinc 9 1, 3) := by decide +kernel
theorem dX5_row_127 : decode cX5_row 127 = .ok (.goto (-74), 3) := by decide +kernel
theorem dX5_row_130 : decode cX5_row 130 = .ok (.iload_n 3, 1) := by decide +kernel
theorem dX5_row_131 : decode cX5_row 131 = .ok (.ireturn, 1) := by decide +kernel
theorem dX5_least_0 : decode cX5_least 0 = .ok (.aload_n 0, 1) := by decide +kernel
theorem dX5_least_1 : decode cX5_least 1 = .ok (.iload_n 1, 1) := by decide +kernel
theorem dX5_least_2 : decode cX5_least 2 = .ok (.invokevirtual 114, 3) := by decide +kernel
theorem dX5_least_5 : decode cX5_least 5 = .ok (.ifCond .ne 5, 3) := by decide +kernel
theorem dX5_least_8 : decode cX5_least 8 = .ok (.iconst (-1), 1) := by decide +kernel
theorem dX5_least_9 : decode cX5_least 9 = .ok (.ireturn, 1) := by decide +kernel
theorem dX5_least_10 : decode cX5_least 10 = .ok (.aload_n 0, 1) := by decide +kernel
theorem dX5_least_11 : decode cX5_least 11 = .ok (.iload_n 1, 1) := by decide +kernel
theorem dX5_least_12 : decode cX5_least 12 = .ok (.invokevirtual 185, 3) := by decide +kernel
theorem dX5_least_15 : decode cX5_least 15 = .ok (.iconst 0, 1) := by decide +kernel
theorem dX5_least_16 : decode cX5_least 16 = .ok (.istore_n 2, 1) := by decide +kernel
theorem dX5_least_17 : decode cX5_least 17 = .ok (.iconst 1, 1) := by decide +kernel
theorem dX5_least_18 : decode cX5_least 18 = .ok (.istore_n 3, 1) := by decide +kernel
theorem dX5_least_19 : decode cX5_least 19 = .ok (.iload_n 3, 1) := by decide +kernel
theorem dX5_least_20 : decode cX5_least 20 = .ok (.aload_n 0, 1) := by decide +kernel
theorem dX5_least_21 : decode cX5_least 21 = .ok (.getfield 29, 3) := by decide +kernel
theorem dX5_least_24 : decode cX5_least 24 = .ok (.iload_n 1, 1) := by decide +kernel
theorem dX5_least_25 : decode cX5_least 25 = .ok (.iaload, 1) := by decide +kernel
theorem dX5_least_26 : decode cX5_least 26 = .ok (.if_icmp .ge 24, 3) := by decide +kernel
theorem dX5_least_29 : decode cX5_least 29 = .ok (.aload_n 0, 1) := by decide +kernel
theorem dX5_least_30 : decode cX5_least 30 = .ok (.iload_n 3, 1) := by decide +kernel
theorem dX5_least_31 : decode cX5_least 31 = .ok (.iload_n 2, 1) := by decide +kernel
theorem dX5_least_32 : decode cX5_least 32 = .ok (.invokevirtual 189, 3) := by decide +kernel
theorem dX5_least_35 : decode cX5_least 35 = .ok (.ifCond .ge 7, 3) := by decide +kernel
theorem dX5_least_38 : decode cX5_least 38 = .ok (.iload_n 3, 1) := by decide +kernel
theorem dX5_least_39 : decode cX5_least 39 = .ok (.goto 4, 3) := by decide +kernel
theorem dX5_least_42 : decode cX5_least 42 = .ok (.iload_n 2, 1) := by decide +kernel
theorem dX5_least_43 : decode cX5_least 43 = .ok (.istore_n 2, 1) := by decide +kernel
theorem dX5_least_44 : decode cX5_least 44 = .ok (.iinc 3 1, 3) := by decide +kernel
theorem dX5_least_47 : decode cX5_least 47 = .ok (.goto (-28), 3) := by decide +kernel
theorem dX5_least_50 : decode cX5_least 50 = .ok (.aload_n 0, 1) := by decide +kernel
theorem dX5_least_51 : decode cX5_least 51 = .ok (.aload_n 0, 1) := by decide +kernel
theorem dX5_least_52 : decode cX5_least 52 = .ok (.getfield 50, 3) := by decide +kernel
theorem dX5_least_55 : decode cX5_least 55 = .ok (.iload_n 2, 1) := by decide +kernel
theorem dX5_least_56 : decode cX5_least 56 = .ok (.laload, 1) := by decide +kernel
theorem dX5_least_57 : decode cX5_least 57 = .ok (.putfield 140, 3) := by decide +kernel
theorem dX5_least_60 : decode cX5_least 60 = .ok (.aload_n 0, 1) := by decide +kernel
theorem dX5_least_61 : decode cX5_least 61 = .ok (.aload_n 0, 1) := by decide +kernel
theorem dX5_least_62 : decode cX5_least 62 = .ok (.getfield 53, 3) := by decide +kernel
theorem dX5_least_65 : decode cX5_least 65 = .ok (.iload_n 2, 1) := by decide +kernel
theorem dX5_least_66 : decode cX5_least 66 = .ok (.laload, 1) := by decide +kernel
theorem dX5_least_67 : decode cX5_least 67 = .ok (.putfield 143, 3) := by decide +kernel
theorem dX5_least_70 : decode cX5_least 70 = .ok (.aload_n 0, 1) := by decide +kernel
theorem dX5_least_71 : decode cX5_least 71 = .ok (.invokevirtual 179, 3) := by decide +kernel
theorem dX5_least_74 : decode cX5_least 74 = .ok (.ireturn, 1) := by decide +kernel
theorem dX5_compare_0 : decode cX5_compare 0 = .ok (.aload_n 0, 1) := by decide +kernel
theorem dX5_compare_1 : decode cX5_compare 1 = .ok (.iload_n 1, 1) := by decide +kernel
theorem dX5_compare_2 : decode cX5_compare 2 = .ok (.invokevirtual 114, 3) := by decide +kernel
theorem dX5_compare_5 : decode cX5_compare 5 = .ok (.ifCond .eq 11, 3) := by decide +kernel
theorem dX5_compare_8 : decode cX5_compare 8 = .ok (.aload_n 0, 1) := by decide +kernel
theorem dX5_compare_9 : decode cX5_compare 9 = .ok (.iload_n 3, 1) := by decide +kernel
theorem dX5_compare_10 : decode cX5_compare 10 = .ok (.invokevirtual 114, 3) := by decide +kernel
theorem dX5_compare_13 : decode cX5_compare 13 = .ok (.ifCond .ne 5, 3) := by decide +kernel
theorem dX5_compare_16 : decode cX5_compare 16 = .ok (.iconst (-1), 1) := by decide +kernel
theorem dX5_compare_17 : decode cX5_compare 17 = .ok (.ireturn, 1) := by decide +kernel
theorem dX5_compare_18 : decode cX5_compare 18 = .ok (.aload_n 0, 1) := by decide +kernel
theorem dX5_compare_19 : decode cX5_compare 19 = .ok (.iload_n 1, 1) := by decide +kernel
theorem dX5_compare_20 : decode cX5_compare 20 = .ok (.iload_n 2, 1) := by decide +kernel
theorem dX5_compare_21 : decode cX5_compare 21 = .ok (.invokevirtual 121, 3) := by decide +kernel
theorem dX5_compare_24 : decode cX5_compare 24 = .ok (.ifCond .eq 13, 3) := by decide +kernel
theorem dX5_compare_27 : decode cX5_compare 27 = .ok (.aload_n 0, 1) := by decide +kernel
theorem dX5_compare_28 : decode cX5_compare 28 = .ok (.iload_n 3, 1) := by decide +kernel
theorem dX5_compare_29 : decode cX5_compare 29 = .ok (.iload 4, 2) := by decide +kernel
theorem dX5_compare_31 : decode cX5_compare 31 = .ok (.invokevirtual 121, 3) := by decide +kernel
theorem dX5_compare_34 : decode cX5_compare 34 = .ok (.ifCond .ne 9, 3) := by decide +kernel
theorem dX5_compare_37 : decode cX5_compare 37 = .ok (.aload_n 0, 1) := by decide +kernel
theorem dX5_compare_38 : decode cX5_compare 38 = .ok (.iconst 2, 1) := by decide +kernel
theorem dX5_compare_39 : decode cX5_compare 39 = .ok (.invokevirtual 96, 3) := by decide +kernel
theorem dX5_compare_42 : decode cX5_compare 42 = .ok (.ireturn, 1) := by decide +kernel
theorem dX5_compare_43 : decode cX5_compare 43 = .ok (.aload_n 0, 1) := by decide +kernel
theorem dX5_compare_44 : decode cX5_compare 44 = .ok (.iload_n 1, 1) := by decide +kernel
theorem dX5_compare_45 : decode cX5_compare 45 = .ok (.iload_n 2, 1) := by decide +kernel
theorem dX5_compare_46 : decode cX5_compare 46 = .ok (.invokevirtual 175, 3) := by decide +kernel
theorem dX5_compare_49 : decode cX5_compare 49 = .ok (.aload_n 0, 1) := by decide +kernel
theorem dX5_compare_50 : decode cX5_compare 50 = .ok (.getfield 140, 3) := by decide +kernel
theorem dX5_compare_53 : decode cX5_compare 53 = .ok (.lstore 5, 2) := by decide +kernel
theorem dX5_compare_55 : decode cX5_compare 55 = .ok (.aload_n 0, 1) := by decide +kernel
theorem dX5_compare_56 : decode cX5_compare 56 = .ok (.getfield 143, 3) := by decide +kernel
theorem dX5_compare_59 : decode cX5_compare 59 = .ok (.lstore 7, 2) := by decide +kernel
theorem dX5_compare_61 : decode cX5_compare 61 = .ok (.aload_n 0, 1) := by decide +kernel
theorem dX5_compare_62 : decode cX5_compare 62 = .ok (.iload_n 3, 1) := by decide +kernel
theorem dX5_compare_63 : decode cX5_compare 63 = .ok (.iload 4, 2) := by decide +kernel
theorem dX5_compare_65 : decode cX5_compare 65 = .ok (.invokevirtual 175, 3) := by decide +kernel
theorem dX5_compare_68 : decode cX5_compare 68 = .ok (.lload 5, 2) := by decide +kernel
theorem dX5_compare_70 : decode cX5_compare 70 = .ok (.lload 7, 2) := by decide +kernel
theorem dX5_compare_72 : decode cX5_compare 72 = .ok (.aload_n 0, 1) := by decide +kernel
theorem dX5_compare_73 : decode cX5_compare 73 = .ok (.getfield 140, 3) := by decide +kernel
theorem dX5_compare_76 : decode cX5_compare 76 = .ok (.aload_n 0, 1) := by decide +kernel
theorem dX5_compare_77 : decode cX5_compare 77 = .ok (.getfield 143, 3) := by decide +kernel
theorem dX5_compare_80 : decode cX5_compare 80 = .ok (.invokestatic 168, 3) := by decide +kernel
theorem dX5_compare_83 : decode cX5_compare 83 = .ok (.istore 9, 2) := by decide +kernel
theorem dX5_compare_85 : decode cX5_compare 85 = .ok (.iload 9, 2) := by decide +kernel
theorem dX5_compare_87 : decode cX5_compare 87 = .ok (.ifCond .le 7, 3) := by decide +kernel
theorem dX5_compare_90 : decode cX5_compare 90 = .ok (.iconst 1, 1) := by decide +kernel
theorem dX5_compare_91 : decode cX5_compare 91 = .ok (.goto 13, 3) := by decide +kernel
theorem dX5_compare_94 : decode cX5_compare 94 = .ok (.iload 9, 2) := by decide +kernel
theorem dX5_compare_96 : decode cX5_compare 96 = .ok (.ifCond .ne 7, 3) := by decide +kernel
theorem dX5_compare_99 : decode cX5_compare 99 = .ok (.iconst 0, 1) := by decide +kernel
theorem dX5_compare_100 : decode cX5_compare 100 = .ok (.goto 4, 3) := by decide +kernel
theorem dX5_compare_103 : decode cX5_compare 103 = .ok (.iconst 2, 1) := by decide +kernel
theorem dX5_compare_104 : decode cX5_compare 104 = .ok (.ireturn, 1) := by decide +kernel
theorem dX5_seed_0 : decode cX5_seed 0 = .ok (.iload_n 1, 1) := by decide +kernel
theorem dX5_seed_1 : decode cX5_seed 1 = .ok (.ifCond .ge 5, 3) := by decide +kernel
theorem dX5_seed_4 : decode cX5_seed 4 = .ok (.iconst (-1), 1) := by decide +kernel
theorem dX5_seed_5 : decode cX5_seed 5 = .ok (.ireturn, 1) := by decide +kernel
theorem dX5_seed_6 : decode cX5_seed 6 = .ok (.aload_n 0, 1) := by decide +kernel
theorem dX5_seed_7 : decode cX5_seed 7 = .ok (.getfield 69, 3) := by decide +kernel
theorem dX5_seed_10 : decode cX5_seed 10 = .ok (.istore_n 2, 1) := by decide +kernel
theorem dX5_seed_11 : decode cX5_seed 11 = .ok (.aload_n 0, 1) := by decide +kernel
theorem dX5_seed_12 : decode cX5_seed 12 = .ok (.iload_n 1, 1) := by decide +kernel
theorem dX5_seed_13 : decode cX5_seed 13 = .ok (.putfield 69, 3) := by decide +kernel
theorem dX5_seed_16 : decode cX5_seed 16 = .ok (.iload_n 2, 1) := by decide +kernel
theorem dX5_seed_17 : decode cX5_seed 17 = .ok (.ireturn, 1) := by decide +kernel
theorem dX5_best_0 : decode cX5_best 0 = .ok (.bipush (-9), 2) := by decide +kernel
theorem dX5_best_2 : decode cX5_best 2 = .ok (.istore_n 1, 1) := by decide +kernel
theorem dX5_best_3 : decode cX5_best 3 = .ok (.lconst 0, 1) := by decide +kernel
theorem dX5_best_4 : decode cX5_best 4 = .ok (.lstore_n 2, 1) := by decide +kernel
theorem dX5_best_5 : decode cX5_best 5 = .ok (.lconst 1, 1) := by decide +kernel
theorem dX5_best_6 : decode cX5_best 6 = .ok (.lstore 4, 2) := by decide +kernel
theorem dX5_best_8 : decode cX5_best 8 = .ok (.iconst 0, 1) := by decide +kernel
theorem dX5_best_9 : decode cX5_best 9 = .ok (.istore 6, 2) := by decide +kernel
theorem dX5_best_11 : decode cX5_best 11 = .ok (.iload 6, 2) := by decide +kernel
theorem dX5_best_13 : decode cX5_best 13 = .ok (.aload_n 0, 1) := by decide +kernel
theorem dX5_best_14 : decode cX5_best 14 = .ok (.getfield 111, 3) := by decide +kernel
theorem dX5_best_17 : decode cX5_best 17 = .ok (.if_icmp .ge 59, 3) := by decide +kernel
theorem dX5_best_20 : decode cX5_best 20 = .ok (.aload_n 0, 1) := by decide +kernel
theorem dX5_best_21 : decode cX5_best 21 = .ok (.iload 6, 2) := by decide +kernel
theorem dX5_best_23 : decode cX5_best 23 = .ok (.aload_n 0, 1) := by decide +kernel
theorem dX5_best_24 : decode cX5_best 24 = .ok (.getfield 32, 3) := by decide +kernel
theorem dX5_best_27 : decode cX5_best 27 = .ok (.iload 6, 2) := by decide +kernel
theorem dX5_best_29 : decode cX5_best 29 = .ok (.iaload, 1) := by decide +kernel
theorem dX5_best_30 : decode cX5_best 30 = .ok (.invokevirtual 175, 3) := by decide +kernel
theorem dX5_best_33 : decode cX5_best 33 = .ok (.iload_n 1, 1) := by decide +kernel
theorem dX5_best_34 : decode cX5_best 34 = .ok (.bipush (-9), 2) := by decide +kernel
theorem dX5_best_36 : decode cX5_best 36 = .ok (.if_icmp .eq 20, 3) := by decide +kernel
theorem dX5_best_39 : decode cX5_best 39 = .ok (.aload_n 0, 1) := by decide +kernel
theorem dX5_best_40 : decode cX5_best 40 = .ok (.getfield 140, 3) := by decide +kernel
theorem dX5_best_43 : decode cX5_best 43 = .ok (.aload_n 0, 1) := by decide +kernel
theorem dX5_best_44 : decode cX5_best 44 = .ok (.getfield 143, 3) := by decide +kernel
theorem dX5_best_47 : decode cX5_best 47 = .ok (.lload_n 2, 1) := by decide +kernel
theorem dX5_best_48 : decode cX5_best 48 = .ok (.lload 4, 2) := by decide +kernel
theorem dX5_best_50 : decode cX5_best 50 = .ok (.invokestatic 168, 3) := by decide +kernel
theorem dX5_best_53 : decode cX5_best 53 = .ok (.ifCond .le 17, 3) := by decide +kernel
theorem dX5_best_56 : decode cX5_best 56 = .ok (.iload 6, 2) := by decide +kernel
theorem dX5_best_58 : decode cX5_best 58 = .ok (.istore_n 1, 1) := by decide +kernel
theorem dX5_best_59 : decode cX5_best 59 = .ok (.aload_n 0, 1) := by decide +kernel
theorem dX5_best_60 : decode cX5_best 60 = .ok (.getfield 140, 3) := by decide +kernel
theorem dX5_best_63 : decode cX5_best 63 = .ok (.lstore_n 2, 1) := by decide +kernel
theorem dX5_best_64 : decode cX5_best 64 = .ok (.aload_n 0, 1) := by decide +kernel
theorem dX5_best_65 : decode cX5_best 65 = .ok (.getfield 143, 3) := by decide +kernel
theorem dX5_best_68 : decode cX5_best 68 = .ok (.lstore 4, 2) := by decide +kernel
theorem dX5_best_70 : decode cX5_best 70 = .ok (.iinc 6 1, 3) := by decide +kernel
theorem dX5_best_73 : decode cX5_best 73 = .ok (.goto (-62), 3) := by decide +kernel
theorem dX5_best_76 : decode cX5_best 76 = .ok (.iload_n 1, 1) := by decide +kernel
theorem dX5_best_77 : decode cX5_best 77 = .ok (.ireturn, 1) := by decide +kernel
theorem dX5_works_0 : decode cX5_works 0 = .ok (.aload_n 0, 1) := by decide +kernel
theorem dX5_works_1 : decode cX5_works 1 = .ok (.getfield 32, 3) := by decide +kernel
theorem dX5_works_4 : decode cX5_works 4 = .ok (.iload_n 1, 1) := by decide +kernel
theorem dX5_works_5 : decode cX5_works 5 = .ok (.iaload, 1) := by decide +kernel
theorem dX5_works_6 : decode cX5_works 6 = .ok (.istore_n 2, 1) := by decide +kernel
theorem dX5_works_7 : decode cX5_works 7 = .ok (.aload_n 0, 1) := by decide +kernel
theorem dX5_works_8 : decode cX5_works 8 = .ok (.getfield 35, 3) := by decide +kernel
theorem dX5_works_11 : decode cX5_works 11 = .ok (.iconst 5, 1) := by decide +kernel
theorem dX5_works_12 : decode cX5_works 12 = .ok (.iload_n 1, 1) := by decide +kernel
theorem dX5_works_13 : decode cX5_works 13 = .ok (.imul, 1) := by decide +kernel
theorem dX5_works_14 : decode cX5_works 14 = .ok (.iload_n 2, 1) := by decide +kernel
theorem dX5_works_15 : decode cX5_works 15 = .ok (.iadd, 1) := by decide +kernel
theorem dX5_works_16 : decode cX5_works 16 = .ok (.iaload, 1) := by decide +kernel
theorem dX5_works_17 : decode cX5_works 17 = .ok (.istore_n 3, 1) := by decide +kernel
theorem dX5_works_18 : decode cX5_works 18 = .ok (.aload_n 0, 1) := by decide +kernel
theorem dX5_works_19 : decode cX5_works 19 = .ok (.dup, 1) := by decide +kernel
theorem dX5_works_20 : decode cX5_works 20 = .ok (.getfield 196, 3) := by decide +kernel
theorem dX5_works_23 : decode cX5_works 23 = .ok (.iload_n 3, 1) := by decide +kernel
theorem dX5_works_24 : decode cX5_works 24 = .ok (.i2l, 1) := by decide +kernel
theorem dX5_works_25 : decode cX5_works 25 = .ok (.ladd, 1) := by decide +kernel
theorem dX5_works_26 : decode cX5_works 26 = .ok (.putfield 196, 3) := by decide +kernel
theorem dX5_works_29 : decode cX5_works 29 = .ok (.aload_n 0, 1) := by decide +kernel
theorem dX5_works_30 : decode cX5_works 30 = .ok (.getfield 41, 3) := by decide +kernel
theorem dX5_works_33 : decode cX5_works 33 = .ok (.iload_n 1, 1) := by decide +kernel
theorem dX5_works_34 : decode cX5_works 34 = .ok (.dup2, 1) := by decide +kernel
theorem dX5_works_35 : decode cX5_works 35 = .ok (.iaload, 1) := by decide +kernel
theorem dX5_works_36 : decode cX5_works 36 = .ok (.iconst 1, 1) := by decide +kernel
theorem dX5_works_37 : decode cX5_works 37 = .ok (.iadd, 1) := by decide +kernel
theorem dX5_works_38 : decode cX5_works 38 = .ok (.iastore, 1) := by decide +kernel
theorem dX5_works_39 : decode cX5_works 39 = .ok (.aload_n 0, 1) := by decide +kernel
theorem dX5_works_40 : decode cX5_works 40 = .ok (.aload_n 0, 1) := by decide +kernel
theorem dX5_works_41 : decode cX5_works 41 = .ok (.getfield 69, 3) := by decide +kernel
theorem dX5_works_44 : decode cX5_works 44 = .ok (.i2l, 1) := by decide +kernel
theorem dX5_works_45 : decode cX5_works 45 = .ok (.ldc2_w 199, 3) := by decide +kernel
theorem dX5_works_48 : decode cX5_works 48 = .ok (.lmul, 1) := by decide +kernel
theorem dX5_works_49 : decode cX5_works 49 = .ok (.ldc2_w 201, 3) := by decide +kernel
theorem dX5_works_52 : decode cX5_works 52 = .ok (.ladd, 1) := by decide +kernel
theorem dX5_works_53 : decode cX5_works 53 = .ok (.ldc2_w 203, 3) := by decide +kernel
theorem dX5_works_56 : decode cX5_works 56 = .ok (.lrem, 1) := by decide +kernel
theorem dX5_works_57 : decode cX5_works 57 = .ok (.l2i, 1) := by decide +kernel
theorem dX5_works_58 : decode cX5_works 58 = .ok (.putfield 69, 3) := by decide +kernel
theorem dX5_works_61 : decode cX5_works 61 = .ok (.aload_n 0, 1) := by decide +kernel
theorem dX5_works_62 : decode cX5_works 62 = .ok (.getfield 69, 3) := by decide +kernel
theorem dX5_works_65 : decode cX5_works 65 = .ok (.ldc 205, 2) := by decide +kernel
theorem dX5_works_67 : decode cX5_works 67 = .ok (.idiv, 1) := by decide +kernel
theorem dX5_works_68 : decode cX5_works 68 = .ok (.aload_n 0, 1) := by decide +kernel
theorem dX5_works_69 : decode cX5_works 69 = .ok (.iload_n 1, 1) := by decide +kernel
theorem dX5_works_70 : decode cX5_works 70 = .ok (.iload_n 2, 1) := by decide +kernel
theorem dX5_works_71 : decode cX5_works 71 = .ok (.invokevirtual 133, 3) := by decide +kernel
theorem dX5_works_74 : decode cX5_works 74 = .ok (.irem, 1) := by decide +kernel
theorem dX5_works_75 : decode cX5_works 75 = .ok (.istore 4, 2) := by decide +kernel
theorem dX5_works_77 : decode cX5_works 77 = .ok (.iconst 0, 1) := by decide +kernel
theorem dX5_works_78 : decode cX5_works 78 = .ok (.istore 5, 2) := by decide +kernel
theorem dX5_works_80 : decode cX5_works 80 = .ok (.aload_n 0, 1) := by decide +kernel
theorem dX5_works_81 : decode cX5_works 81 = .ok (.getfield 38, 3) := by decide +kernel
theorem dX5_works_84 : decode cX5_works 84 = .ok (.bipush 25, 2) := by decide +kernel
theorem dX5_works_86 : decode cX5_works 86 = .ok (.iload_n 1, 1) := by decide +kernel
theorem dX5_works_87 : decode cX5_works 87 = .ok (.imul, 1) := by decide +kernel
theorem dX5_works_88 : decode cX5_works 88 = .ok (.iconst 5, 1) := by decide +kernel
theorem dX5_works_89 : decode cX5_works 89 = .ok (.iload_n 2, 1) := by decide +kernel
theorem dX5_works_90 : decode cX5_works 90 = .ok (.imul, 1) := by decide +kernel
theorem dX5_works_91 : decode cX5_works 91 = .ok (.iadd, 1) := by decide +kernel
theorem dX5_works_92 : decode cX5_works 92 = .ok (.iaload, 1) := by decide +kernel
theorem dX5_works_93 : decode cX5_works 93 = .ok (.istore 6, 2) := by decide +kernel
theorem dX5_works_95 : decode cX5_works 95 = .ok (.iload 6, 2) := by decide +kernel
theorem dX5_works_97 : decode cX5_works 97 = .ok (.iload 4, 2) := by decide +kernel
theorem dX5_works_99 : decode cX5_works 99 = .ok (.if_icmp .gt 30, 3) := by decide +kernel
theorem dX5_works_102 : decode cX5_works 102 = .ok (.iinc 5 1, 3) := by decide +kernel
theorem dX5_works_105 : decode cX5_works 105 = .ok (.iload 6, 2) := by decide +kernel
theorem dX5_works_107 : decode cX5_works 107 = .ok (.aload_n 0, 1) := by decide +kernel
theorem dX5_works_108 : decode cX5_works 108 = .ok (.getfield 38, 3) := by decide +kernel
theorem dX5_works_111 : decode cX5_works 111 = .ok (.bipush 25, 2) := by decide +kernel
theorem dX5_works_113 : decode cX5_works 113 = .ok (.iload_n 1, 1) := by decide +kernel
theorem dX5_works_114 : decode cX5_works 114 = .ok (.imul, 1) := by decide +kernel
theorem dX5_works_115 : decode cX5_works 115 = .ok (.iconst 5, 1) := by decide +kernel
theorem dX5_works_116 : decode cX5_works 116 = .ok (.iload_n 2, 1) := by decide +kernel
theorem dX5_works_117 : decode cX5_works 117 = .ok (.imul, 1) := by decide +kernel
theorem dX5_works_118 : decode cX5_works 118 = .ok (.iadd, 1) := by decide +kernel
theorem dX5_works_119 : decode cX5_works 119 = .ok (.iload 5, 2) := by decide +kernel
theorem dX5_works_121 : decode cX5_works 121 = .ok (.iadd, 1) := by decide +kernel
theorem dX5_works_122 : decode cX5_works 122 = .ok (.iaload, 1) := by decide +kernel
theorem dX5_works_123 : decode cX5_works 123 = .ok (.iadd, 1) := by decide +kernel
theorem dX5_works_124 : decode cX5_works 124 = .ok (.istore 6, 2) := by decide +kernel
theorem dX5_works_126 : decode cX5_works 126 = .ok (.goto (-31), 3) := by decide +kernel
theorem dX5_works_129 : decode cX5_works 129 = .ok (.aload_n 0, 1) := by decide +kernel
theorem dX5_works_130 : decode cX5_works 130 = .ok (.getfield 32, 3) := by decide +kernel
theorem dX5_works_133 : decode cX5_works 133 = .ok (.iload_n 1, 1) := by decide +kernel
theorem dX5_works_134 : decode cX5_works 134 = .ok (.iload 5, 2) := by decide +kernel
theorem dX5_works_136 : decode cX5_works 136 = .ok (.iastore, 1) := by decide +kernel
theorem dX5_works_137 : decode cX5_works 137 = .ok (.iload_n 3, 1) := by decide +kernel
theorem dX5_works_138 : decode cX5_works 138 = .ok (.ireturn, 1) := by decide +kernel
theorem dX5_work_0 : decode cX5_work 0 = .ok (.aload_n 0, 1) := by decide +kernel
theorem dX5_work_1 : decode cX5_work 1 = .ok (.iload_n 1, 1) := by decide +kernel
theorem dX5_work_2 : decode cX5_work 2 = .ok (.invokevirtual 114, 3) := by decide +kernel
theorem dX5_work_5 : decode cX5_work 5 = .ok (.ifCond .ne 5, 3) := by decide +kernel
theorem dX5_work_8 : decode cX5_work 8 = .ok (.iconst (-1), 1) := by decide +kernel
theorem dX5_work_9 : decode cX5_work 9 = .ok (.ireturn, 1) := by decide +kernel
theorem dX5_work_10 : decode cX5_work 10 = .ok (.aload_n 0, 1) := by decide +kernel
theorem dX5_work_11 : decode cX5_work 11 = .ok (.iload_n 1, 1) := by decide +kernel
theorem dX5_work_12 : decode cX5_work 12 = .ok (.invokevirtual 206, 3) := by decide +kernel
theorem dX5_work_15 : decode cX5_work 15 = .ok (.istore_n 2, 1) := by decide +kernel
theorem dX5_work_16 : decode cX5_work 16 = .ok (.aload_n 0, 1) := by decide +kernel
theorem dX5_work_17 : decode cX5_work 17 = .ok (.getfield 32, 3) := by decide +kernel
theorem dX5_work_20 : decode cX5_work 20 = .ok (.iload_n 1, 1) := by decide +kernel
theorem dX5_work_21 : decode cX5_work 21 = .ok (.iaload, 1) := by decide +kernel
theorem dX5_work_22 : decode cX5_work 22 = .ok (.ireturn, 1) := by decide +kernel
theorem dX5_run_0 : decode cX5_run 0 = .ok (.iload_n 1, 1) := by decide +kernel
theorem dX5_run_1 : decode cX5_run 1 = .ok (.i2l, 1) := by decide +kernel
theorem dX5_run_2 : decode cX5_run 2 = .ok (.lconst 0, 1) := by decide +kernel
theorem dX5_run_3 : decode cX5_run 3 = .ok (.ldc2_w 209, 3) := by decide +kernel
theorem dX5_run_6 : decode cX5_run 6 = .ok (.invokestatic 81, 3) := by decide +kernel
theorem dX5_run_9 : decode cX5_run 9 = .ok (.ifCond .ne 6, 3) := by decide +kernel
theorem dX5_run_12 : decode cX5_run 12 = .ok (.ldc 211, 2) := by decide +kernel
theorem dX5_run_14 : decode cX5_run 14 = .ok (.ireturn, 1) := by decide +kernel
theorem dX5_run_15 : decode cX5_run 15 = .ok (.aload_n 0, 1) := by decide +kernel
theorem dX5_run_16 : decode cX5_run 16 = .ok (.getfield 111, 3) := by decide +kernel
theorem dX5_run_19 : decode cX5_run 19 = .ok (.ifCond .ne 6, 3) := by decide +kernel
theorem dX5_run_22 : decode cX5_run 22 = .ok (.ldc 212, 2) := by decide +kernel
theorem dX5_run_24 : decode cX5_run 24 = .ok (.ireturn, 1) := by decide +kernel
theorem dX5_run_25 : decode cX5_run 25 = .ok (.iconst 0, 1) := by decide +kernel
theorem dX5_run_26 : decode cX5_run 26 = .ok (.istore_n 2, 1) := by decide +kernel
theorem dX5_run_27 : decode cX5_run 27 = .ok (.aload_n 0, 1) := by decide +kernel
theorem dX5_run_28 : decode cX5_run 28 = .ok (.iload_n 1, 1) := by decide +kernel
theorem dX5_run_29 : decode cX5_run 29 = .ok (.putfield 213, 3) := by decide +kernel
theorem dX5_run_32 : decode cX5_run 32 = .ok (.iconst 0, 1) := by decide +kernel
theorem dX5_run_33 : decode cX5_run 33 = .ok (.istore_n 3, 1) := by decide +kernel
theorem dX5_run_34 : decode cX5_run 34 = .ok (.iload_n 3, 1) := by decide +kernel
theorem dX5_run_35 : decode cX5_run 35 = .ok (.iload_n 1, 1) := by decide +kernel
theorem dX5_run_36 : decode cX5_run 36 = .ok (.if_icmp .ge 39, 3) := by decide +kernel
theorem dX5_run_39 : decode cX5_run 39 = .ok (.aload_n 0, 1) := by decide +kernel
theorem dX5_run_40 : decode cX5_run 40 = .ok (.invokevirtual 216, 3) := by decide +kernel
theorem dX5_run_43 : decode cX5_run 43 = .ok (.istore 4, 2) := by decide +kernel
theorem dX5_run_45 : decode cX5_run 45 = .ok (.iload_n 2, 1) := by decide +kernel
theorem dX5_run_46 : decode cX5_run 46 = .ok (.aload_n 0, 1) := by decide +kernel
theorem dX5_run_47 : decode cX5_run 47 = .ok (.iload 4, 2) := by decide +kernel
theorem dX5_run_49 : decode cX5_run 49 = .ok (.invokevirtual 206, 3) := by decide +kernel
theorem dX5_run_52 : decode cX5_run 52 = .ok (.iadd, 1) := by decide +kernel
theorem dX5_run_53 : decode cX5_run 53 = .ok (.istore_n 2, 1) := by decide +kernel
theorem dX5_run_54 : decode cX5_run 54 = .ok (.iload_n 3, 1) := by decide +kernel
theorem dX5_run_55 : decode cX5_run 55 = .ok (.sipush 200, 3) := by decide +kernel
theorem dX5_run_58 : decode cX5_run 58 = .ok (.if_icmp .ge 11, 3) := by decide +kernel
theorem dX5_run_61 : decode cX5_run 61 = .ok (.aload_n 0, 1) := by decide +kernel
theorem dX5_run_62 : decode cX5_run 62 = .ok (.getfield 59, 3) := by decide +kernel
theorem dX5_run_65 : decode cX5_run 65 = .ok (.iload_n 3, 1) := by decide +kernel
theorem dX5_run_66 : decode cX5_run 66 = .ok (.iload 4, 2) := by decide +kernel
theorem dX5_run_68 : decode cX5_run 68 = .ok (.iastore, 1) := by decide +kernel
theorem dX5_run_69 : decode cX5_run 69 = .ok (.iinc 3 1, 3) := by decide +kernel
theorem dX5_run_72 : decode cX5_run 72 = .ok (.goto (-38), 3) := by decide +kernel
theorem dX5_run_75 : decode cX5_run 75 = .ok (.iload_n 2, 1) := by decide +kernel
theorem dX5_run_76 : decode cX5_run 76 = .ok (.ireturn, 1) := by decide +kernel
theorem dX5_step_0 : decode cX5_step 0 = .ok (.iload_n 1, 1) := by decide +kernel
theorem dX5_step_1 : decode cX5_step 1 = .ok (.i2l, 1) := by decide +kernel
theorem dX5_step_2 : decode cX5_step 2 = .ok (.lconst 0, 1) := by decide +kernel
theorem dX5_step_3 : decode cX5_step 3 = .ok (.aload_n 0, 1) := by decide +kernel
theorem dX5_step_4 : decode cX5_step 4 = .ok (.getfield 213, 3) := by decide +kernel
theorem dX5_step_7 : decode cX5_step 7 = .ok (.sipush 200, 3) := by decide +kernel
theorem dX5_step_10 : decode cX5_step 10 = .ok (.if_icmp .ge 10, 3) := by decide +kernel
theorem dX5_step_13 : decode cX5_step 13 = .ok (.aload_n 0, 1) := by decide +kernel
theorem dX5_step_14 : decode cX5_step 14 = .ok (.getfield 213, 3) := by decide +kernel
theorem dX5_step_17 : decode cX5_step 17 = .ok (.goto 6, 3) := by decide +kernel
theorem dX5_step_20 : decode cX5_step 20 = .ok (.sipush 200, 3) := by decide +kernel
theorem dX5_step_23 : decode cX5_step 23 = .ok (.iconst 1, 1) := by decide +kernel
theorem dX5_step_24 : decode cX5_step 24 = .ok (.isub, 1) := by decide +kernel
theorem dX5_step_25 : decode cX5_step 25 = .ok (.i2l, 1) := by decide +kernel
theorem dX5_step_26 : decode cX5_step 26 = .ok (.invokestatic 81, 3) := by decide +kernel
theorem dX5_step_29 : decode cX5_step 29 = .ok (.ifCond .eq 12, 3) := by decide +kernel
theorem dX5_step_32 : decode cX5_step 32 = .ok (.aload_n 0, 1) := by decide +kernel
theorem dX5_step_33 : decode cX5_step 33 = .ok (.getfield 59, 3) := by decide +kernel
theorem dX5_step_36 : decode cX5_step 36 = .ok (.iload_n 1, 1) := by decide +kernel
theorem dX5_step_37 : decode cX5_step 37 = .ok (.iaload, 1) := by decide +kernel
theorem dX5_step_38 : decode cX5_step 38 = .ok (.goto 5, 3) := by decide +kernel
theorem dX5_step_41 : decode cX5_step 41 = .ok (.bipush (-9), 2) := by decide +kernel
theorem dX5_step_43 : decode cX5_step 43 = .ok (.ireturn, 1) := by decide +kernel
theorem dX5_worked_0 : decode cX5_worked 0 = .ok (.aload_n 0, 1) := by decide +kernel
theorem dX5_worked_1 : decode cX5_worked 1 = .ok (.iload_n 1, 1) := by decide +kernel
theorem dX5_worked_2 : decode cX5_worked 2 = .ok (.invokevirtual 114, 3) := by decide +kernel
theorem dX5_worked_5 : decode cX5_worked 5 = .ok (.ifCond .eq 12, 3) := by decide +kernel
theorem dX5_worked_8 : decode cX5_worked 8 = .ok (.aload_n 0, 1) := by decide +kernel
theorem dX5_worked_9 : decode cX5_worked 9 = .ok (.getfield 41, 3) := by decide +kernel
theorem dX5_worked_12 : decode cX5_worked 12 = .ok (.iload_n 1, 1) := by decide +kernel
theorem dX5_worked_13 : decode cX5_worked 13 = .ok (.iaload, 1) := by decide +kernel
theorem dX5_worked_14 : decode cX5_worked 14 = .ok (.goto 4, 3) := by decide +kernel
theorem dX5_worked_17 : decode cX5_worked 17 = .ok (.iconst (-1), 1) := by decide +kernel
theorem dX5_worked_18 : decode cX5_worked 18 = .ok (.ireturn, 1) := by decide +kernel
theorem dX5_paid_0 : decode cX5_paid 0 = .ok (.aload_n 0, 1) := by decide +kernel
theorem dX5_paid_1 : decode cX5_paid 1 = .ok (.getfield 196, 3) := by decide +kernel
theorem dX5_paid_4 : decode cX5_paid 4 = .ok (.lreturn, 1) := by decide +kernel
theorem dX5_fail_0 : decode cX5_fail 0 = .ok (.aload_n 0, 1) := by decide +kernel
theorem dX5_fail_1 : decode cX5_fail 1 = .ok (.iload_n 1, 1) := by decide +kernel
theorem dX5_fail_2 : decode cX5_fail 2 = .ok (.invokevirtual 114, 3) := by decide +kernel
theorem dX5_fail_5 : decode cX5_fail 5 = .ok (.ifCond .eq 15, 3) := by decide +kernel
theorem dX5_fail_8 : decode cX5_fail 8 = .ok (.iload_n 2, 1) := by decide +kernel
theorem dX5_fail_9 : decode cX5_fail 9 = .ok (.i2l, 1) := by decide +kernel
theorem dX5_fail_10 : decode cX5_fail 10 = .ok (.lconst 0, 1) := by decide +kernel
theorem dX5_fail_11 : decode cX5_fail 11 = .ok (.ldc2_w 87, 3) := by decide +kernel
theorem dX5_fail_14 : decode cX5_fail 14 = .ok (.invokestatic 81, 3) := by decide +kernel
theorem dX5_fail_17 : decode cX5_fail 17 = .ok (.ifCond .ne 7, 3) := by decide +kernel
theorem dX5_fail_20 : decode cX5_fail 20 = .ok (.iconst (-1), 1) := by decide +kernel
theorem dX5_fail_21 : decode cX5_fail 21 = .ok (.goto 26, 3) := by decide +kernel
theorem dX5_fail_24 : decode cX5_fail 24 = .ok (.iload_n 2, 1) := by decide +kernel
theorem dX5_fail_25 : decode cX5_fail 25 = .ok (.iconst 1, 1) := by decide +kernel
theorem dX5_fail_26 : decode cX5_fail 26 = .ok (.if_icmp .ne 7, 3) := by decide +kernel
theorem dX5_fail_29 : decode cX5_fail 29 = .ok (.iconst 2, 1) := by decide +kernel
theorem dX5_fail_30 : decode cX5_fail 30 = .ok (.goto 17, 3) := by decide +kernel
theorem dX5_fail_33 : decode cX5_fail 33 = .ok (.aload_n 0, 1) := by decide +kernel
theorem dX5_fail_34 : decode cX5_fail 34 = .ok (.iload_n 2, 1) := by decide +kernel
theorem dX5_fail_35 : decode cX5_fail 35 = .ok (.ifCond .ne 8, 3) := by decide +kernel
theorem dX5_fail_38 : decode cX5_fail 38 = .ok (.bipush 6, 2) := by decide +kernel
theorem dX5_fail_40 : decode cX5_fail 40 = .ok (.goto 4, 3) := by decide +kernel
theorem dX5_fail_43 : decode cX5_fail 43 = .ok (.iconst 2, 1) := by decide +kernel
theorem dX5_fail_44 : decode cX5_fail 44 = .ok (.invokevirtual 96, 3) := by decide +kernel
theorem dX5_fail_47 : decode cX5_fail 47 = .ok (.ireturn, 1) := by decide +kernel
theorem dX5_count_0 : decode cX5_count 0 = .ok (.iload_n 1, 1) := by decide +kernel
theorem dX5_count_1 : decode cX5_count 1 = .ok (.tableswitch 60 0 4 #[35, 40, 45, 50, 55], 35) := by decide +kernel
theorem dX5_count_36 : decode cX5_count 36 = .ok (.aload_n 0, 1) := by decide +kernel
theorem dX5_count_37 : decode cX5_count 37 = .ok (.getfield 111, 3) := by decide +kernel
theorem dX5_count_40 : decode cX5_count 40 = .ok (.ireturn, 1) := by decide +kernel
theorem dX5_count_41 : decode cX5_count 41 = .ok (.aload_n 0, 1) := by decide +kernel
theorem dX5_count_42 : decode cX5_count 42 = .ok (.getfield 91, 3) := by decide +kernel
theorem dX5_count_45 : decode cX5_count 45 = .ok (.ireturn, 1) := by decide +kernel
theorem dX5_count_46 : decode cX5_count 46 = .ok (.aload_n 0, 1) := by decide +kernel
theorem dX5_count_47 : decode cX5_count 47 = .ok (.getfield 62, 3) := by decide +kernel
theorem dX5_count_50 : decode cX5_count 50 = .ok (.ireturn, 1) := by decide +kernel
theorem dX5_count_51 : decode cX5_count 51 = .ok (.aload_n 0, 1) := by decide +kernel
theorem dX5_count_52 : decode cX5_count 52 = .ok (.getfield 66, 3) := by decide +kernel
theorem dX5_count_55 : decode cX5_count 55 = .ok (.ireturn, 1) := by decide +kernel
theorem dX5_count_56 : decode cX5_count 56 = .ok (.aload_n 0, 1) := by decide +kernel
theorem dX5_count_57 : decode cX5_count 57 = .ok (.getfield 69, 3) := by decide +kernel
theorem dX5_count_60 : decode cX5_count 60 = .ok (.ireturn, 1) := by decide +kernel
theorem dX5_count_61 : decode cX5_count 61 = .ok (.iconst (-1), 1) := by decide +kernel
theorem dX5_count_62 : decode cX5_count 62 = .ok (.ireturn, 1) := by decide +kernel
theorem dX5_digest_0 : decode cX5_digest 0 = .ok (.ldc2_w 183, 3) := by decide +kernel
theorem dX5_digest_3 : decode cX5_digest 3 = .ok (.ldc2_w 183, 3) := by decide +kernel
theorem dX5_digest_6 : decode cX5_digest 6 = .ok (.ldc2_w 219, 3) := by decide +kernel
theorem dX5_digest_9 : decode cX5_digest 9 = .ok (.aload_n 0, 1) := by decide +kernel
theorem dX5_digest_10 : decode cX5_digest 10 = .ok (.getfield 62, 3) := by decide +kernel
theorem dX5_digest_13 : decode cX5_digest 13 = .ok (.i2l, 1) := by decide +kernel
theorem dX5_digest_14 : decode cX5_digest 14 = .ok (.ladd, 1) := by decide +kernel
theorem dX5_digest_15 : decode cX5_digest 15 = .ok (.lmul, 1) := by decide +kernel
theorem dX5_digest_16 : decode cX5_digest 16 = .ok (.aload_n 0, 1) := by decide +kernel
theorem dX5_digest_17 : decode cX5_digest 17 = .ok (.getfield 66, 3) := by decide +kernel
theorem dX5_digest_20 : decode cX5_digest 20 = .ok (.i2l, 1) := by decide +kernel
theorem dX5_digest_21 : decode cX5_digest 21 = .ok (.ladd, 1) := by decide +kernel
theorem dX5_digest_22 : decode cX5_digest 22 = .ok (.lmul, 1) := by decide +kernel
theorem dX5_digest_23 : decode cX5_digest 23 = .ok (.aload_n 0, 1) := by decide +kernel
theorem dX5_digest_24 : decode cX5_digest 24 = .ok (.getfield 69, 3) := by decide +kernel
theorem dX5_digest_27 : decode cX5_digest 27 = .ok (.i2l, 1) := by decide +kernel
theorem dX5_digest_28 : decode cX5_digest 28 = .ok (.ladd, 1) := by decide +kernel
theorem dX5_digest_29 : decode cX5_digest 29 = .ok (.lstore_n 1, 1) := by decide +kernel
theorem dX5_digest_30 : decode cX5_digest 30 = .ok (.iconst 0, 1) := by decide +kernel
theorem dX5_digest_31 : decode cX5_digest 31 = .ok (.istore_n 3, 1) := by decide +kernel
theorem dX5_digest_32 : decode cX5_digest 32 = .ok (.iload_n 3, 1) := by decide +kernel
theorem dX5_digest_33 : decode cX5_digest 33 = .ok (.aload_n 0, 1) := by decide +kernel
theorem dX5_digest_34 : decode cX5_digest 34 = .ok (.getfield 111, 3) := by decide +kernel
theorem dX5_digest_37 : decode cX5_digest 37 = .ok (.if_icmp .ge 131, 3) := by decide +kernel
theorem dX5_digest_40 : decode cX5_digest 40 = .ok (.ldc2_w 183, 3) := by decide +kernel
theorem dX5_digest_43 : decode cX5_digest 43 = .ok (.ldc2_w 183, 3) := by decide +kernel
theorem dX5_digest_46 : decode cX5_digest 46 = .ok (.ldc2_w 183, 3) := by decide +kernel
theorem dX5_digest_49 : decode cX5_digest 49 = .ok (.lload_n 1, 1) := by decide +kernel
theorem dX5_digest_50 : decode cX5_digest 50 = .ok (.lmul, 1) := by decide +kernel
theorem dX5_digest_51 : decode cX5_digest 51 = .ok (.aload_n 0, 1) := by decide +kernel
theorem dX5_digest_52 : decode cX5_digest 52 = .ok (.getfield 26, 3) := by decide +kernel
theorem dX5_digest_55 : decode cX5_digest 55 = .ok (.iload_n 3, 1) := by decide +kernel
theorem dX5_digest_56 : decode cX5_digest 56 = .ok (.iaload, 1) := by decide +kernel
theorem dX5_digest_57 : decode cX5_digest 57 = .ok (.i2l, 1) := by decide +kernel
theorem dX5_digest_58 : decode cX5_digest 58 = .ok (.ladd, 1) := by decide +kernel
theorem dX5_digest_59 : decode cX5_digest 59 = .ok (.lmul, 1) := by decide +kernel
theorem dX5_digest_60 : decode cX5_digest 60 = .ok (.aload_n 0, 1) := by decide +kernel
theorem dX5_digest_61 : decode cX5_digest 61 = .ok (.getfield 29, 3) := by decide +kernel
theorem dX5_digest_64 : decode cX5_digest 64 = .ok (.iload_n 3, 1) := by decide +kernel
theorem dX5_digest_65 : decode cX5_digest 65 = .ok (.iaload, 1) := by decide +kernel
theorem dX5_digest_66 : decode cX5_digest 66 = .ok (.i2l, 1) := by decide +kernel
theorem dX5_digest_67 : decode cX5_digest 67 = .ok (.ladd, 1) := by decide +kernel
theorem dX5_digest_68 : decode cX5_digest 68 = .ok (.lmul, 1) := by decide +kernel
theorem dX5_digest_69 : decode cX5_digest 69 = .ok (.aload_n 0, 1) := by decide +kernel
theorem dX5_digest_70 : decode cX5_digest 70 = .ok (.getfield 32, 3) := by decide +kernel
theorem dX5_digest_73 : decode cX5_digest 73 = .ok (.iload_n 3, 1) := by decide +kernel
theorem dX5_digest_74 : decode cX5_digest 74 = .ok (.iaload, 1) := by decide +kernel
theorem dX5_digest_75 : decode cX5_digest 75 = .ok (.i2l, 1) := by decide +kernel
theorem dX5_digest_76 : decode cX5_digest 76 = .ok (.ladd, 1) := by decide +kernel
theorem dX5_digest_77 : decode cX5_digest 77 = .ok (.lstore_n 1, 1) := by decide +kernel
theorem dX5_digest_78 : decode cX5_digest 78 = .ok (.iconst 0, 1) := by decide +kernel
theorem dX5_digest_79 : decode cX5_digest 79 = .ok (.istore 4, 2) := by decide +kernel
theorem dX5_digest_81 : decode cX5_digest 81 = .ok (.iload 4, 2) := by decide +kernel
theorem dX5_digest_83 : decode cX5_digest 83 = .ok (.aload_n 0, 1) := by decide +kernel
theorem dX5_digest_84 : decode cX5_digest 84 = .ok (.getfield 29, 3) := by decide +kernel
theorem dX5_digest_87 : decode cX5_digest 87 = .ok (.iload_n 3, 1) := by decide +kernel
theorem dX5_digest_88 : decode cX5_digest 88 = .ok (.iaload, 1) := by decide +kernel
theorem dX5_digest_89 : decode cX5_digest 89 = .ok (.if_icmp .ge 73, 3) := by decide +kernel
theorem dX5_digest_92 : decode cX5_digest 92 = .ok (.ldc2_w 183, 3) := by decide +kernel
theorem dX5_digest_95 : decode cX5_digest 95 = .ok (.lload_n 1, 1) := by decide +kernel
theorem dX5_digest_96 : decode cX5_digest 96 = .ok (.lmul, 1) := by decide +kernel
theorem dX5_digest_97 : decode cX5_digest 97 = .ok (.aload_n 0, 1) := by decide +kernel
theorem dX5_digest_98 : decode cX5_digest 98 = .ok (.getfield 35, 3) := by decide +kernel
theorem dX5_digest_101 : decode cX5_digest 101 = .ok (.iconst 5, 1) := by decide +kernel
theorem dX5_digest_102 : decode cX5_digest 102 = .ok (.iload_n 3, 1) := by decide +kernel
theorem dX5_digest_103 : decode cX5_digest 103 = .ok (.imul, 1) := by decide +kernel
theorem dX5_digest_104 : decode cX5_digest 104 = .ok (.iload 4, 2) := by decide +kernel
theorem dX5_digest_106 : decode cX5_digest 106 = .ok (.iadd, 1) := by decide +kernel
theorem dX5_digest_107 : decode cX5_digest 107 = .ok (.iaload, 1) := by decide +kernel
theorem dX5_digest_108 : decode cX5_digest 108 = .ok (.i2l, 1) := by decide +kernel
theorem dX5_digest_109 : decode cX5_digest 109 = .ok (.ladd, 1) := by decide +kernel
theorem dX5_digest_110 : decode cX5_digest 110 = .ok (.lstore_n 1, 1) := by decide +kernel
theorem dX5_digest_111 : decode cX5_digest 111 = .ok (.iconst 0, 1) := by decide +kernel
theorem dX5_digest_112 : decode cX5_digest 112 = .ok (.istore 5, 2) := by decide +kernel
theorem dX5_digest_114 : decode cX5_digest 114 = .ok (.iload 5, 2) := by decide +kernel
theorem dX5_digest_116 : decode cX5_digest 116 = .ok (.aload_n 0, 1) := by decide +kernel
theorem dX5_digest_117 : decode cX5_digest 117 = .ok (.getfield 29, 3) := by decide +kernel
theorem dX5_digest_120 : decode cX5_digest 120 = .ok (.iload_n 3, 1) := by decide +kernel
theorem dX5_digest_121 : decode cX5_digest 121 = .ok (.iaload, 1) := by decide +kernel
theorem dX5_digest_122 : decode cX5_digest 122 = .ok (.if_icmp .ge 34, 3) := by decide +kernel
theorem dX5_digest_125 : decode cX5_digest 125 = .ok (.ldc2_w 183, 3) := by decide +kernel
theorem dX5_digest_128 : decode cX5_digest 128 = .ok (.lload_n 1, 1) := by decide +kernel
theorem dX5_digest_129 : decode cX5_digest 129 = .ok (.lmul, 1) := by decide +kernel
theorem dX5_digest_130 : decode cX5_digest 130 = .ok (.aload_n 0, 1) := by decide +kernel
theorem dX5_digest_131 : decode cX5_digest 131 = .ok (.getfield 38, 3) := by decide +kernel
theorem dX5_digest_134 : decode cX5_digest 134 = .ok (.bipush 25, 2) := by decide +kernel
theorem dX5_digest_136 : decode cX5_digest 136 = .ok (.iload_n 3, 1) := by decide +kernel
theorem dX5_digest_137 : decode cX5_digest 137 = .ok (.imul, 1) := by decide +kernel
theorem dX5_digest_138 : decode cX5_digest 138 = .ok (.iconst 5, 1) := by decide +kernel
theorem dX5_digest_139 : decode cX5_digest 139 = .ok (.iload 4, 2) := by decide +kernel
theorem dX5_digest_141 : decode cX5_digest 141 = .ok (.imul, 1) := by decide +kernel
theorem dX5_digest_142 : decode cX5_digest 142 = .ok (.iadd, 1) := by decide +kernel
theorem dX5_digest_143 : decode cX5_digest 143 = .ok (.iload 5, 2) := by decide +kernel
theorem dX5_digest_145 : decode cX5_digest 145 = .ok (.iadd, 1) := by decide +kernel
theorem dX5_digest_146 : decode cX5_digest 146 = .ok (.iaload, 1) := by decide +kernel
theorem dX5_digest_147 : decode cX5_digest 147 = .ok (.i2l, 1) := by decide +kernel
theorem dX5_digest_148 : decode cX5_digest 148 = .ok (.ladd, 1) := by decide +kernel
theorem dX5_digest_149 : decode cX5_digest 149 = .ok (.lstore_n 1, 1) := by decide +kernel
theorem dX5_digest_150 : decode cX5_digest 150 = .ok (.iinc 5 1, 3) := by decide +kernel
theorem dX5_digest_153 : decode cX5_digest 153 = .ok (.goto (-39), 3) := by decide +kernel
theorem dX5_digest_156 : decode cX5_digest 156 = .ok (.iinc 4 1, 3) := by decide +kernel
theorem dX5_digest_159 : decode cX5_digest 159 = .ok (.goto (-78), 3) := by decide +kernel
theorem dX5_digest_162 : decode cX5_digest 162 = .ok (.iinc 3 1, 3) := by decide +kernel
theorem dX5_digest_165 : decode cX5_digest 165 = .ok (.goto (-133), 3) := by decide +kernel
theorem dX5_digest_168 : decode cX5_digest 168 = .ok (.iconst 0, 1) := by decide +kernel
theorem dX5_digest_169 : decode cX5_digest 169 = .ok (.istore_n 3, 1) := by decide +kernel
theorem dX5_digest_170 : decode cX5_digest 170 = .ok (.iload_n 3, 1) := by decide +kernel
theorem dX5_digest_171 : decode cX5_digest 171 = .ok (.aload_n 0, 1) := by decide +kernel
theorem dX5_digest_172 : decode cX5_digest 172 = .ok (.getfield 91, 3) := by decide +kernel
theorem dX5_digest_175 : decode cX5_digest 175 = .ok (.if_icmp .ge 75, 3) := by decide +kernel
theorem dX5_digest_178 : decode cX5_digest 178 = .ok (.ldc2_w 183, 3) := by decide +kernel
theorem dX5_digest_181 : decode cX5_digest 181 = .ok (.lload_n 1, 1) := by decide +kernel
theorem dX5_digest_182 : decode cX5_digest 182 = .ok (.lmul, 1) := by decide +kernel
theorem dX5_digest_183 : decode cX5_digest 183 = .ok (.aload_n 0, 1) := by decide +kernel
theorem dX5_digest_184 : decode cX5_digest 184 = .ok (.getfield 16, 3) := by decide +kernel
theorem dX5_digest_187 : decode cX5_digest 187 = .ok (.iload_n 3, 1) := by decide +kernel
theorem dX5_digest_188 : decode cX5_digest 188 = .ok (.iaload, 1) := by decide +kernel
theorem dX5_digest_189 : decode cX5_digest 189 = .ok (.ifCond .ge 7, 3) := by decide +kernel
theorem dX5_digest_192 : decode cX5_digest 192 = .ok (.iconst (-1), 1) := by decide +kernel
theorem dX5_digest_193 : decode cX5_digest 193 = .ok (.goto 9, 3) := by decide +kernel
theorem dX5_digest_196 : decode cX5_digest 196 = .ok (.aload_n 0, 1) := by decide +kernel
theorem dX5_digest_197 : decode cX5_digest 197 = .ok (.getfield 16, 3) := by decide +kernel
theorem dX5_digest_200 : decode cX5_digest 200 = .ok (.iload_n 3, 1) := by decide +kernel
theorem dX5_digest_201 : decode cX5_digest 201 = .ok (.iaload, 1) := by decide +kernel
theorem dX5_digest_202 : decode cX5_digest 202 = .ok (.i2l, 1) := by decide +kernel
theorem dX5_digest_203 : decode cX5_digest 203 = .ok (.ladd, 1) := by decide +kernel
theorem dX5_digest_204 : decode cX5_digest 204 = .ok (.lstore_n 1, 1) := by decide +kernel
theorem dX5_digest_205 : decode cX5_digest 205 = .ok (.iconst 0, 1) := by decide +kernel
theorem dX5_digest_206 : decode cX5_digest 206 = .ok (.istore 4, 2) := by decide +kernel
theorem dX5_digest_208 : decode cX5_digest 208 = .ok (.iload 4, 2) := by decide +kernel
theorem dX5_digest_210 : decode cX5_digest 210 = .ok (.aload_n 0, 1) := by decide +kernel
theorem dX5_digest_211 : decode cX5_digest 211 = .ok (.getfield 16, 3) := by decide +kernel
theorem dX5_digest_214 : decode cX5_digest 214 = .ok (.iload_n 3, 1) := by decide +kernel
theorem dX5_digest_215 : decode cX5_digest 215 = .ok (.iaload, 1) := by decide +kernel
theorem dX5_digest_216 : decode cX5_digest 216 = .ok (.if_icmp .ge 28, 3) := by decide +kernel
theorem dX5_digest_219 : decode cX5_digest 219 = .ok (.ldc2_w 183, 3) := by decide +kernel
theorem dX5_digest_222 : decode cX5_digest 222 = .ok (.lload_n 1, 1) := by decide +kernel
theorem dX5_digest_223 : decode cX5_digest 223 = .ok (.lmul, 1) := by decide +kernel
theorem dX5_digest_224 : decode cX5_digest 224 = .ok (.aload_n 0, 1) := by decide +kernel
theorem dX5_digest_225 : decode cX5_digest 225 = .ok (.getfield 19, 3) := by decide +kernel
theorem dX5_digest_228 : decode cX5_digest 228 = .ok (.bipush 24, 2) := by decide +kernel
theorem dX5_digest_230 : decode cX5_digest 230 = .ok (.iload_n 3, 1) := by decide +kernel
theorem dX5_digest_231 : decode cX5_digest 231 = .ok (.imul, 1) := by decide +kernel
theorem dX5_digest_232 : decode cX5_digest 232 = .ok (.iload 4, 2) := by decide +kernel
theorem dX5_digest_234 : decode cX5_digest 234 = .ok (.iadd, 1) := by decide +kernel
theorem dX5_digest_235 : decode cX5_digest 235 = .ok (.laload, 1) := by decide +kernel
theorem dX5_digest_236 : decode cX5_digest 236 = .ok (.ladd, 1) := by decide +kernel
theorem dX5_digest_237 : decode cX5_digest 237 = .ok (.lstore_n 1, 1) := by decide +kernel
theorem dX5_digest_238 : decode cX5_digest 238 = .ok (.iinc 4 1, 3) := by decide +kernel
theorem dX5_digest_241 : decode cX5_digest 241 = .ok (.goto (-33), 3) := by decide +kernel
theorem dX5_digest_244 : decode cX5_digest 244 = .ok (.iinc 3 1, 3) := by decide +kernel
theorem dX5_digest_247 : decode cX5_digest 247 = .ok (.goto (-77), 3) := by decide +kernel
theorem dX5_digest_250 : decode cX5_digest 250 = .ok (.lload_n 1, 1) := by decide +kernel
theorem dX5_digest_251 : decode cX5_digest 251 = .ok (.lreturn, 1) := by decide +kernel
