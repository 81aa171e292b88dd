theorem dX4_init_0 : decode cX4_init 0 = .ok (.aload_n 0, 1) := by decide +kernel
theorem dX4_init_1 : decode cX4_init 1 = .ok (.invokespecial 1, 3) := by decide +kernel
theorem dX4_init_4 : decode cX4_init 4 = .ok (.aload_n 0, 1) := by decide +kernel
theorem dX4_init_5 : decode cX4_init 5 = .ok (.bipush 16, 2) := by decide +kernel
theorem dX4_init_7 : decode cX4_init 7 = .ok (.anewarray 9, 3) := by decide +kernel
theorem dX4_init_10 : decode cX4_init 10 = .ok (.putfield 11, 3) := by decide +kernel
theorem dX4_init_13 : decode cX4_init 13 = .ok (.aload_n 0, 1) := by decide +kernel
theorem dX4_init_14 : decode cX4_init 14 = .ok (.bipush 12, 2) := by decide +kernel
theorem dX4_init_16 : decode cX4_init 16 = .ok (.anewarray 15, 3) := by decide +kernel
theorem dX4_init_19 : decode cX4_init 19 = .ok (.putfield 17, 3) := by decide +kernel
theorem dX4_init_22 : decode cX4_init 22 = .ok (.aload_n 0, 1) := by decide +kernel
theorem dX4_init_23 : decode cX4_init 23 = .ok (.new 21, 3) := by decide +kernel
theorem dX4_init_26 : decode cX4_init 26 = .ok (.dup, 1) := by decide +kernel
theorem dX4_init_27 : decode cX4_init 27 = .ok (.invokespecial 23, 3) := by decide +kernel
theorem dX4_init_30 : decode cX4_init 30 = .ok (.putfield 24, 3) := by decide +kernel
theorem dX4_init_33 : decode cX4_init 33 = .ok (.aload_n 0, 1) := by decide +kernel
theorem dX4_init_34 : decode cX4_init 34 = .ok (.new 28, 3) := by decide +kernel
theorem dX4_init_37 : decode cX4_init 37 = .ok (.dup, 1) := by decide +kernel
theorem dX4_init_38 : decode cX4_init 38 = .ok (.invokespecial 30, 3) := by decide +kernel
theorem dX4_init_41 : decode cX4_init 41 = .ok (.putfield 31, 3) := by decide +kernel
theorem dX4_init_44 : decode cX4_init 44 = .ok (.aload_n 0, 1) := by decide +kernel
theorem dX4_init_45 : decode cX4_init 45 = .ok (.bipush 7, 2) := by decide +kernel
theorem dX4_init_47 : decode cX4_init 47 = .ok (.newarray .int, 2) := by decide +kernel
theorem dX4_init_49 : decode cX4_init 49 = .ok (.putfield 35, 3) := by decide +kernel
theorem dX4_init_52 : decode cX4_init 52 = .ok (.aload_n 0, 1) := by decide +kernel
theorem dX4_init_53 : decode cX4_init 53 = .ok (.sipush 200, 3) := by decide +kernel
theorem dX4_init_56 : decode cX4_init 56 = .ok (.newarray .int, 2) := by decide +kernel
theorem dX4_init_58 : decode cX4_init 58 = .ok (.putfield 39, 3) := by decide +kernel
theorem dX4_init_61 : decode cX4_init 61 = .ok (.aload_n 0, 1) := by decide +kernel
theorem dX4_init_62 : decode cX4_init 62 = .ok (.iconst 0, 1) := by decide +kernel
theorem dX4_init_63 : decode cX4_init 63 = .ok (.putfield 42, 3) := by decide +kernel
theorem dX4_init_66 : decode cX4_init 66 = .ok (.aload_n 0, 1) := by decide +kernel
theorem dX4_init_67 : decode cX4_init 67 = .ok (.iconst 0, 1) := by decide +kernel
theorem dX4_init_68 : decode cX4_init 68 = .ok (.putfield 46, 3) := by decide +kernel
theorem dX4_init_71 : decode cX4_init 71 = .ok (.aload_n 0, 1) := by decide +kernel
theorem dX4_init_72 : decode cX4_init 72 = .ok (.iconst 1, 1) := by decide +kernel
theorem dX4_init_73 : decode cX4_init 73 = .ok (.putfield 49, 3) := by decide +kernel
theorem dX4_init_76 : decode cX4_init 76 = .ok (.aload_n 0, 1) := by decide +kernel
theorem dX4_init_77 : decode cX4_init 77 = .ok (.iconst 2, 1) := by decide +kernel
theorem dX4_init_78 : decode cX4_init 78 = .ok (.putfield 52, 3) := by decide +kernel
theorem dX4_init_81 : decode cX4_init 81 = .ok (.aload_n 0, 1) := by decide +kernel
theorem dX4_init_82 : decode cX4_init 82 = .ok (.iconst 1, 1) := by decide +kernel
theorem dX4_init_83 : decode cX4_init 83 = .ok (.putfield 55, 3) := by decide +kernel
theorem dX4_init_86 : decode cX4_init 86 = .ok (.aload_n 0, 1) := by decide +kernel
theorem dX4_init_87 : decode cX4_init 87 = .ok (.iconst 0, 1) := by decide +kernel
theorem dX4_init_88 : decode cX4_init 88 = .ok (.putfield 58, 3) := by decide +kernel
theorem dX4_init_91 : decode cX4_init 91 = .ok (.aload_n 0, 1) := by decide +kernel
theorem dX4_init_92 : decode cX4_init 92 = .ok (.iconst 0, 1) := by decide +kernel
theorem dX4_init_93 : decode cX4_init 93 = .ok (.putfield 61, 3) := by decide +kernel
theorem dX4_init_96 : decode cX4_init 96 = .ok (.aload_n 0, 1) := by decide +kernel
theorem dX4_init_97 : decode cX4_init 97 = .ok (.lconst 0, 1) := by decide +kernel
theorem dX4_init_98 : decode cX4_init 98 = .ok (.putfield 64, 3) := by decide +kernel
theorem dX4_init_101 : decode cX4_init 101 = .ok (.aload_n 0, 1) := by decide +kernel
theorem dX4_init_102 : decode cX4_init 102 = .ok (.lconst 0, 1) := by decide +kernel
theorem dX4_init_103 : decode cX4_init 103 = .ok (.putfield 68, 3) := by decide +kernel
theorem dX4_init_106 : decode cX4_init 106 = .ok (.return_, 1) := by decide +kernel
theorem dX4_share_0 : decode cX4_share 0 = .ok (.iload_n 1, 1) := by decide +kernel
theorem dX4_share_1 : decode cX4_share 1 = .ok (.iconst 1, 1) := by decide +kernel
theorem dX4_share_2 : decode cX4_share 2 = .ok (.if_icmp .lt 14, 3) := by decide +kernel
theorem dX4_share_5 : decode cX4_share 5 = .ok (.iload_n 1, 1) := by decide +kernel
theorem dX4_share_6 : decode cX4_share 6 = .ok (.iload_n 2, 1) := by decide +kernel
theorem dX4_share_7 : decode cX4_share 7 = .ok (.if_icmp .ge 9, 3) := by decide +kernel
theorem dX4_share_10 : decode cX4_share 10 = .ok (.iload_n 2, 1) := by decide +kernel
theorem dX4_share_11 : decode cX4_share 11 = .ok (.bipush 8, 2) := by decide +kernel
theorem dX4_share_13 : decode cX4_share 13 = .ok (.if_icmp .le 5, 3) := by decide +kernel
theorem dX4_share_16 : decode cX4_share 16 = .ok (.iconst (-1), 1) := by decide +kernel
theorem dX4_share_17 : decode cX4_share 17 = .ok (.ireturn, 1) := by decide +kernel
theorem dX4_share_18 : decode cX4_share 18 = .ok (.aload_n 0, 1) := by decide +kernel
theorem dX4_share_19 : decode cX4_share 19 = .ok (.iload_n 1, 1) := by decide +kernel
theorem dX4_share_20 : decode cX4_share 20 = .ok (.putfield 49, 3) := by decide +kernel
theorem dX4_share_23 : decode cX4_share 23 = .ok (.aload_n 0, 1) := by decide +kernel
theorem dX4_share_24 : decode cX4_share 24 = .ok (.iload_n 2, 1) := by decide +kernel
theorem dX4_share_25 : decode cX4_share 25 = .ok (.putfield 52, 3) := by decide +kernel
theorem dX4_share_28 : decode cX4_share 28 = .ok (.iconst 0, 1) := by decide +kernel
theorem dX4_share_29 : decode cX4_share 29 = .ok (.istore_n 3, 1) := by decide +kernel
theorem dX4_share_30 : decode cX4_share 30 = .ok (.iload_n 3, 1) := by decide +kernel
theorem dX4_share_31 : decode cX4_share 31 = .ok (.aload_n 0, 1) := by decide +kernel
theorem dX4_share_32 : decode cX4_share 32 = .ok (.getfield 42, 3) := by decide +kernel
theorem dX4_share_35 : decode cX4_share 35 = .ok (.if_icmp .ge 27, 3) := by decide +kernel
theorem dX4_share_38 : decode cX4_share 38 = .ok (.aload_n 0, 1) := by decide +kernel
theorem dX4_share_39 : decode cX4_share 39 = .ok (.iload_n 3, 1) := by decide +kernel
theorem dX4_share_40 : decode cX4_share 40 = .ok (.invokevirtual 71, 3) := by decide +kernel
theorem dX4_share_43 : decode cX4_share 43 = .ok (.astore 4, 2) := by decide +kernel
theorem dX4_share_45 : decode cX4_share 45 = .ok (.aload 4, 2) := by decide +kernel
theorem dX4_share_47 : decode cX4_share 47 = .ok (.ifnull 9, 3) := by decide +kernel
theorem dX4_share_50 : decode cX4_share 50 = .ok (.aload 4, 2) := by decide +kernel
theorem dX4_share_52 : decode cX4_share 52 = .ok (.iconst 0, 1) := by decide +kernel
theorem dX4_share_53 : decode cX4_share 53 = .ok (.putfield 75, 3) := by decide +kernel
theorem dX4_share_56 : decode cX4_share 56 = .ok (.iinc 3 1, 3) := by decide +kernel
theorem dX4_share_59 : decode cX4_share 59 = .ok (.goto (-29), 3) := by decide +kernel
theorem dX4_share_62 : decode cX4_share 62 = .ok (.iconst 1, 1) := by decide +kernel
theorem dX4_share_63 : decode cX4_share 63 = .ok (.ireturn, 1) := by decide +kernel
theorem dX4_sheet_0 : decode cX4_sheet 0 = .ok (.iload_n 1, 1) := by decide +kernel
theorem dX4_sheet_1 : decode cX4_sheet 1 = .ok (.ifCond .lt 14, 3) := by decide +kernel
theorem dX4_sheet_4 : decode cX4_sheet 4 = .ok (.iload_n 1, 1) := by decide +kernel
theorem dX4_sheet_5 : decode cX4_sheet 5 = .ok (.iconst 3, 1) := by decide +kernel
theorem dX4_sheet_6 : decode cX4_sheet 6 = .ok (.if_icmp .gt 9, 3) := by decide +kernel
theorem dX4_sheet_9 : decode cX4_sheet 9 = .ok (.iload_n 2, 1) := by decide +kernel
theorem dX4_sheet_10 : decode cX4_sheet 10 = .ok (.bipush 24, 2) := by decide +kernel
theorem dX4_sheet_12 : decode cX4_sheet 12 = .ok (.if_icmp .le 5, 3) := by decide +kernel
theorem dX4_sheet_15 : decode cX4_sheet 15 = .ok (.iconst (-1), 1) := by decide +kernel
theorem dX4_sheet_16 : decode cX4_sheet 16 = .ok (.ireturn, 1) := by decide +kernel
theorem dX4_sheet_17 : decode cX4_sheet 17 = .ok (.aload_n 0, 1) := by decide +kernel
theorem dX4_sheet_18 : decode cX4_sheet 18 = .ok (.getfield 46, 3) := by decide +kernel
theorem dX4_sheet_21 : decode cX4_sheet 21 = .ok (.ifCond .lt 15, 3) := by decide +kernel
theorem dX4_sheet_24 : decode cX4_sheet 24 = .ok (.aload_n 0, 1) := by decide +kernel
theorem dX4_sheet_25 : decode cX4_sheet 25 = .ok (.getfield 46, 3) := by decide +kernel
theorem dX4_sheet_28 : decode cX4_sheet 28 = .ok (.aload_n 0, 1) := by decide +kernel
theorem dX4_sheet_29 : decode cX4_sheet 29 = .ok (.getfield 17, 3) := by decide +kernel
theorem dX4_sheet_32 : decode cX4_sheet 32 = .ok (.arraylength, 1) := by decide +kernel
theorem dX4_sheet_33 : decode cX4_sheet 33 = .ok (.if_icmp .lt 6, 3) := by decide +kernel
theorem dX4_sheet_36 : decode cX4_sheet 36 = .ok (.bipush (-2), 2) := by decide +kernel
theorem dX4_sheet_38 : decode cX4_sheet 38 = .ok (.ireturn, 1) := by decide +kernel
theorem dX4_sheet_39 : decode cX4_sheet 39 = .ok (.iload_n 2, 1) := by decide +kernel
theorem dX4_sheet_40 : decode cX4_sheet 40 = .ok (.ifCond .ge 9, 3) := by decide +kernel
theorem dX4_sheet_43 : decode cX4_sheet 43 = .ok (.aload_n 0, 1) := by decide +kernel
theorem dX4_sheet_44 : decode cX4_sheet 44 = .ok (.iconst 5, 1) := by decide +kernel
theorem dX4_sheet_45 : decode cX4_sheet 45 = .ok (.invokevirtual 79, 3) := by decide +kernel
theorem dX4_sheet_48 : decode cX4_sheet 48 = .ok (.ireturn, 1) := by decide +kernel
theorem dX4_sheet_49 : decode cX4_sheet 49 = .ok (.aload_n 0, 1) := by decide +kernel
theorem dX4_sheet_50 : decode cX4_sheet 50 = .ok (.getfield 17, 3) := by decide +kernel
theorem dX4_sheet_53 : decode cX4_sheet 53 = .ok (.aload_n 0, 1) := by decide +kernel
theorem dX4_sheet_54 : decode cX4_sheet 54 = .ok (.getfield 46, 3) := by decide +kernel
theorem dX4_sheet_57 : decode cX4_sheet 57 = .ok (.new 15, 3) := by decide +kernel
theorem dX4_sheet_60 : decode cX4_sheet 60 = .ok (.dup, 1) := by decide +kernel
theorem dX4_sheet_61 : decode cX4_sheet 61 = .ok (.iload_n 1, 1) := by decide +kernel
theorem dX4_sheet_62 : decode cX4_sheet 62 = .ok (.iload_n 2, 1) := by decide +kernel
theorem dX4_sheet_63 : decode cX4_sheet 63 = .ok (.invokespecial 83, 3) := by decide +kernel
theorem dX4_sheet_66 : decode cX4_sheet 66 = .ok (.aastore, 1) := by decide +kernel
theorem dX4_sheet_67 : decode cX4_sheet 67 = .ok (.aload_n 0, 1) := by decide +kernel
theorem dX4_sheet_68 : decode cX4_sheet 68 = .ok (.dup, 1) := by decide +kernel
theorem dX4_sheet_69 : decode cX4_sheet 69 = .ok (.getfield 46, 3) := by decide +kernel
theorem dX4_sheet_72 : decode cX4_sheet 72 = .ok (.iconst 1, 1) := by decide +kernel
theorem dX4_sheet_73 : decode cX4_sheet 73 = .ok (.iadd, 1) := by decide +kernel
theorem dX4_sheet_74 : decode cX4_sheet 74 = .ok (.putfield 46, 3) := by decide +kernel
theorem dX4_sheet_77 : decode cX4_sheet 77 = .ok (.aload_n 0, 1) := by decide +kernel
theorem dX4_sheet_78 : decode cX4_sheet 78 = .ok (.getfield 46, 3) := by decide +kernel
theorem dX4_sheet_81 : decode cX4_sheet 81 = .ok (.iconst 1, 1) := by decide +kernel
theorem dX4_sheet_82 : decode cX4_sheet 82 = .ok (.isub, 1) := by decide +kernel
theorem dX4_sheet_83 : decode cX4_sheet 83 = .ok (.ireturn, 1) := by decide +kernel
theorem dX4_tear_0 : decode cX4_tear 0 = .ok (.aload_n 0, 1) := by decide +kernel
theorem dX4_tear_1 : decode cX4_tear 1 = .ok (.iload_n 1, 1) := by decide +kernel
theorem dX4_tear_2 : decode cX4_tear 2 = .ok (.invokevirtual 86, 3) := by decide +kernel
theorem dX4_tear_5 : decode cX4_tear 5 = .ok (.astore_n 2, 1) := by decide +kernel
theorem dX4_tear_6 : decode cX4_tear 6 = .ok (.aload_n 2, 1) := by decide +kernel
theorem dX4_tear_7 : decode cX4_tear 7 = .ok (.ifnonnull 5, 3) := by decide +kernel
theorem dX4_tear_10 : decode cX4_tear 10 = .ok (.iconst (-1), 1) := by decide +kernel
theorem dX4_tear_11 : decode cX4_tear 11 = .ok (.ireturn, 1) := by decide +kernel
theorem dX4_tear_12 : decode cX4_tear 12 = .ok (.aload_n 2, 1) := by decide +kernel
theorem dX4_tear_13 : decode cX4_tear 13 = .ok (.getfield 90, 3) := by decide +kernel
theorem dX4_tear_16 : decode cX4_tear 16 = .ok (.ifCond .eq 9, 3) := by decide +kernel
theorem dX4_tear_19 : decode cX4_tear 19 = .ok (.aload_n 0, 1) := by decide +kernel
theorem dX4_tear_20 : decode cX4_tear 20 = .ok (.iconst 1, 1) := by decide +kernel
theorem dX4_tear_21 : decode cX4_tear 21 = .ok (.invokevirtual 79, 3) := by decide +kernel
theorem dX4_tear_24 : decode cX4_tear 24 = .ok (.ireturn, 1) := by decide +kernel
theorem dX4_tear_25 : decode cX4_tear 25 = .ok (.aload_n 2, 1) := by decide +kernel
theorem dX4_tear_26 : decode cX4_tear 26 = .ok (.iconst 1, 1) := by decide +kernel
theorem dX4_tear_27 : decode cX4_tear 27 = .ok (.putfield 90, 3) := by decide +kernel
theorem dX4_tear_30 : decode cX4_tear 30 = .ok (.iconst 1, 1) := by decide +kernel
theorem dX4_tear_31 : decode cX4_tear 31 = .ok (.ireturn, 1) := by decide +kernel
theorem dX4_lay_0 : decode cX4_lay 0 = .ok (.aload_n 0, 1) := by decide +kernel
theorem dX4_lay_1 : decode cX4_lay 1 = .ok (.iload_n 1, 1) := by decide +kernel
theorem dX4_lay_2 : decode cX4_lay 2 = .ok (.invokevirtual 86, 3) := by decide +kernel
theorem dX4_lay_5 : decode cX4_lay 5 = .ok (.astore 5, 2) := by decide +kernel
theorem dX4_lay_7 : decode cX4_lay 7 = .ok (.aload 5, 2) := by decide +kernel
theorem dX4_lay_9 : decode cX4_lay 9 = .ok (.ifnonnull 5, 3) := by decide +kernel
theorem dX4_lay_12 : decode cX4_lay 12 = .ok (.iconst (-1), 1) := by decide +kernel
theorem dX4_lay_13 : decode cX4_lay 13 = .ok (.ireturn, 1) := by decide +kernel
theorem dX4_lay_14 : decode cX4_lay 14 = .ok (.aload 5, 2) := by decide +kernel
theorem dX4_lay_16 : decode cX4_lay 16 = .ok (.getfield 90, 3) := by decide +kernel
theorem dX4_lay_19 : decode cX4_lay 19 = .ok (.ifCond .eq 9, 3) := by decide +kernel
theorem dX4_lay_22 : decode cX4_lay 22 = .ok (.aload_n 0, 1) := by decide +kernel
theorem dX4_lay_23 : decode cX4_lay 23 = .ok (.iconst 1, 1) := by decide +kernel
theorem dX4_lay_24 : decode cX4_lay 24 = .ok (.invokevirtual 79, 3) := by decide +kernel
theorem dX4_lay_27 : decode cX4_lay 27 = .ok (.ireturn, 1) := by decide +kernel
theorem dX4_lay_28 : decode cX4_lay 28 = .ok (.aload 5, 2) := by decide +kernel
theorem dX4_lay_30 : decode cX4_lay 30 = .ok (.iload_n 2, 1) := by decide +kernel
theorem dX4_lay_31 : decode cX4_lay 31 = .ok (.iconst 1, 1) := by decide +kernel
theorem dX4_lay_32 : decode cX4_lay 32 = .ok (.invokevirtual 93, 3) := by decide +kernel
theorem dX4_lay_35 : decode cX4_lay 35 = .ok (.ifCond .ne 9, 3) := by decide +kernel
theorem dX4_lay_38 : decode cX4_lay 38 = .ok (.aload_n 0, 1) := by decide +kernel
theorem dX4_lay_39 : decode cX4_lay 39 = .ok (.iconst 2, 1) := by decide +kernel
theorem dX4_lay_40 : decode cX4_lay 40 = .ok (.invokevirtual 79, 3) := by decide +kernel
theorem dX4_lay_43 : decode cX4_lay 43 = .ok (.ireturn, 1) := by decide +kernel
theorem dX4_lay_44 : decode cX4_lay 44 = .ok (.aload 5, 2) := by decide +kernel
theorem dX4_lay_46 : decode cX4_lay 46 = .ok (.iload_n 2, 1) := by decide +kernel
theorem dX4_lay_47 : decode cX4_lay 47 = .ok (.lload_n 3, 1) := by decide +kernel
theorem dX4_lay_48 : decode cX4_lay 48 = .ok (.invokevirtual 97, 3) := by decide +kernel
theorem dX4_lay_51 : decode cX4_lay 51 = .ok (.iconst 1, 1) := by decide +kernel
theorem dX4_lay_52 : decode cX4_lay 52 = .ok (.ireturn, 1) := by decide +kernel
theorem dX4_get_0 : decode cX4_get 0 = .ok (.aload_n 0, 1) := by decide +kernel
theorem dX4_get_1 : decode cX4_get 1 = .ok (.iload_n 1, 1) := by decide +kernel
theorem dX4_get_2 : decode cX4_get 2 = .ok (.invokevirtual 86, 3) := by decide +kernel
theorem dX4_get_5 : decode cX4_get 5 = .ok (.astore_n 3, 1) := by decide +kernel
theorem dX4_get_6 : decode cX4_get 6 = .ok (.aload_n 3, 1) := by decide +kernel
theorem dX4_get_7 : decode cX4_get 7 = .ok (.ifnonnull 5, 3) := by decide +kernel
theorem dX4_get_10 : decode cX4_get 10 = .ok (.iconst (-1), 1) := by decide +kernel
theorem dX4_get_11 : decode cX4_get 11 = .ok (.ireturn, 1) := by decide +kernel
theorem dX4_get_12 : decode cX4_get 12 = .ok (.aload_n 3, 1) := by decide +kernel
theorem dX4_get_13 : decode cX4_get 13 = .ok (.getfield 90, 3) := by decide +kernel
theorem dX4_get_16 : decode cX4_get 16 = .ok (.ifCond .eq 9, 3) := by decide +kernel
theorem dX4_get_19 : decode cX4_get 19 = .ok (.aload_n 0, 1) := by decide +kernel
theorem dX4_get_20 : decode cX4_get 20 = .ok (.iconst 1, 1) := by decide +kernel
theorem dX4_get_21 : decode cX4_get 21 = .ok (.invokevirtual 79, 3) := by decide +kernel
theorem dX4_get_24 : decode cX4_get 24 = .ok (.ireturn, 1) := by decide +kernel
theorem dX4_get_25 : decode cX4_get 25 = .ok (.aload_n 3, 1) := by decide +kernel
theorem dX4_get_26 : decode cX4_get 26 = .ok (.iload_n 2, 1) := by decide +kernel
theorem dX4_get_27 : decode cX4_get 27 = .ok (.iconst 1, 1) := by decide +kernel
theorem dX4_get_28 : decode cX4_get 28 = .ok (.invokevirtual 93, 3) := by decide +kernel
theorem dX4_get_31 : decode cX4_get 31 = .ok (.ifCond .ne 9, 3) := by decide +kernel
theorem dX4_get_34 : decode cX4_get 34 = .ok (.aload_n 0, 1) := by decide +kernel
theorem dX4_get_35 : decode cX4_get 35 = .ok (.iconst 2, 1) := by decide +kernel
theorem dX4_get_36 : decode cX4_get 36 = .ok (.invokevirtual 79, 3) := by decide +kernel
theorem dX4_get_39 : decode cX4_get 39 = .ok (.ireturn, 1) := by decide +kernel
theorem dX4_get_40 : decode cX4_get 40 = .ok (.aload_n 0, 1) := by decide +kernel
theorem dX4_get_41 : decode cX4_get 41 = .ok (.aload_n 3, 1) := by decide +kernel
theorem dX4_get_42 : decode cX4_get 42 = .ok (.iload_n 2, 1) := by decide +kernel
theorem dX4_get_43 : decode cX4_get 43 = .ok (.invokevirtual 101, 3) := by decide +kernel
theorem dX4_get_46 : decode cX4_get 46 = .ok (.putfield 64, 3) := by decide +kernel
theorem dX4_get_49 : decode cX4_get 49 = .ok (.iconst 1, 1) := by decide +kernel
theorem dX4_get_50 : decode cX4_get 50 = .ok (.ireturn, 1) := by decide +kernel
theorem dX4_copy_0 : decode cX4_copy 0 = .ok (.aload_n 0, 1) := by decide +kernel
theorem dX4_copy_1 : decode cX4_copy 1 = .ok (.iload_n 1, 1) := by decide +kernel
theorem dX4_copy_2 : decode cX4_copy 2 = .ok (.invokevirtual 86, 3) := by decide +kernel
theorem dX4_copy_5 : decode cX4_copy 5 = .ok (.astore 6, 2) := by decide +kernel
theorem dX4_copy_7 : decode cX4_copy 7 = .ok (.aload_n 0, 1) := by decide +kernel
theorem dX4_copy_8 : decode cX4_copy 8 = .ok (.iload_n 3, 1) := by decide +kernel
theorem dX4_copy_9 : decode cX4_copy 9 = .ok (.invokevirtual 86, 3) := by decide +kernel
theorem dX4_copy_12 : decode cX4_copy 12 = .ok (.astore 7, 2) := by decide +kernel
theorem dX4_copy_14 : decode cX4_copy 14 = .ok (.aload 6, 2) := by decide +kernel
theorem dX4_copy_16 : decode cX4_copy 16 = .ok (.ifnull 8, 3) := by decide +kernel
theorem dX4_copy_19 : decode cX4_copy 19 = .ok (.aload 7, 2) := by decide +kernel
theorem dX4_copy_21 : decode cX4_copy 21 = .ok (.ifnonnull 5, 3) := by decide +kernel
theorem dX4_copy_24 : decode cX4_copy 24 = .ok (.iconst (-1), 1) := by decide +kernel
theorem dX4_copy_25 : decode cX4_copy 25 = .ok (.ireturn, 1) := by decide +kernel
theorem dX4_copy_26 : decode cX4_copy 26 = .ok (.aload 6, 2) := by decide +kernel
theorem dX4_copy_28 : decode cX4_copy 28 = .ok (.getfield 90, 3) := by decide +kernel
theorem dX4_copy_31 : decode cX4_copy 31 = .ok (.ifCond .ne 11, 3) := by decide +kernel
theorem dX4_copy_34 : decode cX4_copy 34 = .ok (.aload 7, 2) := by decide +kernel
theorem dX4_copy_36 : decode cX4_copy 36 = .ok (.getfield 90, 3) := by decide +kernel
theorem dX4_copy_39 : decode cX4_copy 39 = .ok (.ifCond .eq 9, 3) := by decide +kernel
theorem dX4_copy_42 : decode cX4_copy 42 = .ok (.aload_n 0, 1) := by decide +kernel
theorem dX4_copy_43 : decode cX4_copy 43 = .ok (.iconst 1, 1) := by decide +kernel
theorem dX4_copy_44 : decode cX4_copy 44 = .ok (.invokevirtual 79, 3) := by decide +kernel
theorem dX4_copy_47 : decode cX4_copy 47 = .ok (.ireturn, 1) := by decide +kernel
theorem dX4_copy_48 : decode cX4_copy 48 = .ok (.aload 6, 2) := by decide +kernel
theorem dX4_copy_50 : decode cX4_copy 50 = .ok (.getfield 105, 3) := by decide +kernel
theorem dX4_copy_53 : decode cX4_copy 53 = .ok (.aload 7, 2) := by decide +kernel
theorem dX4_copy_55 : decode cX4_copy 55 = .ok (.getfield 105, 3) := by decide +kernel
theorem dX4_copy_58 : decode cX4_copy 58 = .ok (.if_icmp .eq 9, 3) := by decide +kernel
theorem dX4_copy_61 : decode cX4_copy 61 = .ok (.aload_n 0, 1) := by decide +kernel
theorem dX4_copy_62 : decode cX4_copy 62 = .ok (.iconst 3, 1) := by decide +kernel
theorem dX4_copy_63 : decode cX4_copy 63 = .ok (.invokevirtual 79, 3) := by decide +kernel
theorem dX4_copy_66 : decode cX4_copy 66 = .ok (.ireturn, 1) := by decide +kernel
theorem dX4_copy_67 : decode cX4_copy 67 = .ok (.aload 6, 2) := by decide +kernel
theorem dX4_copy_69 : decode cX4_copy 69 = .ok (.iload_n 2, 1) := by decide +kernel
theorem dX4_copy_70 : decode cX4_copy 70 = .ok (.iload 5, 2) := by decide +kernel
theorem dX4_copy_72 : decode cX4_copy 72 = .ok (.invokevirtual 93, 3) := by decide +kernel
theorem dX4_copy_75 : decode cX4_copy 75 = .ok (.ifCond .eq 15, 3) := by decide +kernel
theorem dX4_copy_78 : decode cX4_copy 78 = .ok (.aload 7, 2) := by decide +kernel
theorem dX4_copy_80 : decode cX4_copy 80 = .ok (.iload 4, 2) := by decide +kernel
theorem dX4_copy_82 : decode cX4_copy 82 = .ok (.iload 5, 2) := by decide +kernel
theorem dX4_copy_84 : decode cX4_copy 84 = .ok (.invokevirtual 93, 3) := by decide +kernel
theorem dX4_copy_87 : decode cX4_copy 87 = .ok (.ifCond .ne 9, 3) := by decide +kernel
theorem dX4_copy_90 : decode cX4_copy 90 = .ok (.aload_n 0, 1) := by decide +kernel
theorem dX4_copy_91 : decode cX4_copy 91 = .ok (.iconst 2, 1) := by decide +kernel
theorem dX4_copy_92 : decode cX4_copy 92 = .ok (.invokevirtual 79, 3) := by decide +kernel
theorem dX4_copy_95 : decode cX4_copy 95 = .ok (.ireturn, 1) := by decide +kernel
theorem dX4_copy_96 : decode cX4_copy 96 = .ok (.aload 6, 2) := by decide +kernel
theorem dX4_copy_98 : decode cX4_copy 98 = .ok (.getfield 108, 3) := by decide +kernel
theorem dX4_copy_101 : decode cX4_copy 101 = .ok (.iload_n 2, 1) := by decide +kernel
theorem dX4_copy_102 : decode cX4_copy 102 = .ok (.aload 7, 2) := by decide +kernel
theorem dX4_copy_104 : decode cX4_copy 104 = .ok (.getfield 108, 3) := by decide +kernel
theorem dX4_copy_107 : decode cX4_copy 107 = .ok (.iload 4, 2) := by decide +kernel
theorem dX4_copy_109 : decode cX4_copy 109 = .ok (.iload 5, 2) := by decide +kernel
theorem dX4_copy_111 : decode cX4_copy 111 = .ok (.invokestatic 112, 3) := by decide +kernel
theorem dX4_copy_114 : decode cX4_copy 114 = .ok (.iconst 1, 1) := by decide +kernel
theorem dX4_copy_115 : decode cX4_copy 115 = .ok (.ireturn, 1) := by decide +kernel
theorem dX4_machine_0 : decode cX4_machine 0 = .ok (.iload_n 1, 1) := by decide +kernel
theorem dX4_machine_1 : decode cX4_machine 1 = .ok (.ifCond .lt 13, 3) := by decide +kernel
theorem dX4_machine_4 : decode cX4_machine 4 = .ok (.iload_n 1, 1) := by decide +kernel
theorem dX4_machine_5 : decode cX4_machine 5 = .ok (.iconst 3, 1) := by decide +kernel
theorem dX4_machine_6 : decode cX4_machine 6 = .ok (.if_icmp .gt 8, 3) := by decide +kernel
theorem dX4_machine_9 : decode cX4_machine 9 = .ok (.iload_n 2, 1) := by decide +kernel
theorem dX4_machine_10 : decode cX4_machine 10 = .ok (.iconst 5, 1) := by decide +kernel
theorem dX4_machine_11 : decode cX4_machine 11 = .ok (.if_icmp .le 5, 3) := by decide +kernel
theorem dX4_machine_14 : decode cX4_machine 14 = .ok (.iconst (-1), 1) := by decide +kernel
theorem dX4_machine_15 : decode cX4_machine 15 = .ok (.ireturn, 1) := by decide +kernel
theorem dX4_machine_16 : decode cX4_machine 16 = .ok (.iload_n 2, 1) := by decide +kernel
theorem dX4_machine_17 : decode cX4_machine 17 = .ok (.ifCond .lt 13, 3) := by decide +kernel
theorem dX4_machine_20 : decode cX4_machine 20 = .ok (.iload_n 1, 1) := by decide +kernel
theorem dX4_machine_21 : decode cX4_machine 21 = .ok (.iload_n 2, 1) := by decide +kernel
theorem dX4_machine_22 : decode cX4_machine 22 = .ok (.invokestatic 118, 3) := by decide +kernel
theorem dX4_machine_25 : decode cX4_machine 25 = .ok (.ifCond .ne 5, 3) := by decide +kernel
theorem dX4_machine_28 : decode cX4_machine 28 = .ok (.iconst (-1), 1) := by decide +kernel
theorem dX4_machine_29 : decode cX4_machine 29 = .ok (.ireturn, 1) := by decide +kernel
theorem dX4_machine_30 : decode cX4_machine 30 = .ok (.aload_n 0, 1) := by decide +kernel
theorem dX4_machine_31 : decode cX4_machine 31 = .ok (.getfield 42, 3) := by decide +kernel
theorem dX4_machine_34 : decode cX4_machine 34 = .ok (.ifCond .lt 15, 3) := by decide +kernel
theorem dX4_machine_37 : decode cX4_machine 37 = .ok (.aload_n 0, 1) := by decide +kernel
theorem dX4_machine_38 : decode cX4_machine 38 = .ok (.getfield 42, 3) := by decide +kernel
theorem dX4_machine_41 : decode cX4_machine 41 = .ok (.aload_n 0, 1) := by decide +kernel
theorem dX4_machine_42 : decode cX4_machine 42 = .ok (.getfield 11, 3) := by decide +kernel
theorem dX4_machine_45 : decode cX4_machine 45 = .ok (.arraylength, 1) := by decide +kernel
theorem dX4_machine_46 : decode cX4_machine 46 = .ok (.if_icmp .lt 6, 3) := by decide +kernel
theorem dX4_machine_49 : decode cX4_machine 49 = .ok (.bipush (-2), 2) := by decide +kernel
theorem dX4_machine_51 : decode cX4_machine 51 = .ok (.ireturn, 1) := by decide +kernel
theorem dX4_machine_52 : decode cX4_machine 52 = .ok (.iload_n 2, 1) := by decide +kernel
theorem dX4_machine_53 : decode cX4_machine 53 = .ok (.ifCond .ge 9, 3) := by decide +kernel
theorem dX4_machine_56 : decode cX4_machine 56 = .ok (.aload_n 0, 1) := by decide +kernel
theorem dX4_machine_57 : decode cX4_machine 57 = .ok (.iconst 5, 1) := by decide +kernel
theorem dX4_machine_58 : decode cX4_machine 58 = .ok (.invokevirtual 79, 3) := by decide +kernel
theorem dX4_machine_61 : decode cX4_machine 61 = .ok (.ireturn, 1) := by decide +kernel
theorem dX4_machine_62 : decode cX4_machine 62 = .ok (.aload_n 0, 1) := by decide +kernel
theorem dX4_machine_63 : decode cX4_machine 63 = .ok (.getfield 11, 3) := by decide +kernel
theorem dX4_machine_66 : decode cX4_machine 66 = .ok (.aload_n 0, 1) := by decide +kernel
theorem dX4_machine_67 : decode cX4_machine 67 = .ok (.getfield 42, 3) := by decide +kernel
theorem dX4_machine_70 : decode cX4_machine 70 = .ok (.new 9, 3) := by decide +kernel
theorem dX4_machine_73 : decode cX4_machine 73 = .ok (.dup, 1) := by decide +kernel
theorem dX4_machine_74 : decode cX4_machine 74 = .ok (.iload_n 1, 1) := by decide +kernel
theorem dX4_machine_75 : decode cX4_machine 75 = .ok (.iload_n 2, 1) := by decide +kernel
theorem dX4_machine_76 : decode cX4_machine 76 = .ok (.invokespecial 121, 3) := by decide +kernel
theorem dX4_machine_79 : decode cX4_machine 79 = .ok (.aastore, 1) := by decide +kernel
theorem dX4_machine_80 : decode cX4_machine 80 = .ok (.aload_n 0, 1) := by decide +kernel
theorem dX4_machine_81 : decode cX4_machine 81 = .ok (.dup, 1) := by decide +kernel
theorem dX4_machine_82 : decode cX4_machine 82 = .ok (.getfield 42, 3) := by decide +kernel
theorem dX4_machine_85 : decode cX4_machine 85 = .ok (.iconst 1, 1) := by decide +kernel
theorem dX4_machine_86 : decode cX4_machine 86 = .ok (.iadd, 1) := by decide +kernel
theorem dX4_machine_87 : decode cX4_machine 87 = .ok (.putfield 42, 3) := by decide +kernel
theorem dX4_machine_90 : decode cX4_machine 90 = .ok (.aload_n 0, 1) := by decide +kernel
theorem dX4_machine_91 : decode cX4_machine 91 = .ok (.getfield 42, 3) := by decide +kernel
theorem dX4_machine_94 : decode cX4_machine 94 = .ok (.iconst 1, 1) := by decide +kernel
theorem dX4_machine_95 : decode cX4_machine 95 = .ok (.isub, 1) := by decide +kernel
theorem dX4_machine_96 : decode cX4_machine 96 = .ok (.ireturn, 1) := by decide +kernel
theorem dX4_is_0 : decode cX4_is 0 = .ok (.aload_n 0, 1) := by decide +kernel
theorem dX4_is_1 : decode cX4_is 1 = .ok (.iload_n 1, 1) := by decide +kernel
theorem dX4_is_2 : decode cX4_is 2 = .ok (.invokevirtual 71, 3) := by decide +kernel
theorem dX4_is_5 : decode cX4_is 5 = .ok (.astore_n 3, 1) := by decide +kernel
theorem dX4_is_6 : decode cX4_is 6 = .ok (.aload_n 3, 1) := by decide +kernel
theorem dX4_is_7 : decode cX4_is 7 = .ok (.ifnull 12, 3) := by decide +kernel
theorem dX4_is_10 : decode cX4_is 10 = .ok (.iload_n 2, 1) := by decide +kernel
theorem dX4_is_11 : decode cX4_is 11 = .ok (.ifCond .lt 8, 3) := by decide +kernel
theorem dX4_is_14 : decode cX4_is 14 = .ok (.iload_n 2, 1) := by decide +kernel
theorem dX4_is_15 : decode cX4_is 15 = .ok (.iconst 3, 1) := by decide +kernel
theorem dX4_is_16 : decode cX4_is 16 = .ok (.if_icmp .le 5, 3) := by decide +kernel
theorem dX4_is_19 : decode cX4_is 19 = .ok (.iconst (-1), 1) := by decide +kernel
theorem dX4_is_20 : decode cX4_is 20 = .ok (.ireturn, 1) := by decide +kernel
theorem dX4_is_21 : decode cX4_is 21 = .ok (.aload_n 3, 1) := by decide +kernel
theorem dX4_is_22 : decode cX4_is 22 = .ok (.iload_n 2, 1) := by decide +kernel
theorem dX4_is_23 : decode cX4_is 23 = .ok (.invokevirtual 122, 3) := by decide +kernel
theorem dX4_is_26 : decode cX4_is 26 = .ok (.ifCond .eq 7, 3) := by decide +kernel
theorem dX4_is_29 : decode cX4_is 29 = .ok (.iconst 1, 1) := by decide +kernel
theorem dX4_is_30 : decode cX4_is 30 = .ok (.goto 4, 3) := by decide +kernel
theorem dX4_is_33 : decode cX4_is 33 = .ok (.iconst 0, 1) := by decide +kernel
theorem dX4_is_34 : decode cX4_is 34 = .ok (.ireturn, 1) := by decide +kernel
theorem dX4_told_0 : decode cX4_told 0 = .ok (.aload_n 0, 1) := by decide +kernel
theorem dX4_told_1 : decode cX4_told 1 = .ok (.iload_n 1, 1) := by decide +kernel
theorem dX4_told_2 : decode cX4_told 2 = .ok (.invokevirtual 71, 3) := by decide +kernel
theorem dX4_told_5 : decode cX4_told 5 = .ok (.astore_n 3, 1) := by decide +kernel
theorem dX4_told_6 : decode cX4_told 6 = .ok (.aload_n 3, 1) := by decide +kernel
theorem dX4_told_7 : decode cX4_told 7 = .ok (.ifnonnull 5, 3) := by decide +kernel
theorem dX4_told_10 : decode cX4_told 10 = .ok (.iconst (-1), 1) := by decide +kernel
theorem dX4_told_11 : decode cX4_told 11 = .ok (.ireturn, 1) := by decide +kernel
theorem dX4_told_12 : decode cX4_told 12 = .ok (.iload_n 2, 1) := by decide +kernel
theorem dX4_told_13 : decode cX4_told 13 = .ok (.tableswitch 42 0 2 #[27, 32, 37], 27) := by decide +kernel
theorem dX4_told_40 : decode cX4_told 40 = .ok (.aload_n 3, 1) := by decide +kernel
theorem dX4_told_41 : decode cX4_told 41 = .ok (.getfield 126, 3) := by decide +kernel
theorem dX4_told_44 : decode cX4_told 44 = .ok (.ireturn, 1) := by decide +kernel
theorem dX4_told_45 : decode cX4_told 45 = .ok (.aload_n 3, 1) := by decide +kernel
theorem dX4_told_46 : decode cX4_told 46 = .ok (.getfield 127, 3) := by decide +kernel
theorem dX4_told_49 : decode cX4_told 49 = .ok (.ireturn, 1) := by decide +kernel
theorem dX4_told_50 : decode cX4_told 50 = .ok (.aload_n 3, 1) := by decide +kernel
theorem dX4_told_51 : decode cX4_told 51 = .ok (.getfield 130, 3) := by decide +kernel
theorem dX4_told_54 : decode cX4_told 54 = .ok (.ireturn, 1) := by decide +kernel
theorem dX4_told_55 : decode cX4_told 55 = .ok (.iconst (-1), 1) := by decide +kernel
theorem dX4_told_56 : decode cX4_told 56 = .ok (.ireturn, 1) := by decide +kernel
theorem dX4_pay_0 : decode cX4_pay 0 = .ok (.aload_n 0, 1) := by decide +kernel
theorem dX4_pay_1 : decode cX4_pay 1 = .ok (.iload_n 1, 1) := by decide +kernel
theorem dX4_pay_2 : decode cX4_pay 2 = .ok (.invokevirtual 71, 3) := by decide +kernel
theorem dX4_pay_5 : decode cX4_pay 5 = .ok (.astore 4, 2) := by decide +kernel
theorem dX4_pay_7 : decode cX4_pay 7 = .ok (.aload 4, 2) := by decide +kernel
theorem dX4_pay_9 : decode cX4_pay 9 = .ok (.ifnull 11, 3) := by decide +kernel
theorem dX4_pay_12 : decode cX4_pay 12 = .ok (.iload_n 3, 1) := by decide +kernel
theorem dX4_pay_13 : decode cX4_pay 13 = .ok (.i2l, 1) := by decide +kernel
theorem dX4_pay_14 : decode cX4_pay 14 = .ok (.invokestatic 133, 3) := by decide +kernel
theorem dX4_pay_17 : decode cX4_pay 17 = .ok (.ifCond .ne 5, 3) := by decide +kernel
theorem dX4_pay_20 : decode cX4_pay 20 = .ok (.iconst (-1), 1) := by decide +kernel
theorem dX4_pay_21 : decode cX4_pay 21 = .ok (.ireturn, 1) := by decide +kernel
theorem dX4_pay_22 : decode cX4_pay 22 = .ok (.aload 4, 2) := by decide +kernel
theorem dX4_pay_24 : decode cX4_pay 24 = .ok (.iload_n 2, 1) := by decide +kernel
theorem dX4_pay_25 : decode cX4_pay 25 = .ok (.invokevirtual 137, 3) := by decide +kernel
theorem dX4_pay_28 : decode cX4_pay 28 = .ok (.ifCond .ne 9, 3) := by decide +kernel
theorem dX4_pay_31 : decode cX4_pay 31 = .ok (.aload_n 0, 1) := by decide +kernel
theorem dX4_pay_32 : decode cX4_pay 32 = .ok (.iconst 2, 1) := by decide +kernel
theorem dX4_pay_33 : decode cX4_pay 33 = .ok (.invokevirtual 79, 3) := by decide +kernel
theorem dX4_pay_36 : decode cX4_pay 36 = .ok (.ireturn, 1) := by decide +kernel
theorem dX4_pay_37 : decode cX4_pay 37 = .ok (.aload 4, 2) := by decide +kernel
theorem dX4_pay_39 : decode cX4_pay 39 = .ok (.iload_n 2, 1) := by decide +kernel
theorem dX4_pay_40 : decode cX4_pay 40 = .ok (.invokevirtual 140, 3) := by decide +kernel
theorem dX4_pay_43 : decode cX4_pay 43 = .ok (.ifCond .ne 6, 3) := by decide +kernel
theorem dX4_pay_46 : decode cX4_pay 46 = .ok (.bipush (-4), 2) := by decide +kernel
theorem dX4_pay_48 : decode cX4_pay 48 = .ok (.ireturn, 1) := by decide +kernel
theorem dX4_pay_49 : decode cX4_pay 49 = .ok (.aload 4, 2) := by decide +kernel
theorem dX4_pay_51 : decode cX4_pay 51 = .ok (.iload_n 2, 1) := by decide +kernel
theorem dX4_pay_52 : decode cX4_pay 52 = .ok (.invokevirtual 143, 3) := by decide +kernel
theorem dX4_pay_55 : decode cX4_pay 55 = .ok (.istore 5, 2) := by decide +kernel
theorem dX4_pay_57 : decode cX4_pay 57 = .ok (.aload 4, 2) := by decide +kernel
theorem dX4_pay_59 : decode cX4_pay 59 = .ok (.iload_n 2, 1) := by decide +kernel
theorem dX4_pay_60 : decode cX4_pay 60 = .ok (.iload_n 3, 1) := by decide +kernel
theorem dX4_pay_61 : decode cX4_pay 61 = .ok (.invokevirtual 146, 3) := by decide +kernel
theorem dX4_pay_64 : decode cX4_pay 64 = .ok (.sipush 1000, 3) := by decide +kernel
theorem dX4_pay_67 : decode cX4_pay 67 = .ok (.iload 5, 2) := by decide +kernel
theorem dX4_pay_69 : decode cX4_pay 69 = .ok (.iadd, 1) := by decide +kernel
theorem dX4_pay_70 : decode cX4_pay 70 = .ok (.ireturn, 1) := by decide +kernel
theorem dX4_chance_0 : decode cX4_chance 0 = .ok (.aload_n 0, 1) := by decide +kernel
theorem dX4_chance_1 : decode cX4_chance 1 = .ok (.iload_n 1, 1) := by decide +kernel
theorem dX4_chance_2 : decode cX4_chance 2 = .ok (.invokevirtual 71, 3) := by decide +kernel
theorem dX4_chance_5 : decode cX4_chance 5 = .ok (.astore 5, 2) := by decide +kernel
theorem dX4_chance_7 : decode cX4_chance 7 = .ok (.aload 5, 2) := by decide +kernel
theorem dX4_chance_9 : decode cX4_chance 9 = .ok (.ifnull 15, 3) := by decide +kernel
theorem dX4_chance_12 : decode cX4_chance 12 = .ok (.iload 4, 2) := by decide +kernel
theorem dX4_chance_14 : decode cX4_chance 14 = .ok (.ifCond .lt 10, 3) := by decide +kernel
theorem dX4_chance_17 : decode cX4_chance 17 = .ok (.iload 4, 2) := by decide +kernel
theorem dX4_chance_19 : decode cX4_chance 19 = .ok (.bipush 10, 2) := by decide +kernel
theorem dX4_chance_21 : decode cX4_chance 21 = .ok (.if_icmp .le 5, 3) := by decide +kernel
theorem dX4_chance_24 : decode cX4_chance 24 = .ok (.iconst (-1), 1) := by decide +kernel
theorem dX4_chance_25 : decode cX4_chance 25 = .ok (.ireturn, 1) := by decide +kernel
theorem dX4_chance_26 : decode cX4_chance 26 = .ok (.aload 5, 2) := by decide +kernel
theorem dX4_chance_28 : decode cX4_chance 28 = .ok (.iconst 2, 1) := by decide +kernel
theorem dX4_chance_29 : decode cX4_chance 29 = .ok (.invokevirtual 122, 3) := by decide +kernel
theorem dX4_chance_32 : decode cX4_chance 32 = .ok (.ifCond .eq 9, 3) := by decide +kernel
theorem dX4_chance_35 : decode cX4_chance 35 = .ok (.aload_n 0, 1) := by decide +kernel
theorem dX4_chance_36 : decode cX4_chance 36 = .ok (.iconst 3, 1) := by decide +kernel
theorem dX4_chance_37 : decode cX4_chance 37 = .ok (.invokevirtual 79, 3) := by decide +kernel
theorem dX4_chance_40 : decode cX4_chance 40 = .ok (.ireturn, 1) := by decide +kernel
theorem dX4_chance_41 : decode cX4_chance 41 = .ok (.aload 5, 2) := by decide +kernel
theorem dX4_chance_43 : decode cX4_chance 43 = .ok (.iload_n 2, 1) := by decide +kernel
theorem dX4_chance_44 : decode cX4_chance 44 = .ok (.invokevirtual 137, 3) := by decide +kernel
theorem dX4_chance_47 : decode cX4_chance 47 = .ok (.ifCond .eq 12, 3) := by decide +kernel
theorem dX4_chance_50 : decode cX4_chance 50 = .ok (.aload 5, 2) := by decide +kernel
theorem dX4_chance_52 : decode cX4_chance 52 = .ok (.iload_n 3, 1) := by decide +kernel
theorem dX4_chance_53 : decode cX4_chance 53 = .ok (.invokevirtual 137, 3) := by decide +kernel
theorem dX4_chance_56 : decode cX4_chance 56 = .ok (.ifCond .ne 9, 3) := by decide +kernel
theorem dX4_chance_59 : decode cX4_chance 59 = .ok (.aload_n 0, 1) := by decide +kernel
theorem dX4_chance_60 : decode cX4_chance 60 = .ok (.iconst 2, 1) := by decide +kernel
theorem dX4_chance_61 : decode cX4_chance 61 = .ok (.invokevirtual 79, 3) := by decide +kernel
theorem dX4_chance_64 : decode cX4_chance 64 = .ok (.ireturn, 1) := by decide +kernel
theorem dX4_chance_65 : decode cX4_chance 65 = .ok (.aload 5, 2) := by decide +kernel
theorem dX4_chance_67 : decode cX4_chance 67 = .ok (.iload_n 2, 1) := by decide +kernel
theorem dX4_chance_68 : decode cX4_chance 68 = .ok (.iload_n 3, 1) := by decide +kernel
theorem dX4_chance_69 : decode cX4_chance 69 = .ok (.invokevirtual 149, 3) := by decide +kernel
theorem dX4_chance_72 : decode cX4_chance 72 = .ok (.istore 6, 2) := by decide +kernel
theorem dX4_chance_74 : decode cX4_chance 74 = .ok (.aload 5, 2) := by decide +kernel
theorem dX4_chance_76 : decode cX4_chance 76 = .ok (.iload_n 2, 1) := by decide +kernel
theorem dX4_chance_77 : decode cX4_chance 77 = .ok (.invokevirtual 153, 3) := by decide +kernel
theorem dX4_chance_80 : decode cX4_chance 80 = .ok (.iload 6, 2) := by decide +kernel
theorem dX4_chance_82 : decode cX4_chance 82 = .ok (.isub, 1) := by decide +kernel
theorem dX4_chance_83 : decode cX4_chance 83 = .ok (.iload 4, 2) := by decide +kernel
theorem dX4_chance_85 : decode cX4_chance 85 = .ok (.iadd, 1) := by decide +kernel
theorem dX4_chance_86 : decode cX4_chance 86 = .ok (.istore 7, 2) := by decide +kernel
theorem dX4_chance_88 : decode cX4_chance 88 = .ok (.iload 7, 2) := by decide +kernel
theorem dX4_chance_90 : decode cX4_chance 90 = .ok (.iconst 1, 1) := by decide +kernel
theorem dX4_chance_91 : decode cX4_chance 91 = .ok (.if_icmp .lt 10, 3) := by decide +kernel
theorem dX4_chance_94 : decode cX4_chance 94 = .ok (.iload 7, 2) := by decide +kernel
theorem dX4_chance_96 : decode cX4_chance 96 = .ok (.bipush 10, 2) := by decide +kernel
theorem dX4_chance_98 : decode cX4_chance 98 = .ok (.if_icmp .le 6, 3) := by decide +kernel
theorem dX4_chance_101 : decode cX4_chance 101 = .ok (.bipush (-4), 2) := by decide +kernel
theorem dX4_chance_103 : decode cX4_chance 103 = .ok (.ireturn, 1) := by decide +kernel
theorem dX4_chance_104 : decode cX4_chance 104 = .ok (.aload 5, 2) := by decide +kernel
theorem dX4_chance_106 : decode cX4_chance 106 = .ok (.iload_n 2, 1) := by decide +kernel
theorem dX4_chance_107 : decode cX4_chance 107 = .ok (.iload_n 3, 1) := by decide +kernel
theorem dX4_chance_108 : decode cX4_chance 108 = .ok (.iload 4, 2) := by decide +kernel
theorem dX4_chance_110 : decode cX4_chance 110 = .ok (.invokevirtual 156, 3) := by decide +kernel
theorem dX4_chance_113 : decode cX4_chance 113 = .ok (.iload 6, 2) := by decide +kernel
theorem dX4_chance_115 : decode cX4_chance 115 = .ok (.ireturn, 1) := by decide +kernel
theorem dX4_fill_0 : decode cX4_fill 0 = .ok (.aload_n 0, 1) := by decide +kernel
theorem dX4_fill_1 : decode cX4_fill 1 = .ok (.iload_n 1, 1) := by decide +kernel
theorem dX4_fill_2 : decode cX4_fill 2 = .ok (.invokevirtual 71, 3) := by decide +kernel
theorem dX4_fill_5 : decode cX4_fill 5 = .ok (.astore 4, 2) := by decide +kernel
theorem dX4_fill_7 : decode cX4_fill 7 = .ok (.aload_n 0, 1) := by decide +kernel
theorem dX4_fill_8 : decode cX4_fill 8 = .ok (.iload_n 2, 1) := by decide +kernel
theorem dX4_fill_9 : decode cX4_fill 9 = .ok (.invokevirtual 86, 3) := by decide +kernel
theorem dX4_fill_12 : decode cX4_fill 12 = .ok (.astore 5, 2) := by decide +kernel
theorem dX4_fill_14 : decode cX4_fill 14 = .ok (.aload 4, 2) := by decide +kernel
theorem dX4_fill_16 : decode cX4_fill 16 = .ok (.ifnull 8, 3) := by decide +kernel
theorem dX4_fill_19 : decode cX4_fill 19 = .ok (.aload 5, 2) := by decide +kernel
theorem dX4_fill_21 : decode cX4_fill 21 = .ok (.ifnonnull 5, 3) := by decide +kernel
theorem dX4_fill_24 : decode cX4_fill 24 = .ok (.iconst (-1), 1) := by decide +kernel
theorem dX4_fill_25 : decode cX4_fill 25 = .ok (.ireturn, 1) := by decide +kernel
theorem dX4_fill_26 : decode cX4_fill 26 = .ok (.aload 5, 2) := by decide +kernel
theorem dX4_fill_28 : decode cX4_fill 28 = .ok (.getfield 90, 3) := by decide +kernel
theorem dX4_fill_31 : decode cX4_fill 31 = .ok (.ifCond .eq 9, 3) := by decide +kernel
theorem dX4_fill_34 : decode cX4_fill 34 = .ok (.aload_n 0, 1) := by decide +kernel
theorem dX4_fill_35 : decode cX4_fill 35 = .ok (.iconst 1, 1) := by decide +kernel
theorem dX4_fill_36 : decode cX4_fill 36 = .ok (.invokevirtual 79, 3) := by decide +kernel
theorem dX4_fill_39 : decode cX4_fill 39 = .ok (.ireturn, 1) := by decide +kernel
theorem dX4_fill_40 : decode cX4_fill 40 = .ok (.aload 5, 2) := by decide +kernel
theorem dX4_fill_42 : decode cX4_fill 42 = .ok (.iload_n 3, 1) := by decide +kernel
theorem dX4_fill_43 : decode cX4_fill 43 = .ok (.aload 4, 2) := by decide +kernel
theorem dX4_fill_45 : decode cX4_fill 45 = .ok (.getfield 127, 3) := by decide +kernel
theorem dX4_fill_48 : decode cX4_fill 48 = .ok (.invokevirtual 93, 3) := by decide +kernel
theorem dX4_fill_51 : decode cX4_fill 51 = .ok (.ifCond .ne 9, 3) := by decide +kernel
theorem dX4_fill_54 : decode cX4_fill 54 = .ok (.aload_n 0, 1) := by decide +kernel
theorem dX4_fill_55 : decode cX4_fill 55 = .ok (.iconst 2, 1) := by decide +kernel
theorem dX4_fill_56 : decode cX4_fill 56 = .ok (.invokevirtual 79, 3) := by decide +kernel
theorem dX4_fill_59 : decode cX4_fill 59 = .ok (.ireturn, 1) := by decide +kernel
theorem dX4_fill_60 : decode cX4_fill 60 = .ok (.iconst 0, 1) := by decide +kernel
theorem dX4_fill_61 : decode cX4_fill 61 = .ok (.istore 6, 2) := by decide +kernel
theorem dX4_fill_63 : decode cX4_fill 63 = .ok (.iload 6, 2) := by decide +kernel
theorem dX4_fill_65 : decode cX4_fill 65 = .ok (.aload 4, 2) := by decide +kernel
theorem dX4_fill_67 : decode cX4_fill 67 = .ok (.getfield 127, 3) := by decide +kernel
theorem dX4_fill_70 : decode cX4_fill 70 = .ok (.if_icmp .ge 48, 3) := by decide +kernel
theorem dX4_fill_73 : decode cX4_fill 73 = .ok (.aload 5, 2) := by decide +kernel
theorem dX4_fill_75 : decode cX4_fill 75 = .ok (.iload_n 3, 1) := by decide +kernel
theorem dX4_fill_76 : decode cX4_fill 76 = .ok (.iload 6, 2) := by decide +kernel
theorem dX4_fill_78 : decode cX4_fill 78 = .ok (.iadd, 1) := by decide +kernel
theorem dX4_fill_79 : decode cX4_fill 79 = .ok (.invokevirtual 101, 3) := by decide +kernel
theorem dX4_fill_82 : decode cX4_fill 82 = .ok (.lstore 7, 2) := by decide +kernel
theorem dX4_fill_84 : decode cX4_fill 84 = .ok (.lload 7, 2) := by decide +kernel
theorem dX4_fill_86 : decode cX4_fill 86 = .ok (.invokestatic 133, 3) := by decide +kernel
theorem dX4_fill_89 : decode cX4_fill 89 = .ok (.ifCond .eq 20, 3) := by decide +kernel
theorem dX4_fill_92 : decode cX4_fill 92 = .ok (.lload 7, 2) := by decide +kernel
theorem dX4_fill_94 : decode cX4_fill 94 = .ok (.lconst 0, 1) := by decide +kernel
theorem dX4_fill_95 : decode cX4_fill 95 = .ok (.lcmp, 1) := by decide +kernel
theorem dX4_fill_96 : decode cX4_fill 96 = .ok (.ifCond .eq 16, 3) := by decide +kernel
theorem dX4_fill_99 : decode cX4_fill 99 = .ok (.aload 4, 2) := by decide +kernel
theorem dX4_fill_101 : decode cX4_fill 101 = .ok (.iload 6, 2) := by decide +kernel
theorem dX4_fill_103 : decode cX4_fill 103 = .ok (.invokevirtual 140, 3) := by decide +kernel
theorem dX4_fill_106 : decode cX4_fill 106 = .ok (.ifCond .ne 6, 3) := by decide +kernel
theorem dX4_fill_109 : decode cX4_fill 109 = .ok (.bipush (-4), 2) := by decide +kernel
theorem dX4_fill_111 : decode cX4_fill 111 = .ok (.ireturn, 1) := by decide +kernel
theorem dX4_fill_112 : decode cX4_fill 112 = .ok (.iinc 6 1, 3) := by decide +kernel
theorem dX4_fill_115 : decode cX4_fill 115 = .ok (.goto (-52), 3) := by decide +kernel
theorem dX4_fill_118 : decode cX4_fill 118 = .ok (.iconst 0, 1) := by decide +kernel
theorem dX4_fill_119 : decode cX4_fill 119 = .ok (.istore 6, 2) := by decide +kernel
theorem dX4_fill_121 : decode cX4_fill 121 = .ok (.iload 6, 2) := by decide +kernel
theorem dX4_fill_123 : decode cX4_fill 123 = .ok (.aload 4, 2) := by decide +kernel
theorem dX4_fill_125 : decode cX4_fill 125 = .ok (.getfield 127, 3) := by decide +kernel
theorem dX4_fill_128 : decode cX4_fill 128 = .ok (.if_icmp .ge 26, 3) := by decide +kernel
theorem dX4_fill_131 : decode cX4_fill 131 = .ok (.aload 4, 2) := by decide +kernel
theorem dX4_fill_133 : decode cX4_fill 133 = .ok (.iload 6, 2) := by decide +kernel
theorem dX4_fill_135 : decode cX4_fill 135 = .ok (.aload 5, 2) := by decide +kernel
theorem dX4_fill_137 : decode cX4_fill 137 = .ok (.iload_n 3, 1) := by decide +kernel
theorem dX4_fill_138 : decode cX4_fill 138 = .ok (.iload 6, 2) := by decide +kernel
theorem dX4_fill_140 : decode cX4_fill 140 = .ok (.iadd, 1) := by decide +kernel
theorem dX4_fill_141 : decode cX4_fill 141 = .ok (.invokevirtual 101, 3) := by decide +kernel
theorem dX4_fill_144 : decode cX4_fill 144 = .ok (.l2i, 1) := by decide +kernel
theorem dX4_fill_145 : decode cX4_fill 145 = .ok (.invokevirtual 146, 3) := by decide +kernel
theorem dX4_fill_148 : decode cX4_fill 148 = .ok (.iinc 6 1, 3) := by decide +kernel
theorem dX4_fill_151 : decode cX4_fill 151 = .ok (.goto (-30), 3) := by decide +kernel
theorem dX4_fill_154 : decode cX4_fill 154 = .ok (.aload 4, 2) := by decide +kernel
theorem dX4_fill_156 : decode cX4_fill 156 = .ok (.getfield 127, 3) := by decide +kernel
theorem dX4_fill_159 : decode cX4_fill 159 = .ok (.ireturn, 1) := by decide +kernel
theorem dX4_ask_0 : decode cX4_ask 0 = .ok (.aload_n 0, 1) := by decide +kernel
theorem dX4_ask_1 : decode cX4_ask 1 = .ok (.iload_n 1, 1) := by decide +kernel
theorem dX4_ask_2 : decode cX4_ask 2 = .ok (.invokevirtual 71, 3) := by decide +kernel
theorem dX4_ask_5 : decode cX4_ask 5 = .ok (.astore 4, 2) := by decide +kernel
theorem dX4_ask_7 : decode cX4_ask 7 = .ok (.aload 4, 2) := by decide +kernel
theorem dX4_ask_9 : decode cX4_ask 9 = .ok (.ifnonnull 5, 3) := by decide +kernel
theorem dX4_ask_12 : decode cX4_ask 12 = .ok (.iconst (-1), 1) := by decide +kernel
theorem dX4_ask_13 : decode cX4_ask 13 = .ok (.ireturn, 1) := by decide +kernel
theorem dX4_ask_14 : decode cX4_ask 14 = .ok (.aload 4, 2) := by decide +kernel
theorem dX4_ask_16 : decode cX4_ask 16 = .ok (.iload_n 2, 1) := by decide +kernel
theorem dX4_ask_17 : decode cX4_ask 17 = .ok (.invokevirtual 137, 3) := by decide +kernel
theorem dX4_ask_20 : decode cX4_ask 20 = .ok (.ifCond .ne 9, 3) := by decide +kernel
theorem dX4_ask_23 : decode cX4_ask 23 = .ok (.aload_n 0, 1) := by decide +kernel
theorem dX4_ask_24 : decode cX4_ask 24 = .ok (.iconst 2, 1) := by decide +kernel
theorem dX4_ask_25 : decode cX4_ask 25 = .ok (.invokevirtual 79, 3) := by decide +kernel
theorem dX4_ask_28 : decode cX4_ask 28 = .ok (.ireturn, 1) := by decide +kernel
theorem dX4_ask_29 : decode cX4_ask 29 = .ok (.iload_n 3, 1) := by decide +kernel
theorem dX4_ask_30 : decode cX4_ask 30 = .ok (.ifCond .lt 12, 3) := by decide +kernel
theorem dX4_ask_33 : decode cX4_ask 33 = .ok (.iload_n 3, 1) := by decide +kernel
theorem dX4_ask_34 : decode cX4_ask 34 = .ok (.aload 4, 2) := by decide +kernel
theorem dX4_ask_36 : decode cX4_ask 36 = .ok (.getfield 127, 3) := by decide +kernel
theorem dX4_ask_39 : decode cX4_ask 39 = .ok (.if_icmp .le 5, 3) := by decide +kernel
theorem dX4_ask_42 : decode cX4_ask 42 = .ok (.iconst (-1), 1) := by decide +kernel
theorem dX4_ask_43 : decode cX4_ask 43 = .ok (.ireturn, 1) := by decide +kernel
theorem dX4_ask_44 : decode cX4_ask 44 = .ok (.aload_n 0, 1) := by decide +kernel
theorem dX4_ask_45 : decode cX4_ask 45 = .ok (.iload_n 3, 1) := by decide +kernel
theorem dX4_ask_46 : decode cX4_ask 46 = .ok (.ifCond .ne 13, 3) := by decide +kernel
theorem dX4_ask_49 : decode cX4_ask 49 = .ok (.aload 4, 2) := by decide +kernel
theorem dX4_ask_51 : decode cX4_ask 51 = .ok (.iload_n 2, 1) := by decide +kernel
theorem dX4_ask_52 : decode cX4_ask 52 = .ok (.invokevirtual 143, 3) := by decide +kernel
theorem dX4_ask_55 : decode cX4_ask 55 = .ok (.i2l, 1) := by decide +kernel
theorem dX4_ask_56 : decode cX4_ask 56 = .ok (.goto 13, 3) := by decide +kernel
theorem dX4_ask_59 : decode cX4_ask 59 = .ok (.aload 4, 2) := by decide +kernel
theorem dX4_ask_61 : decode cX4_ask 61 = .ok (.iload_n 2, 1) := by decide +kernel
theorem dX4_ask_62 : decode cX4_ask 62 = .ok (.iload_n 3, 1) := by decide +kernel
theorem dX4_ask_63 : decode cX4_ask 63 = .ok (.iconst 1, 1) := by decide +kernel
theorem dX4_ask_64 : decode cX4_ask 64 = .ok (.isub, 1) := by decide +kernel
theorem dX4_ask_65 : decode cX4_ask 65 = .ok (.invokevirtual 149, 3) := by decide +kernel
theorem dX4_ask_68 : decode cX4_ask 68 = .ok (.i2l, 1) := by decide +kernel
theorem dX4_ask_69 : decode cX4_ask 69 = .ok (.putfield 64, 3) := by decide +kernel
theorem dX4_ask_72 : decode cX4_ask 72 = .ok (.iconst 1, 1) := by decide +kernel
theorem dX4_ask_73 : decode cX4_ask 73 = .ok (.ireturn, 1) := by decide +kernel
theorem dX4_stand_0 : decode cX4_stand 0 = .ok (.aload_n 0, 1) := by decide +kernel
theorem dX4_stand_1 : decode cX4_stand 1 = .ok (.iload_n 1, 1) := by decide +kernel
theorem dX4_stand_2 : decode cX4_stand 2 = .ok (.invokevirtual 71, 3) := by decide +kernel
theorem dX4_stand_5 : decode cX4_stand 5 = .ok (.astore_n 3, 1) := by decide +kernel
theorem dX4_stand_6 : decode cX4_stand 6 = .ok (.aload_n 3, 1) := by decide +kernel
theorem dX4_stand_7 : decode cX4_stand 7 = .ok (.ifnonnull 5, 3) := by decide +kernel
theorem dX4_stand_10 : decode cX4_stand 10 = .ok (.iconst (-1), 1) := by decide +kernel
theorem dX4_stand_11 : decode cX4_stand 11 = .ok (.ireturn, 1) := by decide +kernel
theorem dX4_stand_12 : decode cX4_stand 12 = .ok (.aload_n 3, 1) := by decide +kernel
theorem dX4_stand_13 : decode cX4_stand 13 = .ok (.iload_n 2, 1) := by decide +kernel
theorem dX4_stand_14 : decode cX4_stand 14 = .ok (.invokevirtual 137, 3) := by decide +kernel
theorem dX4_stand_17 : decode cX4_stand 17 = .ok (.ifCond .ne 9, 3) := by decide +kernel
theorem dX4_stand_20 : decode cX4_stand 20 = .ok (.aload_n 0, 1) := by decide +kernel
theorem dX4_stand_21 : decode cX4_stand 21 = .ok (.iconst 2, 1) := by decide +kernel
theorem dX4_stand_22 : decode cX4_stand 22 = .ok (.invokevirtual 79, 3) := by decide +kernel
theorem dX4_stand_25 : decode cX4_stand 25 = .ok (.ireturn, 1) := by decide +kernel
theorem dX4_stand_26 : decode cX4_stand 26 = .ok (.aload_n 3, 1) := by decide +kernel
theorem dX4_stand_27 : decode cX4_stand 27 = .ok (.getfield 130, 3) := by decide +kernel
theorem dX4_stand_30 : decode cX4_stand 30 = .ok (.istore 4, 2) := by decide +kernel
theorem dX4_stand_32 : decode cX4_stand 32 = .ok (.aload_n 3, 1) := by decide +kernel
theorem dX4_stand_33 : decode cX4_stand 33 = .ok (.iload_n 2, 1) := by decide +kernel
theorem dX4_stand_34 : decode cX4_stand 34 = .ok (.putfield 130, 3) := by decide +kernel
theorem dX4_stand_37 : decode cX4_stand 37 = .ok (.iload 4, 2) := by decide +kernel
theorem dX4_stand_39 : decode cX4_stand 39 = .ok (.ireturn, 1) := by decide +kernel
theorem dX4_worth_0 : decode cX4_worth 0 = .ok (.aload_n 0, 1) := by decide +kernel
theorem dX4_worth_1 : decode cX4_worth 1 = .ok (.iload_n 1, 1) := by decide +kernel
theorem dX4_worth_2 : decode cX4_worth 2 = .ok (.invokevirtual 71, 3) := by decide +kernel
theorem dX4_worth_5 : decode cX4_worth 5 = .ok (.astore_n 3, 1) := by decide +kernel
theorem dX4_worth_6 : decode cX4_worth 6 = .ok (.aload_n 3, 1) := by decide +kernel
theorem dX4_worth_7 : decode cX4_worth 7 = .ok (.ifnonnull 5, 3) := by decide +kernel
theorem dX4_worth_10 : decode cX4_worth 10 = .ok (.iconst (-1), 1) := by decide +kernel
theorem dX4_worth_11 : decode cX4_worth 11 = .ok (.ireturn, 1) := by decide +kernel
theorem dX4_worth_12 : decode cX4_worth 12 = .ok (.aload_n 3, 1) := by decide +kernel
theorem dX4_worth_13 : decode cX4_worth 13 = .ok (.iload_n 2, 1) := by decide +kernel
theorem dX4_worth_14 : decode cX4_worth 14 = .ok (.invokevirtual 137, 3) := by decide +kernel
theorem dX4_worth_17 : decode cX4_worth 17 = .ok (.ifCond .ne 9, 3) := by decide +kernel
theorem dX4_worth_20 : decode cX4_worth 20 = .ok (.aload_n 0, 1) := by decide +kernel
theorem dX4_worth_21 : decode cX4_worth 21 = .ok (.iconst 2, 1) := by decide +kernel
theorem dX4_worth_22 : decode cX4_worth 22 = .ok (.invokevirtual 79, 3) := by decide +kernel
theorem dX4_worth_25 : decode cX4_worth 25 = .ok (.ireturn, 1) := by decide +kernel
theorem dX4_worth_26 : decode cX4_worth 26 = .ok (.aload_n 0, 1) := by decide +kernel
theorem dX4_worth_27 : decode cX4_worth 27 = .ok (.getfield 31, 3) := by decide +kernel
theorem dX4_worth_30 : decode cX4_worth 30 = .ok (.aload_n 0, 1) := by decide +kernel
theorem dX4_worth_31 : decode cX4_worth 31 = .ok (.aload_n 3, 1) := by decide +kernel
theorem dX4_worth_32 : decode cX4_worth 32 = .ok (.iload_n 2, 1) := by decide +kernel
theorem dX4_worth_33 : decode cX4_worth 33 = .ok (.invokevirtual 160, 3) := by decide +kernel
theorem dX4_worth_36 : decode cX4_worth 36 = .ok (.invokevirtual 164, 3) := by decide +kernel
theorem dX4_worth_39 : decode cX4_worth 39 = .ok (.iconst 1, 1) := by decide +kernel
theorem dX4_worth_40 : decode cX4_worth 40 = .ok (.ireturn, 1) := by decide +kernel
theorem dX4_way_0 : decode cX4_way 0 = .ok (.aload_n 0, 1) := by decide +kernel
theorem dX4_way_1 : decode cX4_way 1 = .ok (.iload_n 1, 1) := by decide +kernel
theorem dX4_way_2 : decode cX4_way 2 = .ok (.invokevirtual 71, 3) := by decide +kernel
theorem dX4_way_5 : decode cX4_way 5 = .ok (.astore 4, 2) := by decide +kernel
theorem dX4_way_7 : decode cX4_way 7 = .ok (.aload 4, 2) := by decide +kernel
theorem dX4_way_9 : decode cX4_way 9 = .ok (.ifnull 13, 3) := by decide +kernel
theorem dX4_way_12 : decode cX4_way 12 = .ok (.iload_n 3, 1) := by decide +kernel
theorem dX4_way_13 : decode cX4_way 13 = .ok (.ifCond .lt 9, 3) := by decide +kernel
theorem dX4_way_16 : decode cX4_way 16 = .ok (.iload_n 3, 1) := by decide +kernel
theorem dX4_way_17 : decode cX4_way 17 = .ok (.bipush 31, 2) := by decide +kernel
theorem dX4_way_19 : decode cX4_way 19 = .ok (.if_icmp .le 5, 3) := by decide +kernel
theorem dX4_way_22 : decode cX4_way 22 = .ok (.iconst (-1), 1) := by decide +kernel
theorem dX4_way_23 : decode cX4_way 23 = .ok (.ireturn, 1) := by decide +kernel
theorem dX4_way_24 : decode cX4_way 24 = .ok (.aload 4, 2) := by decide +kernel
theorem dX4_way_26 : decode cX4_way 26 = .ok (.iload_n 2, 1) := by decide +kernel
theorem dX4_way_27 : decode cX4_way 27 = .ok (.invokevirtual 137, 3) := by decide +kernel
theorem dX4_way_30 : decode cX4_way 30 = .ok (.ifCond .ne 9, 3) := by decide +kernel
theorem dX4_way_33 : decode cX4_way 33 = .ok (.aload_n 0, 1) := by decide +kernel
theorem dX4_way_34 : decode cX4_way 34 = .ok (.iconst 2, 1) := by decide +kernel
theorem dX4_way_35 : decode cX4_way 35 = .ok (.invokevirtual 79, 3) := by decide +kernel
theorem dX4_way_38 : decode cX4_way 38 = .ok (.ireturn, 1) := by decide +kernel
theorem dX4_way_39 : decode cX4_way 39 = .ok (.aload_n 0, 1) := by decide +kernel
theorem dX4_way_40 : decode cX4_way 40 = .ok (.getfield 31, 3) := by decide +kernel
theorem dX4_way_43 : decode cX4_way 43 = .ok (.aload_n 0, 1) := by decide +kernel
theorem dX4_way_44 : decode cX4_way 44 = .ok (.getfield 24, 3) := by decide +kernel
theorem dX4_way_47 : decode cX4_way 47 = .ok (.aload 4, 2) := by decide +kernel
theorem dX4_way_49 : decode cX4_way 49 = .ok (.iload_n 2, 1) := by decide +kernel
theorem dX4_way_50 : decode cX4_way 50 = .ok (.iload_n 3, 1) := by decide +kernel
theorem dX4_way_51 : decode cX4_way 51 = .ok (.aload_n 0, 1) := by decide +kernel
theorem dX4_way_52 : decode cX4_way 52 = .ok (.getfield 49, 3) := by decide +kernel
theorem dX4_way_55 : decode cX4_way 55 = .ok (.aload_n 0, 1) := by decide +kernel
theorem dX4_way_56 : decode cX4_way 56 = .ok (.getfield 52, 3) := by decide +kernel
theorem dX4_way_59 : decode cX4_way 59 = .ok (.invokevirtual 168, 3) := by decide +kernel
theorem dX4_way_62 : decode cX4_way 62 = .ok (.invokevirtual 164, 3) := by decide +kernel
theorem dX4_way_65 : decode cX4_way 65 = .ok (.iconst 1, 1) := by decide +kernel
theorem dX4_way_66 : decode cX4_way 66 = .ok (.ireturn, 1) := by decide +kernel
theorem dX4_upper_0 : decode cX4_upper 0 = .ok (.aload_n 0, 1) := by decide +kernel
theorem dX4_upper_1 : decode cX4_upper 1 = .ok (.getfield 31, 3) := by decide +kernel
theorem dX4_upper_4 : decode cX4_upper 4 = .ok (.getfield 172, 3) := by decide +kernel
theorem dX4_upper_7 : decode cX4_upper 7 = .ok (.lreturn, 1) := by decide +kernel
theorem dX4_lower_0 : decode cX4_lower 0 = .ok (.aload_n 0, 1) := by decide +kernel
theorem dX4_lower_1 : decode cX4_lower 1 = .ok (.getfield 31, 3) := by decide +kernel
theorem dX4_lower_4 : decode cX4_lower 4 = .ok (.getfield 175, 3) := by decide +kernel
theorem dX4_lower_7 : decode cX4_lower 7 = .ok (.lreturn, 1) := by decide +kernel
theorem dX4_order_0 : decode cX4_order 0 = .ok (.aload_n 0, 1) := by decide +kernel
theorem dX4_order_1 : decode cX4_order 1 = .ok (.iload_n 1, 1) := by decide +kernel
theorem dX4_order_2 : decode cX4_order 2 = .ok (.invokevirtual 71, 3) := by decide +kernel
theorem dX4_order_5 : decode cX4_order 5 = .ok (.astore_n 3, 1) := by decide +kernel
theorem dX4_order_6 : decode cX4_order 6 = .ok (.aload_n 3, 1) := by decide +kernel
theorem dX4_order_7 : decode cX4_order 7 = .ok (.ifnonnull 5, 3) := by decide +kernel
theorem dX4_order_10 : decode cX4_order 10 = .ok (.iconst (-1), 1) := by decide +kernel
theorem dX4_order_11 : decode cX4_order 11 = .ok (.ireturn, 1) := by decide +kernel
theorem dX4_order_12 : decode cX4_order 12 = .ok (.iconst 0, 1) := by decide +kernel
theorem dX4_order_13 : decode cX4_order 13 = .ok (.istore 4, 2) := by decide +kernel
theorem dX4_order_15 : decode cX4_order 15 = .ok (.iload 4, 2) := by decide +kernel
theorem dX4_order_17 : decode cX4_order 17 = .ok (.aload_n 3, 1) := by decide +kernel
theorem dX4_order_18 : decode cX4_order 18 = .ok (.getfield 127, 3) := by decide +kernel
theorem dX4_order_21 : decode cX4_order 21 = .ok (.if_icmp .ge 23, 3) := by decide +kernel
theorem dX4_order_24 : decode cX4_order 24 = .ok (.aload_n 0, 1) := by decide +kernel
theorem dX4_order_25 : decode cX4_order 25 = .ok (.aload_n 3, 1) := by decide +kernel
theorem dX4_order_26 : decode cX4_order 26 = .ok (.iload 4, 2) := by decide +kernel
theorem dX4_order_28 : decode cX4_order 28 = .ok (.invokevirtual 178, 3) := by decide +kernel
theorem dX4_order_31 : decode cX4_order 31 = .ok (.iload_n 2, 1) := by decide +kernel
theorem dX4_order_32 : decode cX4_order 32 = .ok (.if_icmp .ne 6, 3) := by decide +kernel
theorem dX4_order_35 : decode cX4_order 35 = .ok (.iload 4, 2) := by decide +kernel
theorem dX4_order_37 : decode cX4_order 37 = .ok (.ireturn, 1) := by decide +kernel
theorem dX4_order_38 : decode cX4_order 38 = .ok (.iinc 4 1, 3) := by decide +kernel
theorem dX4_order_41 : decode cX4_order 41 = .ok (.goto (-26), 3) := by decide +kernel
theorem dX4_order_44 : decode cX4_order 44 = .ok (.bipush (-9), 2) := by decide +kernel
theorem dX4_order_46 : decode cX4_order 46 = .ok (.ireturn, 1) := by decide +kernel
theorem dX4_goes_0 : decode cX4_goes 0 = .ok (.aload_n 0, 1) := by decide +kernel
theorem dX4_goes_1 : decode cX4_goes 1 = .ok (.iload_n 1, 1) := by decide +kernel
theorem dX4_goes_2 : decode cX4_goes 2 = .ok (.invokevirtual 71, 3) := by decide +kernel
theorem dX4_goes_5 : decode cX4_goes 5 = .ok (.astore_n 3, 1) := by decide +kernel
theorem dX4_goes_6 : decode cX4_goes 6 = .ok (.aload_n 3, 1) := by decide +kernel
theorem dX4_goes_7 : decode cX4_goes 7 = .ok (.ifnonnull 5, 3) := by decide +kernel
theorem dX4_goes_10 : decode cX4_goes 10 = .ok (.iconst (-1), 1) := by decide +kernel
theorem dX4_goes_11 : decode cX4_goes 11 = .ok (.ireturn, 1) := by decide +kernel
theorem dX4_goes_12 : decode cX4_goes 12 = .ok (.aload_n 3, 1) := by decide +kernel
theorem dX4_goes_13 : decode cX4_goes 13 = .ok (.iload_n 2, 1) := by decide +kernel
theorem dX4_goes_14 : decode cX4_goes 14 = .ok (.invokevirtual 137, 3) := by decide +kernel
theorem dX4_goes_17 : decode cX4_goes 17 = .ok (.ifCond .ne 9, 3) := by decide +kernel
theorem dX4_goes_20 : decode cX4_goes 20 = .ok (.aload_n 0, 1) := by decide +kernel
theorem dX4_goes_21 : decode cX4_goes 21 = .ok (.iconst 2, 1) := by decide +kernel
theorem dX4_goes_22 : decode cX4_goes 22 = .ok (.invokevirtual 79, 3) := by decide +kernel
theorem dX4_goes_25 : decode cX4_goes 25 = .ok (.ireturn, 1) := by decide +kernel
theorem dX4_goes_26 : decode cX4_goes 26 = .ok (.iconst 0, 1) := by decide +kernel
theorem dX4_goes_27 : decode cX4_goes 27 = .ok (.istore 4, 2) := by decide +kernel
theorem dX4_goes_29 : decode cX4_goes 29 = .ok (.iconst 0, 1) := by decide +kernel
theorem dX4_goes_30 : decode cX4_goes 30 = .ok (.istore 5, 2) := by decide +kernel
theorem dX4_goes_32 : decode cX4_goes 32 = .ok (.iload 5, 2) := by decide +kernel
theorem dX4_goes_34 : decode cX4_goes 34 = .ok (.aload_n 3, 1) := by decide +kernel
theorem dX4_goes_35 : decode cX4_goes 35 = .ok (.getfield 127, 3) := by decide +kernel
theorem dX4_goes_38 : decode cX4_goes 38 = .ok (.if_icmp .ge 37, 3) := by decide +kernel
theorem dX4_goes_41 : decode cX4_goes 41 = .ok (.aload_n 0, 1) := by decide +kernel
theorem dX4_goes_42 : decode cX4_goes 42 = .ok (.aload_n 3, 1) := by decide +kernel
theorem dX4_goes_43 : decode cX4_goes 43 = .ok (.iload 5, 2) := by decide +kernel
theorem dX4_goes_45 : decode cX4_goes 45 = .ok (.invokevirtual 160, 3) := by decide +kernel
theorem dX4_goes_48 : decode cX4_goes 48 = .ok (.aload_n 0, 1) := by decide +kernel
theorem dX4_goes_49 : decode cX4_goes 49 = .ok (.aload_n 3, 1) := by decide +kernel
theorem dX4_goes_50 : decode cX4_goes 50 = .ok (.iload_n 2, 1) := by decide +kernel
theorem dX4_goes_51 : decode cX4_goes 51 = .ok (.invokevirtual 160, 3) := by decide +kernel
theorem dX4_goes_54 : decode cX4_goes 54 = .ok (.invokevirtual 182, 3) := by decide +kernel
theorem dX4_goes_57 : decode cX4_goes 57 = .ok (.ifCond .lt 12, 3) := by decide +kernel
theorem dX4_goes_60 : decode cX4_goes 60 = .ok (.iload 4, 2) := by decide +kernel
theorem dX4_goes_62 : decode cX4_goes 62 = .ok (.iconst 1, 1) := by decide +kernel
theorem dX4_goes_63 : decode cX4_goes 63 = .ok (.iload 5, 2) := by decide +kernel
theorem dX4_goes_65 : decode cX4_goes 65 = .ok (.ishl, 1) := by decide +kernel
theorem dX4_goes_66 : decode cX4_goes 66 = .ok (.ior, 1) := by decide +kernel
theorem dX4_goes_67 : decode cX4_goes 67 = .ok (.istore 4, 2) := by decide +kernel
theorem dX4_goes_69 : decode cX4_goes 69 = .ok (.iinc 5 1, 3) := by decide +kernel
theorem dX4_goes_72 : decode cX4_goes 72 = .ok (.goto (-40), 3) := by decide +kernel
theorem dX4_goes_75 : decode cX4_goes 75 = .ok (.iload 4, 2) := by decide +kernel
theorem dX4_goes_77 : decode cX4_goes 77 = .ok (.ireturn, 1) := by decide +kernel
theorem dX4_even_0 : decode cX4_even 0 = .ok (.aload_n 0, 1) := by decide +kernel
theorem dX4_even_1 : decode cX4_even 1 = .ok (.iload_n 1, 1) := by decide +kernel
theorem dX4_even_2 : decode cX4_even 2 = .ok (.invokevirtual 71, 3) := by decide +kernel
theorem dX4_even_5 : decode cX4_even 5 = .ok (.astore 5, 2) := by decide +kernel
theorem dX4_even_7 : decode cX4_even 7 = .ok (.aload 5, 2) := by decide +kernel
theorem dX4_even_9 : decode cX4_even 9 = .ok (.ifnull 27, 3) := by decide +kernel
theorem dX4_even_12 : decode cX4_even 12 = .ok (.iload_n 3, 1) := by decide +kernel
theorem dX4_even_13 : decode cX4_even 13 = .ok (.ldc 186, 2) := by decide +kernel
theorem dX4_even_15 : decode cX4_even 15 = .ok (.if_icmp .lt 21, 3) := by decide +kernel
theorem dX4_even_18 : decode cX4_even 18 = .ok (.iload_n 3, 1) := by decide +kernel
theorem dX4_even_19 : decode cX4_even 19 = .ok (.ldc 187, 2) := by decide +kernel
theorem dX4_even_21 : decode cX4_even 21 = .ok (.if_icmp .gt 15, 3) := by decide +kernel
theorem dX4_even_24 : decode cX4_even 24 = .ok (.iload 4, 2) := by decide +kernel
theorem dX4_even_26 : decode cX4_even 26 = .ok (.ifCond .lt 10, 3) := by decide +kernel
theorem dX4_even_29 : decode cX4_even 29 = .ok (.iload 4, 2) := by decide +kernel
theorem dX4_even_31 : decode cX4_even 31 = .ok (.ldc 187, 2) := by decide +kernel
theorem dX4_even_33 : decode cX4_even 33 = .ok (.if_icmp .le 5, 3) := by decide +kernel
theorem dX4_even_36 : decode cX4_even 36 = .ok (.iconst (-1), 1) := by decide +kernel
theorem dX4_even_37 : decode cX4_even 37 = .ok (.ireturn, 1) := by decide +kernel
theorem dX4_even_38 : decode cX4_even 38 = .ok (.aload 5, 2) := by decide +kernel
theorem dX4_even_40 : decode cX4_even 40 = .ok (.iload_n 2, 1) := by decide +kernel
theorem dX4_even_41 : decode cX4_even 41 = .ok (.invokevirtual 137, 3) := by decide +kernel
theorem dX4_even_44 : decode cX4_even 44 = .ok (.ifCond .ne 9, 3) := by decide +kernel
theorem dX4_even_47 : decode cX4_even 47 = .ok (.aload_n 0, 1) := by decide +kernel
theorem dX4_even_48 : decode cX4_even 48 = .ok (.iconst 2, 1) := by decide +kernel
theorem dX4_even_49 : decode cX4_even 49 = .ok (.invokevirtual 79, 3) := by decide +kernel
theorem dX4_even_52 : decode cX4_even 52 = .ok (.ireturn, 1) := by decide +kernel
theorem dX4_even_53 : decode cX4_even 53 = .ok (.iload 4, 2) := by decide +kernel
theorem dX4_even_55 : decode cX4_even 55 = .ok (.ifCond .ne 9, 3) := by decide +kernel
theorem dX4_even_58 : decode cX4_even 58 = .ok (.aload_n 0, 1) := by decide +kernel
theorem dX4_even_59 : decode cX4_even 59 = .ok (.iconst 4, 1) := by decide +kernel
theorem dX4_even_60 : decode cX4_even 60 = .ok (.invokevirtual 79, 3) := by decide +kernel
theorem dX4_even_63 : decode cX4_even 63 = .ok (.ireturn, 1) := by decide +kernel
theorem dX4_even_64 : decode cX4_even 64 = .ok (.aload_n 0, 1) := by decide +kernel
theorem dX4_even_65 : decode cX4_even 65 = .ok (.aload 5, 2) := by decide +kernel
theorem dX4_even_67 : decode cX4_even 67 = .ok (.iload_n 2, 1) := by decide +kernel
theorem dX4_even_68 : decode cX4_even 68 = .ok (.invokevirtual 160, 3) := by decide +kernel
theorem dX4_even_71 : decode cX4_even 71 = .ok (.astore 6, 2) := by decide +kernel
theorem dX4_even_73 : decode cX4_even 73 = .ok (.aload 6, 2) := by decide +kernel
theorem dX4_even_75 : decode cX4_even 75 = .ok (.getfield 172, 3) := by decide +kernel
theorem dX4_even_78 : decode cX4_even 78 = .ok (.aload 6, 2) := by decide +kernel
theorem dX4_even_80 : decode cX4_even 80 = .ok (.getfield 175, 3) := by decide +kernel
theorem dX4_even_83 : decode cX4_even 83 = .ok (.iload_n 3, 1) := by decide +kernel
theorem dX4_even_84 : decode cX4_even 84 = .ok (.i2l, 1) := by decide +kernel
theorem dX4_even_85 : decode cX4_even 85 = .ok (.iload 4, 2) := by decide +kernel
theorem dX4_even_87 : decode cX4_even 87 = .ok (.i2l, 1) := by decide +kernel
theorem dX4_even_88 : decode cX4_even 88 = .ok (.invokestatic 188, 3) := by decide +kernel
theorem dX4_even_91 : decode cX4_even 91 = .ok (.invokestatic 192, 3) := by decide +kernel
theorem dX4_even_94 : decode cX4_even 94 = .ok (.ireturn, 1) := by decide +kernel
theorem dX4_better_0 : decode cX4_better 0 = .ok (.aload_n 0, 1) := by decide +kernel
theorem dX4_better_1 : decode cX4_better 1 = .ok (.iload_n 1, 1) := by decide +kernel
theorem dX4_better_2 : decode cX4_better 2 = .ok (.invokevirtual 71, 3) := by decide +kernel
theorem dX4_better_5 : decode cX4_better 5 = .ok (.astore_n 3, 1) := by decide +kernel
theorem dX4_better_6 : decode cX4_better 6 = .ok (.aload_n 3, 1) := by decide +kernel
theorem dX4_better_7 : decode cX4_better 7 = .ok (.ifnonnull 5, 3) := by decide +kernel
theorem dX4_better_10 : decode cX4_better 10 = .ok (.iconst (-1), 1) := by decide +kernel
theorem dX4_better_11 : decode cX4_better 11 = .ok (.ireturn, 1) := by decide +kernel
theorem dX4_better_12 : decode cX4_better 12 = .ok (.aload_n 3, 1) := by decide +kernel
theorem dX4_better_13 : decode cX4_better 13 = .ok (.iload_n 2, 1) := by decide +kernel
theorem dX4_better_14 : decode cX4_better 14 = .ok (.invokevirtual 137, 3) := by decide +kernel
theorem dX4_better_17 : decode cX4_better 17 = .ok (.ifCond .ne 9, 3) := by decide +kernel
theorem dX4_better_20 : decode cX4_better 20 = .ok (.aload_n 0, 1) := by decide +kernel
theorem dX4_better_21 : decode cX4_better 21 = .ok (.iconst 2, 1) := by decide +kernel
theorem dX4_better_22 : decode cX4_better 22 = .ok (.invokevirtual 79, 3) := by decide +kernel
theorem dX4_better_25 : decode cX4_better 25 = .ok (.ireturn, 1) := by decide +kernel
theorem dX4_better_26 : decode cX4_better 26 = .ok (.aload_n 0, 1) := by decide +kernel
theorem dX4_better_27 : decode cX4_better 27 = .ok (.aload_n 3, 1) := by decide +kernel
theorem dX4_better_28 : decode cX4_better 28 = .ok (.iload_n 2, 1) := by decide +kernel
theorem dX4_better_29 : decode cX4_better 29 = .ok (.invokevirtual 160, 3) := by decide +kernel
theorem dX4_better_32 : decode cX4_better 32 = .ok (.astore 4, 2) := by decide +kernel
theorem dX4_better_34 : decode cX4_better 34 = .ok (.aload_n 0, 1) := by decide +kernel
theorem dX4_better_35 : decode cX4_better 35 = .ok (.getfield 31, 3) := by decide +kernel
theorem dX4_better_38 : decode cX4_better 38 = .ok (.aload 4, 2) := by decide +kernel
theorem dX4_better_40 : decode cX4_better 40 = .ok (.getfield 172, 3) := by decide +kernel
theorem dX4_better_43 : decode cX4_better 43 = .ok (.aload_n 3, 1) := by decide +kernel
theorem dX4_better_44 : decode cX4_better 44 = .ok (.iload_n 2, 1) := by decide +kernel
theorem dX4_better_45 : decode cX4_better 45 = .ok (.invokevirtual 143, 3) := by decide +kernel
theorem dX4_better_48 : decode cX4_better 48 = .ok (.i2l, 1) := by decide +kernel
theorem dX4_better_49 : decode cX4_better 49 = .ok (.aload 4, 2) := by decide +kernel
theorem dX4_better_51 : decode cX4_better 51 = .ok (.getfield 175, 3) := by decide +kernel
theorem dX4_better_54 : decode cX4_better 54 = .ok (.lmul, 1) := by decide +kernel
theorem dX4_better_55 : decode cX4_better 55 = .ok (.lsub, 1) := by decide +kernel
theorem dX4_better_56 : decode cX4_better 56 = .ok (.aload 4, 2) := by decide +kernel
theorem dX4_better_58 : decode cX4_better 58 = .ok (.getfield 175, 3) := by decide +kernel
theorem dX4_better_61 : decode cX4_better 61 = .ok (.invokevirtual 195, 3) := by decide +kernel
theorem dX4_better_64 : decode cX4_better 64 = .ok (.iconst 1, 1) := by decide +kernel
theorem dX4_better_65 : decode cX4_better 65 = .ok (.ireturn, 1) := by decide +kernel
theorem dX4_mean_0 : decode cX4_mean 0 = .ok (.aload_n 0, 1) := by decide +kernel
theorem dX4_mean_1 : decode cX4_mean 1 = .ok (.iload_n 1, 1) := by decide +kernel
theorem dX4_mean_2 : decode cX4_mean 2 = .ok (.invokevirtual 71, 3) := by decide +kernel
theorem dX4_mean_5 : decode cX4_mean 5 = .ok (.astore_n 3, 1) := by decide +kernel
theorem dX4_mean_6 : decode cX4_mean 6 = .ok (.aload_n 3, 1) := by decide +kernel
theorem dX4_mean_7 : decode cX4_mean 7 = .ok (.ifnonnull 5, 3) := by decide +kernel
theorem dX4_mean_10 : decode cX4_mean 10 = .ok (.iconst (-1), 1) := by decide +kernel
theorem dX4_mean_11 : decode cX4_mean 11 = .ok (.ireturn, 1) := by decide +kernel
theorem dX4_mean_12 : decode cX4_mean 12 = .ok (.aload_n 3, 1) := by decide +kernel
theorem dX4_mean_13 : decode cX4_mean 13 = .ok (.iload_n 2, 1) := by decide +kernel
theorem dX4_mean_14 : decode cX4_mean 14 = .ok (.invokevirtual 137, 3) := by decide +kernel
theorem dX4_mean_17 : decode cX4_mean 17 = .ok (.ifCond .ne 9, 3) := by decide +kernel
theorem dX4_mean_20 : decode cX4_mean 20 = .ok (.aload_n 0, 1) := by decide +kernel
theorem dX4_mean_21 : decode cX4_mean 21 = .ok (.iconst 2, 1) := by decide +kernel
theorem dX4_mean_22 : decode cX4_mean 22 = .ok (.invokevirtual 79, 3) := by decide +kernel
theorem dX4_mean_25 : decode cX4_mean 25 = .ok (.ireturn, 1) := by decide +kernel
theorem dX4_mean_26 : decode cX4_mean 26 = .ok (.lconst 0, 1) := by decide +kernel
theorem dX4_mean_27 : decode cX4_mean 27 = .ok (.lstore 4, 2) := by decide +kernel
theorem dX4_mean_29 : decode cX4_mean 29 = .ok (.iconst 0, 1) := by decide +kernel
theorem dX4_mean_30 : decode cX4_mean 30 = .ok (.istore 6, 2) := by decide +kernel
theorem dX4_mean_32 : decode cX4_mean 32 = .ok (.iload 6, 2) := by decide +kernel
theorem dX4_mean_34 : decode cX4_mean 34 = .ok (.aload_n 3, 1) := by decide +kernel
theorem dX4_mean_35 : decode cX4_mean 35 = .ok (.getfield 127, 3) := by decide +kernel
theorem dX4_mean_38 : decode cX4_mean 38 = .ok (.if_icmp .ge 29, 3) := by decide +kernel
theorem dX4_mean_41 : decode cX4_mean 41 = .ok (.lload 4, 2) := by decide +kernel
theorem dX4_mean_43 : decode cX4_mean 43 = .ok (.aload_n 3, 1) := by decide +kernel
theorem dX4_mean_44 : decode cX4_mean 44 = .ok (.iload_n 2, 1) := by decide +kernel
theorem dX4_mean_45 : decode cX4_mean 45 = .ok (.iload 6, 2) := by decide +kernel
theorem dX4_mean_47 : decode cX4_mean 47 = .ok (.invokevirtual 149, 3) := by decide +kernel
theorem dX4_mean_50 : decode cX4_mean 50 = .ok (.aload_n 3, 1) := by decide +kernel
theorem dX4_mean_51 : decode cX4_mean 51 = .ok (.iload 6, 2) := by decide +kernel
theorem dX4_mean_53 : decode cX4_mean 53 = .ok (.invokevirtual 143, 3) := by decide +kernel
theorem dX4_mean_56 : decode cX4_mean 56 = .ok (.imul, 1) := by decide +kernel
theorem dX4_mean_57 : decode cX4_mean 57 = .ok (.i2l, 1) := by decide +kernel
theorem dX4_mean_58 : decode cX4_mean 58 = .ok (.ladd, 1) := by decide +kernel
theorem dX4_mean_59 : decode cX4_mean 59 = .ok (.lstore 4, 2) := by decide +kernel
theorem dX4_mean_61 : decode cX4_mean 61 = .ok (.iinc 6 1, 3) := by decide +kernel
theorem dX4_mean_64 : decode cX4_mean 64 = .ok (.goto (-32), 3) := by decide +kernel
theorem dX4_mean_67 : decode cX4_mean 67 = .ok (.aload_n 0, 1) := by decide +kernel
theorem dX4_mean_68 : decode cX4_mean 68 = .ok (.getfield 31, 3) := by decide +kernel
theorem dX4_mean_71 : decode cX4_mean 71 = .ok (.lload 4, 2) := by decide +kernel
theorem dX4_mean_73 : decode cX4_mean 73 = .ok (.aload_n 3, 1) := by decide +kernel
theorem dX4_mean_74 : decode cX4_mean 74 = .ok (.iload_n 2, 1) := by decide +kernel
theorem dX4_mean_75 : decode cX4_mean 75 = .ok (.invokevirtual 153, 3) := by decide +kernel
theorem dX4_mean_78 : decode cX4_mean 78 = .ok (.i2l, 1) := by decide +kernel
theorem dX4_mean_79 : decode cX4_mean 79 = .ok (.invokevirtual 195, 3) := by decide +kernel
theorem dX4_mean_82 : decode cX4_mean 82 = .ok (.iconst 1, 1) := by decide +kernel
theorem dX4_mean_83 : decode cX4_mean 83 = .ok (.ireturn, 1) := by decide +kernel
theorem dX4_row_0 : decode cX4_row 0 = .ok (.aload_n 0, 1) := by decide +kernel
theorem dX4_row_1 : decode cX4_row 1 = .ok (.iload_n 1, 1) := by decide +kernel
theorem dX4_row_2 : decode cX4_row 2 = .ok (.invokevirtual 71, 3) := by decide +kernel
theorem dX4_row_5 : decode cX4_row 5 = .ok (.astore_n 3, 1) := by decide +kernel
theorem dX4_row_6 : decode cX4_row 6 = .ok (.aload_n 3, 1) := by decide +kernel
theorem dX4_row_7 : decode cX4_row 7 = .ok (.ifnonnull 5, 3) := by decide +kernel
theorem dX4_row_10 : decode cX4_row 10 = .ok (.iconst (-1), 1) := by decide +kernel
theorem dX4_row_11 : decode cX4_row 11 = .ok (.ireturn, 1) := by decide +kernel
theorem dX4_row_12 : decode cX4_row 12 = .ok (.aload_n 3, 1) := by decide +kernel
theorem dX4_row_13 : decode cX4_row 13 = .ok (.iconst 2, 1) := by decide +kernel
theorem dX4_row_14 : decode cX4_row 14 = .ok (.invokevirtual 122, 3) := by decide +kernel
theorem dX4_row_17 : decode cX4_row 17 = .ok (.ifCond .ne 9, 3) := by decide +kernel
theorem dX4_row_20 : decode cX4_row 20 = .ok (.aload_n 0, 1) := by decide +kernel
theorem dX4_row_21 : decode cX4_row 21 = .ok (.iconst 3, 1) := by decide +kernel
theorem dX4_row_22 : decode cX4_row 22 = .ok (.invokevirtual 79, 3) := by decide +kernel
theorem dX4_row_25 : decode cX4_row 25 = .ok (.ireturn, 1) := by decide +kernel
theorem dX4_row_26 : decode cX4_row 26 = .ok (.aload_n 3, 1) := by decide +kernel
theorem dX4_row_27 : decode cX4_row 27 = .ok (.iload_n 2, 1) := by decide +kernel
theorem dX4_row_28 : decode cX4_row 28 = .ok (.invokevirtual 137, 3) := by decide +kernel
theorem dX4_row_31 : decode cX4_row 31 = .ok (.ifCond .ne 9, 3) := by decide +kernel
theorem dX4_row_34 : decode cX4_row 34 = .ok (.aload_n 0, 1) := by decide +kernel
theorem dX4_row_35 : decode cX4_row 35 = .ok (.iconst 2, 1) := by decide +kernel
theorem dX4_row_36 : decode cX4_row 36 = .ok (.invokevirtual 79, 3) := by decide +kernel
theorem dX4_row_39 : decode cX4_row 39 = .ok (.ireturn, 1) := by decide +kernel
theorem dX4_row_40 : decode cX4_row 40 = .ok (.aload_n 0, 1) := by decide +kernel
theorem dX4_row_41 : decode cX4_row 41 = .ok (.getfield 24, 3) := by decide +kernel
theorem dX4_row_44 : decode cX4_row 44 = .ok (.aload_n 3, 1) := by decide +kernel
theorem dX4_row_45 : decode cX4_row 45 = .ok (.iload_n 2, 1) := by decide +kernel
theorem dX4_row_46 : decode cX4_row 46 = .ok (.aload_n 0, 1) := by decide +kernel
theorem dX4_row_47 : decode cX4_row 47 = .ok (.getfield 49, 3) := by decide +kernel
theorem dX4_row_50 : decode cX4_row 50 = .ok (.aload_n 0, 1) := by decide +kernel
theorem dX4_row_51 : decode cX4_row 51 = .ok (.getfield 52, 3) := by decide +kernel
theorem dX4_row_54 : decode cX4_row 54 = .ok (.invokevirtual 199, 3) := by decide +kernel
theorem dX4_row_57 : decode cX4_row 57 = .ok (.ireturn, 1) := by decide +kernel
theorem dX4_least_0 : decode cX4_least 0 = .ok (.aload_n 0, 1) := by decide +kernel
theorem dX4_least_1 : decode cX4_least 1 = .ok (.iload_n 1, 1) := by decide +kernel
theorem dX4_least_2 : decode cX4_least 2 = .ok (.invokevirtual 71, 3) := by decide +kernel
theorem dX4_least_5 : decode cX4_least 5 = .ok (.astore_n 2, 1) := by decide +kernel
theorem dX4_least_6 : decode cX4_least 6 = .ok (.aload_n 2, 1) := by decide +kernel
theorem dX4_least_7 : decode cX4_least 7 = .ok (.ifnonnull 5, 3) := by decide +kernel
theorem dX4_least_10 : decode cX4_least 10 = .ok (.iconst (-1), 1) := by decide +kernel
theorem dX4_least_11 : decode cX4_least 11 = .ok (.ireturn, 1) := by decide +kernel
theorem dX4_least_12 : decode cX4_least 12 = .ok (.iconst 0, 1) := by decide +kernel
theorem dX4_least_13 : decode cX4_least 13 = .ok (.istore_n 3, 1) := by decide +kernel
theorem dX4_least_14 : decode cX4_least 14 = .ok (.iconst 1, 1) := by decide +kernel
theorem dX4_least_15 : decode cX4_least 15 = .ok (.istore 4, 2) := by decide +kernel
theorem dX4_least_17 : decode cX4_least 17 = .ok (.iload 4, 2) := by decide +kernel
theorem dX4_least_19 : decode cX4_least 19 = .ok (.aload_n 2, 1) := by decide +kernel
theorem dX4_least_20 : decode cX4_least 20 = .ok (.getfield 127, 3) := by decide +kernel
theorem dX4_least_23 : decode cX4_least 23 = .ok (.if_icmp .ge 31, 3) := by decide +kernel
theorem dX4_least_26 : decode cX4_least 26 = .ok (.aload_n 0, 1) := by decide +kernel
theorem dX4_least_27 : decode cX4_least 27 = .ok (.aload_n 2, 1) := by decide +kernel
theorem dX4_least_28 : decode cX4_least 28 = .ok (.iload 4, 2) := by decide +kernel
theorem dX4_least_30 : decode cX4_least 30 = .ok (.invokevirtual 160, 3) := by decide +kernel
theorem dX4_least_33 : decode cX4_least 33 = .ok (.aload_n 0, 1) := by decide +kernel
theorem dX4_least_34 : decode cX4_least 34 = .ok (.aload_n 2, 1) := by decide +kernel
theorem dX4_least_35 : decode cX4_least 35 = .ok (.iload_n 3, 1) := by decide +kernel
theorem dX4_least_36 : decode cX4_least 36 = .ok (.invokevirtual 160, 3) := by decide +kernel
theorem dX4_least_39 : decode cX4_least 39 = .ok (.invokevirtual 182, 3) := by decide +kernel
theorem dX4_least_42 : decode cX4_least 42 = .ok (.ifCond .ge 6, 3) := by decide +kernel
theorem dX4_least_45 : decode cX4_least 45 = .ok (.iload 4, 2) := by decide +kernel
theorem dX4_least_47 : decode cX4_least 47 = .ok (.istore_n 3, 1) := by decide +kernel
theorem dX4_least_48 : decode cX4_least 48 = .ok (.iinc 4 1, 3) := by decide +kernel
theorem dX4_least_51 : decode cX4_least 51 = .ok (.goto (-34), 3) := by decide +kernel
theorem dX4_least_54 : decode cX4_least 54 = .ok (.aload_n 0, 1) := by decide +kernel
theorem dX4_least_55 : decode cX4_least 55 = .ok (.getfield 31, 3) := by decide +kernel
theorem dX4_least_58 : decode cX4_least 58 = .ok (.aload_n 0, 1) := by decide +kernel
theorem dX4_least_59 : decode cX4_least 59 = .ok (.aload_n 2, 1) := by decide +kernel
theorem dX4_least_60 : decode cX4_least 60 = .ok (.iload_n 3, 1) := by decide +kernel
theorem dX4_least_61 : decode cX4_least 61 = .ok (.invokevirtual 160, 3) := by decide +kernel
theorem dX4_least_64 : decode cX4_least 64 = .ok (.invokevirtual 164, 3) := by decide +kernel
theorem dX4_least_67 : decode cX4_least 67 = .ok (.iconst 1, 1) := by decide +kernel
theorem dX4_least_68 : decode cX4_least 68 = .ok (.ireturn, 1) := by decide +kernel
theorem dX4_compare_0 : decode cX4_compare 0 = .ok (.aload_n 0, 1) := by decide +kernel
theorem dX4_compare_1 : decode cX4_compare 1 = .ok (.iload_n 1, 1) := by decide +kernel
theorem dX4_compare_2 : decode cX4_compare 2 = .ok (.invokevirtual 71, 3) := by decide +kernel
theorem dX4_compare_5 : decode cX4_compare 5 = .ok (.astore 5, 2) := by decide +kernel
theorem dX4_compare_7 : decode cX4_compare 7 = .ok (.aload_n 0, 1) := by decide +kernel
theorem dX4_compare_8 : decode cX4_compare 8 = .ok (.iload_n 3, 1) := by decide +kernel
theorem dX4_compare_9 : decode cX4_compare 9 = .ok (.invokevirtual 71, 3) := by decide +kernel
theorem dX4_compare_12 : decode cX4_compare 12 = .ok (.astore 6, 2) := by decide +kernel
theorem dX4_compare_14 : decode cX4_compare 14 = .ok (.aload 5, 2) := by decide +kernel
theorem dX4_compare_16 : decode cX4_compare 16 = .ok (.ifnull 8, 3) := by decide +kernel
theorem dX4_compare_19 : decode cX4_compare 19 = .ok (.aload 6, 2) := by decide +kernel
theorem dX4_compare_21 : decode cX4_compare 21 = .ok (.ifnonnull 5, 3) := by decide +kernel
theorem dX4_compare_24 : decode cX4_compare 24 = .ok (.iconst (-1), 1) := by decide +kernel
theorem dX4_compare_25 : decode cX4_compare 25 = .ok (.ireturn, 1) := by decide +kernel
theorem dX4_compare_26 : decode cX4_compare 26 = .ok (.aload 5, 2) := by decide +kernel
theorem dX4_compare_28 : decode cX4_compare 28 = .ok (.iload_n 2, 1) := by decide +kernel
theorem dX4_compare_29 : decode cX4_compare 29 = .ok (.invokevirtual 137, 3) := by decide +kernel
theorem dX4_compare_32 : decode cX4_compare 32 = .ok (.ifCond .eq 13, 3) := by decide +kernel
theorem dX4_compare_35 : decode cX4_compare 35 = .ok (.aload 6, 2) := by decide +kernel
theorem dX4_compare_37 : decode cX4_compare 37 = .ok (.iload 4, 2) := by decide +kernel
theorem dX4_compare_39 : decode cX4_compare 39 = .ok (.invokevirtual 137, 3) := by decide +kernel
theorem dX4_compare_42 : decode cX4_compare 42 = .ok (.ifCond .ne 9, 3) := by decide +kernel
theorem dX4_compare_45 : decode cX4_compare 45 = .ok (.aload_n 0, 1) := by decide +kernel
theorem dX4_compare_46 : decode cX4_compare 46 = .ok (.iconst 2, 1) := by decide +kernel
theorem dX4_compare_47 : decode cX4_compare 47 = .ok (.invokevirtual 79, 3) := by decide +kernel
theorem dX4_compare_50 : decode cX4_compare 50 = .ok (.ireturn, 1) := by decide +kernel
theorem dX4_compare_51 : decode cX4_compare 51 = .ok (.aload_n 0, 1) := by decide +kernel
theorem dX4_compare_52 : decode cX4_compare 52 = .ok (.aload 5, 2) := by decide +kernel
theorem dX4_compare_54 : decode cX4_compare 54 = .ok (.iload_n 2, 1) := by decide +kernel
theorem dX4_compare_55 : decode cX4_compare 55 = .ok (.invokevirtual 160, 3) := by decide +kernel
theorem dX4_compare_58 : decode cX4_compare 58 = .ok (.aload_n 0, 1) := by decide +kernel
theorem dX4_compare_59 : decode cX4_compare 59 = .ok (.aload 6, 2) := by decide +kernel
theorem dX4_compare_61 : decode cX4_compare 61 = .ok (.iload 4, 2) := by decide +kernel
theorem dX4_compare_63 : decode cX4_compare 63 = .ok (.invokevirtual 160, 3) := by decide +kernel
theorem dX4_compare_66 : decode cX4_compare 66 = .ok (.invokevirtual 182, 3) := by decide +kernel
theorem dX4_compare_69 : decode cX4_compare 69 = .ok (.invokestatic 192, 3) := by decide +kernel
theorem dX4_compare_72 : decode cX4_compare 72 = .ok (.ireturn, 1) := by decide +kernel
theorem dX4_seed_0 : decode cX4_seed 0 = .ok (.iload_n 1, 1) := by decide +kernel
theorem dX4_seed_1 : decode cX4_seed 1 = .ok (.ifCond .ge 5, 3) := by decide +kernel
theorem dX4_seed_4 : decode cX4_seed 4 = .ok (.iconst (-1), 1) := by decide +kernel
theorem dX4_seed_5 : decode cX4_seed 5 = .ok (.ireturn, 1) := by decide +kernel
theorem dX4_seed_6 : decode cX4_seed 6 = .ok (.aload_n 0, 1) := by decide +kernel
theorem dX4_seed_7 : decode cX4_seed 7 = .ok (.getfield 55, 3) := by decide +kernel
theorem dX4_seed_10 : decode cX4_seed 10 = .ok (.istore_n 2, 1) := by decide +kernel
theorem dX4_seed_11 : decode cX4_seed 11 = .ok (.aload_n 0, 1) := by decide +kernel
theorem dX4_seed_12 : decode cX4_seed 12 = .ok (.iload_n 1, 1) := by decide +kernel
theorem dX4_seed_13 : decode cX4_seed 13 = .ok (.putfield 55, 3) := by decide +kernel
theorem dX4_seed_16 : decode cX4_seed 16 = .ok (.iload_n 2, 1) := by decide +kernel
theorem dX4_seed_17 : decode cX4_seed 17 = .ok (.ireturn, 1) := by decide +kernel
theorem dX4_best_0 : decode cX4_best 0 = .ok (.aload_n 0, 1) := by decide +kernel
theorem dX4_best_1 : decode cX4_best 1 = .ok (.invokevirtual 203, 3) := by decide +kernel
theorem dX4_best_4 : decode cX4_best 4 = .ok (.ireturn, 1) := by decide +kernel
theorem dX4_work_0 : decode cX4_work 0 = .ok (.aload_n 0, 1) := by decide +kernel
theorem dX4_work_1 : decode cX4_work 1 = .ok (.iload_n 1, 1) := by decide +kernel
theorem dX4_work_2 : decode cX4_work 2 = .ok (.invokevirtual 71, 3) := by decide +kernel
theorem dX4_work_5 : decode cX4_work 5 = .ok (.astore_n 2, 1) := by decide +kernel
theorem dX4_work_6 : decode cX4_work 6 = .ok (.aload_n 2, 1) := by decide +kernel
theorem dX4_work_7 : decode cX4_work 7 = .ok (.ifnonnull 5, 3) := by decide +kernel
theorem dX4_work_10 : decode cX4_work 10 = .ok (.iconst (-1), 1) := by decide +kernel
theorem dX4_work_11 : decode cX4_work 11 = .ok (.ireturn, 1) := by decide +kernel
theorem dX4_work_12 : decode cX4_work 12 = .ok (.aload_n 0, 1) := by decide +kernel
theorem dX4_work_13 : decode cX4_work 13 = .ok (.aload_n 2, 1) := by decide +kernel
theorem dX4_work_14 : decode cX4_work 14 = .ok (.invokevirtual 207, 3) := by decide +kernel
theorem dX4_work_17 : decode cX4_work 17 = .ok (.pop, 1) := by decide +kernel
theorem dX4_work_18 : decode cX4_work 18 = .ok (.aload_n 2, 1) := by decide +kernel
theorem dX4_work_19 : decode cX4_work 19 = .ok (.getfield 130, 3) := by decide +kernel
theorem dX4_work_22 : decode cX4_work 22 = .ok (.ireturn, 1) := by decide +kernel
theorem dX4_run_0 : decode cX4_run 0 = .ok (.iload_n 1, 1) := by decide +kernel
theorem dX4_run_1 : decode cX4_run 1 = .ok (.ifCond .lt 10, 3) := by decide +kernel
theorem dX4_run_4 : decode cX4_run 4 = .ok (.iload_n 1, 1) := by decide +kernel
theorem dX4_run_5 : decode cX4_run 5 = .ok (.sipush 500, 3) := by decide +kernel
theorem dX4_run_8 : decode cX4_run 8 = .ok (.if_icmp .le 6, 3) := by decide +kernel
theorem dX4_run_11 : decode cX4_run 11 = .ok (.ldc 186, 2) := by decide +kernel
theorem dX4_run_13 : decode cX4_run 13 = .ok (.ireturn, 1) := by decide +kernel
theorem dX4_run_14 : decode cX4_run 14 = .ok (.aload_n 0, 1) := by decide +kernel
theorem dX4_run_15 : decode cX4_run 15 = .ok (.getfield 42, 3) := by decide +kernel
theorem dX4_run_18 : decode cX4_run 18 = .ok (.ifCond .ne 6, 3) := by decide +kernel
theorem dX4_run_21 : decode cX4_run 21 = .ok (.ldc 211, 2) := by decide +kernel
theorem dX4_run_23 : decode cX4_run 23 = .ok (.ireturn, 1) := by decide +kernel
theorem dX4_run_24 : decode cX4_run 24 = .ok (.aload_n 0, 1) := by decide +kernel
theorem dX4_run_25 : decode cX4_run 25 = .ok (.iconst 0, 1) := by decide +kernel
theorem dX4_run_26 : decode cX4_run 26 = .ok (.putfield 58, 3) := by decide +kernel
theorem dX4_run_29 : decode cX4_run 29 = .ok (.iconst 0, 1) := by decide +kernel
theorem dX4_run_30 : decode cX4_run 30 = .ok (.istore_n 2, 1) := by decide +kernel
theorem dX4_run_31 : decode cX4_run 31 = .ok (.iconst 0, 1) := by decide +kernel
theorem dX4_run_32 : decode cX4_run 32 = .ok (.istore_n 3, 1) := by decide +kernel
theorem dX4_run_33 : decode cX4_run 33 = .ok (.iload_n 3, 1) := by decide +kernel
theorem dX4_run_34 : decode cX4_run 34 = .ok (.iload_n 1, 1) := by decide +kernel
theorem dX4_run_35 : decode cX4_run 35 = .ok (.if_icmp .ge 52, 3) := by decide +kernel
theorem dX4_run_38 : decode cX4_run 38 = .ok (.aload_n 0, 1) := by decide +kernel
theorem dX4_run_39 : decode cX4_run 39 = .ok (.invokevirtual 203, 3) := by decide +kernel
theorem dX4_run_42 : decode cX4_run 42 = .ok (.istore 4, 2) := by decide +kernel
theorem dX4_run_44 : decode cX4_run 44 = .ok (.iload_n 3, 1) := by decide +kernel
theorem dX4_run_45 : decode cX4_run 45 = .ok (.aload_n 0, 1) := by decide +kernel
theorem dX4_run_46 : decode cX4_run 46 = .ok (.getfield 39, 3) := by decide +kernel
theorem dX4_run_49 : decode cX4_run 49 = .ok (.arraylength, 1) := by decide +kernel
theorem dX4_run_50 : decode cX4_run 50 = .ok (.if_icmp .ge 18, 3) := by decide +kernel
theorem dX4_run_53 : decode cX4_run 53 = .ok (.aload_n 0, 1) := by decide +kernel
theorem dX4_run_54 : decode cX4_run 54 = .ok (.getfield 39, 3) := by decide +kernel
theorem dX4_run_57 : decode cX4_run 57 = .ok (.iload_n 3, 1) := by decide +kernel
theorem dX4_run_58 : decode cX4_run 58 = .ok (.iload 4, 2) := by decide +kernel
theorem dX4_run_60 : decode cX4_run 60 = .ok (.iastore, 1) := by decide +kernel
theorem dX4_run_61 : decode cX4_run 61 = .ok (.aload_n 0, 1) := by decide +kernel
theorem dX4_run_62 : decode cX4_run 62 = .ok (.iload_n 3, 1) := by decide +kernel
theorem dX4_run_63 : decode cX4_run 63 = .ok (.iconst 1, 1) := by decide +kernel
theorem dX4_run_64 : decode cX4_run 64 = .ok (.iadd, 1) := by decide +kernel
theorem dX4_run_65 : decode cX4_run 65 = .ok (.putfield 58, 3) := by decide +kernel
theorem dX4_run_68 : decode cX4_run 68 = .ok (.iload_n 2, 1) := by decide +kernel
theorem dX4_run_69 : decode cX4_run 69 = .ok (.aload_n 0, 1) := by decide +kernel
theorem dX4_run_70 : decode cX4_run 70 = .ok (.aload_n 0, 1) := by decide +kernel
theorem dX4_run_71 : decode cX4_run 71 = .ok (.iload 4, 2) := by decide +kernel
theorem dX4_run_73 : decode cX4_run 73 = .ok (.invokevirtual 71, 3) := by decide +kernel
theorem dX4_run_76 : decode cX4_run 76 = .ok (.invokevirtual 207, 3) := by decide +kernel
theorem dX4_run_79 : decode cX4_run 79 = .ok (.iadd, 1) := by decide +kernel
theorem dX4_run_80 : decode cX4_run 80 = .ok (.istore_n 2, 1) := by decide +kernel
theorem dX4_run_81 : decode cX4_run 81 = .ok (.iinc 3 1, 3) := by decide +kernel
theorem dX4_run_84 : decode cX4_run 84 = .ok (.goto (-51), 3) := by decide +kernel
theorem dX4_run_87 : decode cX4_run 87 = .ok (.iload_n 2, 1) := by decide +kernel
theorem dX4_run_88 : decode cX4_run 88 = .ok (.ireturn, 1) := by decide +kernel
theorem dX4_step_0 : decode cX4_step 0 = .ok (.iload_n 1, 1) := by decide +kernel
theorem dX4_step_1 : decode cX4_step 1 = .ok (.ifCond .lt 20, 3) := by decide +kernel
theorem dX4_step_4 : decode cX4_step 4 = .ok (.iload_n 1, 1) := by decide +kernel
theorem dX4_step_5 : decode cX4_step 5 = .ok (.aload_n 0, 1) := by decide +kernel
theorem dX4_step_6 : decode cX4_step 6 = .ok (.getfield 58, 3) := by decide +kernel
theorem dX4_step_9 : decode cX4_step 9 = .ok (.if_icmp .ge 12, 3) := by decide +kernel
theorem dX4_step_12 : decode cX4_step 12 = .ok (.iload_n 1, 1) := by decide +kernel
theorem dX4_step_13 : decode cX4_step 13 = .ok (.aload_n 0, 1) := by decide +kernel
theorem dX4_step_14 : decode cX4_step 14 = .ok (.getfield 39, 3) := by decide +kernel
theorem dX4_step_17 : decode cX4_step 17 = .ok (.arraylength, 1) := by decide +kernel
theorem dX4_step_18 : decode cX4_step 18 = .ok (.if_icmp .lt 6, 3) := by decide +kernel
theorem dX4_step_21 : decode cX4_step 21 = .ok (.bipush (-9), 2) := by decide +kernel
theorem dX4_step_23 : decode cX4_step 23 = .ok (.ireturn, 1) := by decide +kernel
theorem dX4_step_24 : decode cX4_step 24 = .ok (.aload_n 0, 1) := by decide +kernel
theorem dX4_step_25 : decode cX4_step 25 = .ok (.getfield 39, 3) := by decide +kernel
theorem dX4_step_28 : decode cX4_step 28 = .ok (.iload_n 1, 1) := by decide +kernel
theorem dX4_step_29 : decode cX4_step 29 = .ok (.iaload, 1) := by decide +kernel
theorem dX4_step_30 : decode cX4_step 30 = .ok (.ireturn, 1) := by decide +kernel
theorem dX4_worked_0 : decode cX4_worked 0 = .ok (.aload_n 0, 1) := by decide +kernel
theorem dX4_worked_1 : decode cX4_worked 1 = .ok (.iload_n 1, 1) := by decide +kernel
theorem dX4_worked_2 : decode cX4_worked 2 = .ok (.invokevirtual 71, 3) := by decide +kernel
theorem dX4_worked_5 : decode cX4_worked 5 = .ok (.astore_n 2, 1) := by decide +kernel
theorem dX4_worked_6 : decode cX4_worked 6 = .ok (.aload_n 2, 1) := by decide +kernel
theorem dX4_worked_7 : decode cX4_worked 7 = .ok (.ifnonnull 7, 3) := by decide +kernel
theorem dX4_worked_10 : decode cX4_worked 10 = .ok (.iconst (-1), 1) := by decide +kernel
theorem dX4_worked_11 : decode cX4_worked 11 = .ok (.goto 7, 3) := by decide +kernel
theorem dX4_worked_14 : decode cX4_worked 14 = .ok (.aload_n 2, 1) := by decide +kernel
theorem dX4_worked_15 : decode cX4_worked 15 = .ok (.getfield 212, 3) := by decide +kernel
theorem dX4_worked_18 : decode cX4_worked 18 = .ok (.ireturn, 1) := by decide +kernel
theorem dX4_paid_0 : decode cX4_paid 0 = .ok (.aload_n 0, 1) := by decide +kernel
theorem dX4_paid_1 : decode cX4_paid 1 = .ok (.getfield 68, 3) := by decide +kernel
theorem dX4_paid_4 : decode cX4_paid 4 = .ok (.lreturn, 1) := by decide +kernel
theorem dX4_fail_0 : decode cX4_fail 0 = .ok (.aload_n 0, 1) := by decide +kernel
theorem dX4_fail_1 : decode cX4_fail 1 = .ok (.iload_n 1, 1) := by decide +kernel
theorem dX4_fail_2 : decode cX4_fail 2 = .ok (.invokevirtual 71, 3) := by decide +kernel
theorem dX4_fail_5 : decode cX4_fail 5 = .ok (.ifnonnull 5, 3) := by decide +kernel
theorem dX4_fail_8 : decode cX4_fail 8 = .ok (.iconst (-1), 1) := by decide +kernel
theorem dX4_fail_9 : decode cX4_fail 9 = .ok (.ireturn, 1) := by decide +kernel
theorem dX4_fail_10 : decode cX4_fail 10 = .ok (.iload_n 2, 1) := by decide +kernel
theorem dX4_fail_11 : decode cX4_fail 11 = .ok (.tableswitch 40 0 2 #[25, 32, 34], 25) := by decide +kernel
theorem dX4_fail_36 : decode cX4_fail 36 = .ok (.aload_n 0, 1) := by decide +kernel
theorem dX4_fail_37 : decode cX4_fail 37 = .ok (.bipush 6, 2) := by decide +kernel
theorem dX4_fail_39 : decode cX4_fail 39 = .ok (.invokevirtual 79, 3) := by decide +kernel
theorem dX4_fail_42 : decode cX4_fail 42 = .ok (.ireturn, 1) := by decide +kernel
theorem dX4_fail_43 : decode cX4_fail 43 = .ok (.iconst 2, 1) := by decide +kernel
theorem dX4_fail_44 : decode cX4_fail 44 = .ok (.ireturn, 1) := by decide +kernel
theorem dX4_fail_45 : decode cX4_fail 45 = .ok (.aload_n 0, 1) := by decide +kernel
theorem dX4_fail_46 : decode cX4_fail 46 = .ok (.iconst 2, 1) := by decide +kernel
theorem dX4_fail_47 : decode cX4_fail 47 = .ok (.invokevirtual 79, 3) := by decide +kernel
theorem dX4_fail_50 : decode cX4_fail 50 = .ok (.ireturn, 1) := by decide +kernel
theorem dX4_fail_51 : decode cX4_fail 51 = .ok (.iconst (-1), 1) := by decide +kernel
theorem dX4_fail_52 : decode cX4_fail 52 = .ok (.ireturn, 1) := by decide +kernel
theorem dX4_asked_0 : decode cX4_asked 0 = .ok (.aload_n 0, 1) := by decide +kernel
theorem dX4_asked_1 : decode cX4_asked 1 = .ok (.getfield 64, 3) := by decide +kernel
theorem dX4_asked_4 : decode cX4_asked 4 = .ok (.lreturn, 1) := by decide +kernel
theorem dX4_count_0 : decode cX4_count 0 = .ok (.iload_n 1, 1) := by decide +kernel
theorem dX4_count_1 : decode cX4_count 1 = .ok (.tableswitch 60 0 4 #[35, 40, 45, 50, 55], 35) := by decide +kernel
theorem dX4_count_36 : decode cX4_count 36 = .ok (.aload_n 0, 1) := by decide +kernel
theorem dX4_count_37 : decode cX4_count 37 = .ok (.getfield 42, 3) := by decide +kernel
theorem dX4_count_40 : decode cX4_count 40 = .ok (.ireturn, 1) := by decide +kernel
theorem dX4_count_41 : decode cX4_count 41 = .ok (.aload_n 0, 1) := by decide +kernel
theorem dX4_count_42 : decode cX4_count 42 = .ok (.getfield 46, 3) := by decide +kernel
theorem dX4_count_45 : decode cX4_count 45 = .ok (.ireturn, 1) := by decide +kernel
theorem dX4_count_46 : decode cX4_count 46 = .ok (.aload_n 0, 1) := by decide +kernel
theorem dX4_count_47 : decode cX4_count 47 = .ok (.getfield 49, 3) := by decide +kernel
theorem dX4_count_50 : decode cX4_count 50 = .ok (.ireturn, 1) := by decide +kernel
theorem dX4_count_51 : decode cX4_count 51 = .ok (.aload_n 0, 1) := by decide +kernel
theorem dX4_count_52 : decode cX4_count 52 = .ok (.getfield 52, 3) := by decide +kernel
theorem dX4_count_55 : decode cX4_count 55 = .ok (.ireturn, 1) := by decide +kernel
theorem dX4_count_56 : decode cX4_count 56 = .ok (.aload_n 0, 1) := by decide +kernel
theorem dX4_count_57 : decode cX4_count 57 = .ok (.getfield 55, 3) := by decide +kernel
theorem dX4_count_60 : decode cX4_count 60 = .ok (.ireturn, 1) := by decide +kernel
theorem dX4_count_61 : decode cX4_count 61 = .ok (.iconst (-1), 1) := by decide +kernel
theorem dX4_count_62 : decode cX4_count 62 = .ok (.ireturn, 1) := by decide +kernel
theorem dX4_finding_0 : decode cX4_finding 0 = .ok (.aload_n 0, 1) := by decide +kernel
theorem dX4_finding_1 : decode cX4_finding 1 = .ok (.getfield 61, 3) := by decide +kernel
theorem dX4_finding_4 : decode cX4_finding 4 = .ok (.ireturn, 1) := by decide +kernel
theorem dX4_findings_0 : decode cX4_findings 0 = .ok (.iload_n 1, 1) := by decide +kernel
theorem dX4_findings_1 : decode cX4_findings 1 = .ok (.iconst 1, 1) := by decide +kernel
theorem dX4_findings_2 : decode cX4_findings 2 = .ok (.if_icmp .lt 18, 3) := by decide +kernel
theorem dX4_findings_5 : decode cX4_findings 5 = .ok (.iload_n 1, 1) := by decide +kernel
theorem dX4_findings_6 : decode cX4_findings 6 = .ok (.bipush 6, 2) := by decide +kernel
theorem dX4_findings_8 : decode cX4_findings 8 = .ok (.if_icmp .gt 12, 3) := by decide +kernel
theorem dX4_findings_11 : decode cX4_findings 11 = .ok (.iload_n 1, 1) := by decide +kernel
theorem dX4_findings_12 : decode cX4_findings 12 = .ok (.aload_n 0, 1) := by decide +kernel
theorem dX4_findings_13 : decode cX4_findings 13 = .ok (.getfield 35, 3) := by decide +kernel
theorem dX4_findings_16 : decode cX4_findings 16 = .ok (.arraylength, 1) := by decide +kernel
theorem dX4_findings_17 : decode cX4_findings 17 = .ok (.if_icmp .lt 5, 3) := by decide +kernel
theorem dX4_findings_20 : decode cX4_findings 20 = .ok (.iconst (-1), 1) := by decide +kernel
theorem dX4_findings_21 : decode cX4_findings 21 = .ok (.ireturn, 1) := by decide +kernel
theorem dX4_findings_22 : decode cX4_findings 22 = .ok (.aload_n 0, 1) := by decide +kernel
theorem dX4_findings_23 : decode cX4_findings 23 = .ok (.getfield 35, 3) := by decide +kernel
theorem dX4_findings_26 : decode cX4_findings 26 = .ok (.iload_n 1, 1) := by decide +kernel
theorem dX4_findings_27 : decode cX4_findings 27 = .ok (.iaload, 1) := by decide +kernel
theorem dX4_findings_28 : decode cX4_findings 28 = .ok (.ireturn, 1) := by decide +kernel
theorem dX4_digest_0 : decode cX4_digest 0 = .ok (.ldc2_w 215, 3) := by decide +kernel
theorem dX4_digest_3 : decode cX4_digest 3 = .ok (.aload_n 0, 1) := by decide +kernel
theorem dX4_digest_4 : decode cX4_digest 4 = .ok (.getfield 49, 3) := by decide +kernel
theorem dX4_digest_7 : decode cX4_digest 7 = .ok (.i2l, 1) := by decide +kernel
theorem dX4_digest_8 : decode cX4_digest 8 = .ok (.invokestatic 217, 3) := by decide +kernel
theorem dX4_digest_11 : decode cX4_digest 11 = .ok (.aload_n 0, 1) := by decide +kernel
theorem dX4_digest_12 : decode cX4_digest 12 = .ok (.getfield 52, 3) := by decide +kernel
theorem dX4_digest_15 : decode cX4_digest 15 = .ok (.i2l, 1) := by decide +kernel
theorem dX4_digest_16 : decode cX4_digest 16 = .ok (.invokestatic 217, 3) := by decide +kernel
theorem dX4_digest_19 : decode cX4_digest 19 = .ok (.aload_n 0, 1) := by decide +kernel
theorem dX4_digest_20 : decode cX4_digest 20 = .ok (.getfield 55, 3) := by decide +kernel
theorem dX4_digest_23 : decode cX4_digest 23 = .ok (.i2l, 1) := by decide +kernel
theorem dX4_digest_24 : decode cX4_digest 24 = .ok (.invokestatic 217, 3) := by decide +kernel
theorem dX4_digest_27 : decode cX4_digest 27 = .ok (.lstore_n 1, 1) := by decide +kernel
theorem dX4_digest_28 : decode cX4_digest 28 = .ok (.iconst 0, 1) := by decide +kernel
theorem dX4_digest_29 : decode cX4_digest 29 = .ok (.istore_n 3, 1) := by decide +kernel
theorem dX4_digest_30 : decode cX4_digest 30 = .ok (.iload_n 3, 1) := by decide +kernel
theorem dX4_digest_31 : decode cX4_digest 31 = .ok (.aload_n 0, 1) := by decide +kernel
theorem dX4_digest_32 : decode cX4_digest 32 = .ok (.getfield 42, 3) := by decide +kernel
theorem dX4_digest_35 : decode cX4_digest 35 = .ok (.if_icmp .ge 19, 3) := by decide +kernel
theorem dX4_digest_38 : decode cX4_digest 38 = .ok (.lload_n 1, 1) := by decide +kernel
theorem dX4_digest_39 : decode cX4_digest 39 = .ok (.aload_n 0, 1) := by decide +kernel
theorem dX4_digest_40 : decode cX4_digest 40 = .ok (.iload_n 3, 1) := by decide +kernel
theorem dX4_digest_41 : decode cX4_digest 41 = .ok (.invokevirtual 71, 3) := by decide +kernel
theorem dX4_digest_44 : decode cX4_digest 44 = .ok (.invokestatic 221, 3) := by decide +kernel
theorem dX4_digest_47 : decode cX4_digest 47 = .ok (.lstore_n 1, 1) := by decide +kernel
theorem dX4_digest_48 : decode cX4_digest 48 = .ok (.iinc 3 1, 3) := by decide +kernel
theorem dX4_digest_51 : decode cX4_digest 51 = .ok (.goto (-21), 3) := by decide +kernel
theorem dX4_digest_54 : decode cX4_digest 54 = .ok (.iconst 0, 1) := by decide +kernel
theorem dX4_digest_55 : decode cX4_digest 55 = .ok (.istore_n 3, 1) := by decide +kernel
theorem dX4_digest_56 : decode cX4_digest 56 = .ok (.iload_n 3, 1) := by decide +kernel
theorem dX4_digest_57 : decode cX4_digest 57 = .ok (.aload_n 0, 1) := by decide +kernel
theorem dX4_digest_58 : decode cX4_digest 58 = .ok (.getfield 46, 3) := by decide +kernel
theorem dX4_digest_61 : decode cX4_digest 61 = .ok (.if_icmp .ge 19, 3) := by decide +kernel
theorem dX4_digest_64 : decode cX4_digest 64 = .ok (.lload_n 1, 1) := by decide +kernel
theorem dX4_digest_65 : decode cX4_digest 65 = .ok (.aload_n 0, 1) := by decide +kernel
theorem dX4_digest_66 : decode cX4_digest 66 = .ok (.iload_n 3, 1) := by decide +kernel
theorem dX4_digest_67 : decode cX4_digest 67 = .ok (.invokevirtual 86, 3) := by decide +kernel
theorem dX4_digest_70 : decode cX4_digest 70 = .ok (.invokestatic 225, 3) := by decide +kernel
theorem dX4_digest_73 : decode cX4_digest 73 = .ok (.lstore_n 1, 1) := by decide +kernel
theorem dX4_digest_74 : decode cX4_digest 74 = .ok (.iinc 3 1, 3) := by decide +kernel
theorem dX4_digest_77 : decode cX4_digest 77 = .ok (.goto (-21), 3) := by decide +kernel
theorem dX4_digest_80 : decode cX4_digest 80 = .ok (.lload_n 1, 1) := by decide +kernel
theorem dX4_digest_81 : decode cX4_digest 81 = .ok (.lreturn, 1) := by decide +kernel
theorem dX4_machineAt_0 : decode cX4_machineAt 0 = .ok (.iload_n 1, 1) := by decide +kernel
theorem dX4_machineAt_1 : decode cX4_machineAt 1 = .ok (.ifCond .lt 20, 3) := by decide +kernel
theorem dX4_machineAt_4 : decode cX4_machineAt 4 = .ok (.iload_n 1, 1) := by decide +kernel
theorem dX4_machineAt_5 : decode cX4_machineAt 5 = .ok (.aload_n 0, 1) := by decide +kernel
theorem dX4_machineAt_6 : decode cX4_machineAt 6 = .ok (.getfield 42, 3) := by decide +kernel
theorem dX4_machineAt_9 : decode cX4_machineAt 9 = .ok (.if_icmp .ge 12, 3) := by decide +kernel
theorem dX4_machineAt_12 : decode cX4_machineAt 12 = .ok (.iload_n 1, 1) := by decide +kernel
theorem dX4_machineAt_13 : decode cX4_machineAt 13 = .ok (.aload_n 0, 1) := by decide +kernel
theorem dX4_machineAt_14 : decode cX4_machineAt 14 = .ok (.getfield 11, 3) := by decide +kernel
theorem dX4_machineAt_17 : decode cX4_machineAt 17 = .ok (.arraylength, 1) := by decide +kernel
theorem dX4_machineAt_18 : decode cX4_machineAt 18 = .ok (.if_icmp .lt 5, 3) := by decide +kernel
theorem dX4_machineAt_21 : decode cX4_machineAt 21 = .ok (.aconst_null, 1) := by decide +kernel
theorem dX4_machineAt_22 : decode cX4_machineAt 22 = .ok (.areturn, 1) := by decide +kernel
theorem dX4_machineAt_23 : decode cX4_machineAt 23 = .ok (.aload_n 0, 1) := by decide +kernel
theorem dX4_machineAt_24 : decode cX4_machineAt 24 = .ok (.getfield 11, 3) := by decide +kernel
theorem dX4_machineAt_27 : decode cX4_machineAt 27 = .ok (.iload_n 1, 1) := by decide +kernel
theorem dX4_machineAt_28 : decode cX4_machineAt 28 = .ok (.aaload, 1) := by decide +kernel
theorem dX4_machineAt_29 : decode cX4_machineAt 29 = .ok (.areturn, 1) := by decide +kernel
theorem dX4_sheetAt_0 : decode cX4_sheetAt 0 = .ok (.iload_n 1, 1) := by decide +kernel
theorem dX4_sheetAt_1 : decode cX4_sheetAt 1 = .ok (.ifCond .lt 20, 3) := by decide +kernel
theorem dX4_sheetAt_4 : decode cX4_sheetAt 4 = .ok (.iload_n 1, 1) := by decide +kernel
theorem dX4_sheetAt_5 : decode cX4_sheetAt 5 = .ok (.aload_n 0, 1) := by decide +kernel
theorem dX4_sheetAt_6 : decode cX4_sheetAt 6 = .ok (.getfield 46, 3) := by decide +kernel
theorem dX4_sheetAt_9 : decode cX4_sheetAt 9 = .ok (.if_icmp .ge 12, 3) := by decide +kernel
theorem dX4_sheetAt_12 : decode cX4_sheetAt 12 = .ok (.iload_n 1, 1) := by decide +kernel
theorem dX4_sheetAt_13 : decode cX4_sheetAt 13 = .ok (.aload_n 0, 1) := by decide +kernel
theorem dX4_sheetAt_14 : decode cX4_sheetAt 14 = .ok (.getfield 17, 3) := by decide +kernel
theorem dX4_sheetAt_17 : decode cX4_sheetAt 17 = .ok (.arraylength, 1) := by decide +kernel
theorem dX4_sheetAt_18 : decode cX4_sheetAt 18 = .ok (.if_icmp .lt 5, 3) := by decide +kernel
theorem dX4_sheetAt_21 : decode cX4_sheetAt 21 = .ok (.aconst_null, 1) := by decide +kernel
theorem dX4_sheetAt_22 : decode cX4_sheetAt 22 = .ok (.areturn, 1) := by decide +kernel
theorem dX4_sheetAt_23 : decode cX4_sheetAt 23 = .ok (.aload_n 0, 1) := by decide +kernel
theorem dX4_sheetAt_24 : decode cX4_sheetAt 24 = .ok (.getfield 17, 3) := by decide +kernel
theorem dX4_sheetAt_27 : decode cX4_sheetAt 27 = .ok (.iload_n 1, 1) := by decide +kernel
theorem dX4_sheetAt_28 : decode cX4_sheetAt 28 = .ok (.aaload, 1) := by decide +kernel
theorem dX4_sheetAt_29 : decode cX4_sheetAt 29 = .ok (.areturn, 1) := by decide +kernel
theorem dX4_found_0 : decode cX4_found 0 = .ok (.iload_n 1, 1) := by decide +kernel
theorem dX4_found_1 : decode cX4_found 1 = .ok (.ifCond .lt 27, 3) := by decide +kernel
theorem dX4_found_4 : decode cX4_found 4 = .ok (.iload_n 1, 1) := by decide +kernel
theorem dX4_found_5 : decode cX4_found 5 = .ok (.aload_n 0, 1) := by decide +kernel
theorem dX4_found_6 : decode cX4_found 6 = .ok (.getfield 35, 3) := by decide +kernel
theorem dX4_found_9 : decode cX4_found 9 = .ok (.arraylength, 1) := by decide +kernel
theorem dX4_found_10 : decode cX4_found 10 = .ok (.if_icmp .ge 18, 3) := by decide +kernel
theorem dX4_found_13 : decode cX4_found 13 = .ok (.aload_n 0, 1) := by decide +kernel
theorem dX4_found_14 : decode cX4_found 14 = .ok (.iload_n 1, 1) := by decide +kernel
theorem dX4_found_15 : decode cX4_found 15 = .ok (.putfield 61, 3) := by decide +kernel
theorem dX4_found_18 : decode cX4_found 18 = .ok (.aload_n 0, 1) := by decide +kernel
theorem dX4_found_19 : decode cX4_found 19 = .ok (.getfield 35, 3) := by decide +kernel
theorem dX4_found_22 : decode cX4_found 22 = .ok (.iload_n 1, 1) := by decide +kernel
theorem dX4_found_23 : decode cX4_found 23 = .ok (.dup2, 1) := by decide +kernel
theorem dX4_found_24 : decode cX4_found 24 = .ok (.iaload, 1) := by decide +kernel
theorem dX4_found_25 : decode cX4_found 25 = .ok (.iconst 1, 1) := by decide +kernel
theorem dX4_found_26 : decode cX4_found 26 = .ok (.iadd, 1) := by decide +kernel
theorem dX4_found_27 : decode cX4_found 27 = .ok (.iastore, 1) := by decide +kernel
theorem dX4_found_28 : decode cX4_found 28 = .ok (.bipush (-3), 2) := by decide +kernel
theorem dX4_found_30 : decode cX4_found 30 = .ok (.ireturn, 1) := by decide +kernel
theorem dX4_isPay_0 : decode cX4_isPay 0 = .ok (.lload_n 0, 1) := by decide +kernel
theorem dX4_isPay_1 : decode cX4_isPay 1 = .ok (.ldc2_w 229, 3) := by decide +kernel
theorem dX4_isPay_4 : decode cX4_isPay 4 = .ok (.lcmp, 1) := by decide +kernel
theorem dX4_isPay_5 : decode cX4_isPay 5 = .ok (.ifCond .lt 15, 3) := by decide +kernel
theorem dX4_isPay_8 : decode cX4_isPay 8 = .ok (.lload_n 0, 1) := by decide +kernel
theorem dX4_isPay_9 : decode cX4_isPay 9 = .ok (.ldc2_w 231, 3) := by decide +kernel
theorem dX4_isPay_12 : decode cX4_isPay 12 = .ok (.lcmp, 1) := by decide +kernel
theorem dX4_isPay_13 : decode cX4_isPay 13 = .ok (.ifCond .gt 7, 3) := by decide +kernel
theorem dX4_isPay_16 : decode cX4_isPay 16 = .ok (.iconst 1, 1) := by decide +kernel
theorem dX4_isPay_17 : decode cX4_isPay 17 = .ok (.goto 4, 3) := by decide +kernel
theorem dX4_isPay_20 : decode cX4_isPay 20 = .ok (.iconst 0, 1) := by decide +kernel
theorem dX4_isPay_21 : decode cX4_isPay 21 = .ok (.ireturn, 1) := by decide +kernel
theorem dX4_fits_0 : decode cX4_fits 0 = .ok (.iload_n 0, 1) := by decide +kernel
theorem dX4_fits_1 : decode cX4_fits 1 = .ok (.iconst 1, 1) := by decide +kernel
theorem dX4_fits_2 : decode cX4_fits 2 = .ok (.if_icmp .ne 14, 3) := by decide +kernel
theorem dX4_fits_5 : decode cX4_fits 5 = .ok (.iload_n 1, 1) := by decide +kernel
theorem dX4_fits_6 : decode cX4_fits 6 = .ok (.iconst 1, 1) := by decide +kernel
theorem dX4_fits_7 : decode cX4_fits 7 = .ok (.if_icmp .ne 7, 3) := by decide +kernel
theorem dX4_fits_10 : decode cX4_fits 10 = .ok (.iconst 1, 1) := by decide +kernel
theorem dX4_fits_11 : decode cX4_fits 11 = .ok (.goto 4, 3) := by decide +kernel
theorem dX4_fits_14 : decode cX4_fits 14 = .ok (.iconst 0, 1) := by decide +kernel
theorem dX4_fits_15 : decode cX4_fits 15 = .ok (.ireturn, 1) := by decide +kernel
theorem dX4_fits_16 : decode cX4_fits 16 = .ok (.iload_n 1, 1) := by decide +kernel
theorem dX4_fits_17 : decode cX4_fits 17 = .ok (.iload_n 0, 1) := by decide +kernel
theorem dX4_fits_18 : decode cX4_fits 18 = .ok (.iconst 3, 1) := by decide +kernel
theorem dX4_fits_19 : decode cX4_fits 19 = .ok (.if_icmp .ne 7, 3) := by decide +kernel
theorem dX4_fits_22 : decode cX4_fits 22 = .ok (.iconst 2, 1) := by decide +kernel
theorem dX4_fits_23 : decode cX4_fits 23 = .ok (.goto 4, 3) := by decide +kernel
theorem dX4_fits_26 : decode cX4_fits 26 = .ok (.iconst 1, 1) := by decide +kernel
theorem dX4_fits_27 : decode cX4_fits 27 = .ok (.if_icmp .lt 12, 3) := by decide +kernel
theorem dX4_fits_30 : decode cX4_fits 30 = .ok (.iload_n 1, 1) := by decide +kernel
theorem dX4_fits_31 : decode cX4_fits 31 = .ok (.iconst 5, 1) := by decide +kernel
theorem dX4_fits_32 : decode cX4_fits 32 = .ok (.if_icmp .gt 7, 3) := by decide +kernel
theorem dX4_fits_35 : decode cX4_fits 35 = .ok (.iconst 1, 1) := by decide +kernel
theorem dX4_fits_36 : decode cX4_fits 36 = .ok (.goto 4, 3) := by decide +kernel
theorem dX4_fits_39 : decode cX4_fits 39 = .ok (.iconst 0, 1) := by decide +kernel
theorem dX4_fits_40 : decode cX4_fits 40 = .ok (.ireturn, 1) := by decide +kernel
theorem dX4_asAnswer_0 : decode cX4_asAnswer 0 = .ok (.iload_n 0, 1) := by decide +kernel
theorem dX4_asAnswer_1 : decode cX4_asAnswer 1 = .ok (.ifCond .ne 5, 3) := by decide +kernel
theorem dX4_asAnswer_4 : decode cX4_asAnswer 4 = .ok (.iconst 0, 1) := by decide +kernel
theorem dX4_asAnswer_5 : decode cX4_asAnswer 5 = .ok (.ireturn, 1) := by decide +kernel
theorem dX4_asAnswer_6 : decode cX4_asAnswer 6 = .ok (.iload_n 0, 1) := by decide +kernel
theorem dX4_asAnswer_7 : decode cX4_asAnswer 7 = .ok (.ifCond .le 7, 3) := by decide +kernel
theorem dX4_asAnswer_10 : decode cX4_asAnswer 10 = .ok (.iconst 1, 1) := by decide +kernel
theorem dX4_asAnswer_11 : decode cX4_asAnswer 11 = .ok (.goto 4, 3) := by decide +kernel
theorem dX4_asAnswer_14 : decode cX4_asAnswer 14 = .ok (.iconst 2, 1) := by decide +kernel
theorem dX4_asAnswer_15 : decode cX4_asAnswer 15 = .ok (.ireturn, 1) := by decide +kernel
theorem dX4_worthOf_0 : decode cX4_worthOf 0 = .ok (.aload_n 1, 1) := by decide +kernel
theorem dX4_worthOf_1 : decode cX4_worthOf 1 = .ok (.getfield 75, 3) := by decide +kernel
theorem dX4_worthOf_4 : decode cX4_worthOf 4 = .ok (.ifCond .ne 19, 3) := by decide +kernel
theorem dX4_worthOf_7 : decode cX4_worthOf 7 = .ok (.aload_n 0, 1) := by decide +kernel
theorem dX4_worthOf_8 : decode cX4_worthOf 8 = .ok (.getfield 24, 3) := by decide +kernel
theorem dX4_worthOf_11 : decode cX4_worthOf 11 = .ok (.aload_n 1, 1) := by decide +kernel
theorem dX4_worthOf_12 : decode cX4_worthOf 12 = .ok (.aload_n 0, 1) := by decide +kernel
theorem dX4_worthOf_13 : decode cX4_worthOf 13 = .ok (.getfield 49, 3) := by decide +kernel
theorem dX4_worthOf_16 : decode cX4_worthOf 16 = .ok (.aload_n 0, 1) := by decide +kernel
theorem dX4_worthOf_17 : decode cX4_worthOf 17 = .ok (.getfield 52, 3) := by decide +kernel
theorem dX4_worthOf_20 : decode cX4_worthOf 20 = .ok (.invokevirtual 233, 3) := by decide +kernel
theorem dX4_worthOf_23 : decode cX4_worthOf 23 = .ok (.aload_n 1, 1) := by decide +kernel
theorem dX4_worthOf_24 : decode cX4_worthOf 24 = .ok (.iload_n 2, 1) := by decide +kernel
theorem dX4_worthOf_25 : decode cX4_worthOf 25 = .ok (.invokevirtual 237, 3) := by decide +kernel
theorem dX4_worthOf_28 : decode cX4_worthOf 28 = .ok (.areturn, 1) := by decide +kernel
theorem dX4_rankOf_0 : decode cX4_rankOf 0 = .ok (.iconst 0, 1) := by decide +kernel
theorem dX4_rankOf_1 : decode cX4_rankOf 1 = .ok (.istore_n 3, 1) := by decide +kernel
theorem dX4_rankOf_2 : decode cX4_rankOf 2 = .ok (.iconst 0, 1) := by decide +kernel
theorem dX4_rankOf_3 : decode cX4_rankOf 3 = .ok (.istore 4, 2) := by decide +kernel
theorem dX4_rankOf_5 : decode cX4_rankOf 5 = .ok (.iload 4, 2) := by decide +kernel
theorem dX4_rankOf_7 : decode cX4_rankOf 7 = .ok (.aload_n 1, 1) := by decide +kernel
theorem dX4_rankOf_8 : decode cX4_rankOf 8 = .ok (.getfield 127, 3) := by decide +kernel
theorem dX4_rankOf_11 : decode cX4_rankOf 11 = .ok (.if_icmp .ge 46, 3) := by decide +kernel
theorem dX4_rankOf_14 : decode cX4_rankOf 14 = .ok (.aload_n 0, 1) := by decide +kernel
theorem dX4_rankOf_15 : decode cX4_rankOf 15 = .ok (.aload_n 1, 1) := by decide +kernel
theorem dX4_rankOf_16 : decode cX4_rankOf 16 = .ok (.iload 4, 2) := by decide +kernel
theorem dX4_rankOf_18 : decode cX4_rankOf 18 = .ok (.invokevirtual 160, 3) := by decide +kernel
theorem dX4_rankOf_21 : decode cX4_rankOf 21 = .ok (.aload_n 0, 1) := by decide +kernel
theorem dX4_rankOf_22 : decode cX4_rankOf 22 = .ok (.aload_n 1, 1) := by decide +kernel
theorem dX4_rankOf_23 : decode cX4_rankOf 23 = .ok (.iload_n 2, 1) := by decide +kernel
theorem dX4_rankOf_24 : decode cX4_rankOf 24 = .ok (.invokevirtual 160, 3) := by decide +kernel
theorem dX4_rankOf_27 : decode cX4_rankOf 27 = .ok (.invokevirtual 182, 3) := by decide +kernel
theorem dX4_rankOf_30 : decode cX4_rankOf 30 = .ok (.istore 5, 2) := by decide +kernel
theorem dX4_rankOf_32 : decode cX4_rankOf 32 = .ok (.iload 5, 2) := by decide +kernel
theorem dX4_rankOf_34 : decode cX4_rankOf 34 = .ok (.ifCond .gt 14, 3) := by decide +kernel
theorem dX4_rankOf_37 : decode cX4_rankOf 37 = .ok (.iload 5, 2) := by decide +kernel
theorem dX4_rankOf_39 : decode cX4_rankOf 39 = .ok (.ifCond .ne 12, 3) := by decide +kernel
theorem dX4_rankOf_42 : decode cX4_rankOf 42 = .ok (.iload 4, 2) := by decide +kernel
theorem dX4_rankOf_44 : decode cX4_rankOf 44 = .ok (.iload_n 2, 1) := by decide +kernel
theorem dX4_rankOf_45 : decode cX4_rankOf 45 = .ok (.if_icmp .ge 6, 3) := by decide +kernel
theorem dX4_rankOf_48 : decode cX4_rankOf 48 = .ok (.iinc 3 1, 3) := by decide +kernel
theorem dX4_rankOf_51 : decode cX4_rankOf 51 = .ok (.iinc 4 1, 3) := by decide +kernel
theorem dX4_rankOf_54 : decode cX4_rankOf 54 = .ok (.goto (-49), 3) := by decide +kernel
theorem dX4_rankOf_57 : decode cX4_rankOf 57 = .ok (.iload_n 3, 1) := by decide +kernel
theorem dX4_rankOf_58 : decode cX4_rankOf 58 = .ok (.ireturn, 1) := by decide +kernel
theorem dX4_bestMachine_0 : decode cX4_bestMachine 0 = .ok (.bipush (-9), 2) := by decide +kernel
theorem dX4_bestMachine_2 : decode cX4_bestMachine 2 = .ok (.istore_n 1, 1) := by decide +kernel
theorem dX4_bestMachine_3 : decode cX4_bestMachine 3 = .ok (.aconst_null, 1) := by decide +kernel
theorem dX4_bestMachine_4 : decode cX4_bestMachine 4 = .ok (.astore_n 2, 1) := by decide +kernel
theorem dX4_bestMachine_5 : decode cX4_bestMachine 5 = .ok (.iconst 0, 1) := by decide +kernel
theorem dX4_bestMachine_6 : decode cX4_bestMachine 6 = .ok (.istore_n 3, 1) := by decide +kernel
theorem dX4_bestMachine_7 : decode cX4_bestMachine 7 = .ok (.iload_n 3, 1) := by decide +kernel
theorem dX4_bestMachine_8 : decode cX4_bestMachine 8 = .ok (.aload_n 0, 1) := by decide +kernel
theorem dX4_bestMachine_9 : decode cX4_bestMachine 9 = .ok (.getfield 42, 3) := by decide +kernel
theorem dX4_bestMachine_12 : decode cX4_bestMachine 12 = .ok (.if_icmp .ge 52, 3) := by decide +kernel
theorem dX4_bestMachine_15 : decode cX4_bestMachine 15 = .ok (.aload_n 0, 1) := by decide +kernel
theorem dX4_bestMachine_16 : decode cX4_bestMachine 16 = .ok (.iload_n 3, 1) := by decide +kernel
theorem dX4_bestMachine_17 : decode cX4_bestMachine 17 = .ok (.invokevirtual 71, 3) := by decide +kernel
theorem dX4_bestMachine_20 : decode cX4_bestMachine 20 = .ok (.astore 4, 2) := by decide +kernel
theorem dX4_bestMachine_22 : decode cX4_bestMachine 22 = .ok (.aload 4, 2) := by decide +kernel
theorem dX4_bestMachine_24 : decode cX4_bestMachine 24 = .ok (.ifnull 34, 3) := by decide +kernel
theorem dX4_bestMachine_27 : decode cX4_bestMachine 27 = .ok (.aload_n 0, 1) := by decide +kernel
theorem dX4_bestMachine_28 : decode cX4_bestMachine 28 = .ok (.aload 4, 2) := by decide +kernel
theorem dX4_bestMachine_30 : decode cX4_bestMachine 30 = .ok (.aload 4, 2) := by decide +kernel
theorem dX4_bestMachine_32 : decode cX4_bestMachine 32 = .ok (.getfield 130, 3) := by decide +kernel
theorem dX4_bestMachine_35 : decode cX4_bestMachine 35 = .ok (.invokevirtual 160, 3) := by decide +kernel
theorem dX4_bestMachine_38 : decode cX4_bestMachine 38 = .ok (.astore 5, 2) := by decide +kernel
theorem dX4_bestMachine_40 : decode cX4_bestMachine 40 = .ok (.aload_n 2, 1) := by decide +kernel
theorem dX4_bestMachine_41 : decode cX4_bestMachine 41 = .ok (.ifnull 12, 3) := by decide +kernel
theorem dX4_bestMachine_44 : decode cX4_bestMachine 44 = .ok (.aload 5, 2) := by decide +kernel
theorem dX4_bestMachine_46 : decode cX4_bestMachine 46 = .ok (.aload_n 2, 1) := by decide +kernel
theorem dX4_bestMachine_47 : decode cX4_bestMachine 47 = .ok (.invokevirtual 182, 3) := by decide +kernel
theorem dX4_bestMachine_50 : decode cX4_bestMachine 50 = .ok (.ifCond .le 8, 3) := by decide +kernel
theorem dX4_bestMachine_53 : decode cX4_bestMachine 53 = .ok (.aload 5, 2) := by decide +kernel
theorem dX4_bestMachine_55 : decode cX4_bestMachine 55 = .ok (.astore_n 2, 1) := by decide +kernel
theorem dX4_bestMachine_56 : decode cX4_bestMachine 56 = .ok (.iload_n 3, 1) := by decide +kernel
theorem dX4_bestMachine_57 : decode cX4_bestMachine 57 = .ok (.istore_n 1, 1) := by decide +kernel
theorem dX4_bestMachine_58 : decode cX4_bestMachine 58 = .ok (.iinc 3 1, 3) := by decide +kernel
theorem dX4_bestMachine_61 : decode cX4_bestMachine 61 = .ok (.goto (-54), 3) := by decide +kernel
theorem dX4_bestMachine_64 : decode cX4_bestMachine 64 = .ok (.iload_n 1, 1) := by decide +kernel
theorem dX4_bestMachine_65 : decode cX4_bestMachine 65 = .ok (.ireturn, 1) := by decide +kernel
theorem dX4_workOnce_0 : decode cX4_workOnce 0 = .ok (.aload_n 1, 1) := by decide +kernel
theorem dX4_workOnce_1 : decode cX4_workOnce 1 = .ok (.ifnonnull 5, 3) := by decide +kernel
theorem dX4_workOnce_4 : decode cX4_workOnce 4 = .ok (.iconst 0, 1) := by decide +kernel
theorem dX4_workOnce_5 : decode cX4_workOnce 5 = .ok (.ireturn, 1) := by decide +kernel
theorem dX4_workOnce_6 : decode cX4_workOnce 6 = .ok (.aload_n 1, 1) := by decide +kernel
theorem dX4_workOnce_7 : decode cX4_workOnce 7 = .ok (.aload_n 1, 1) := by decide +kernel
theorem dX4_workOnce_8 : decode cX4_workOnce 8 = .ok (.getfield 130, 3) := by decide +kernel
theorem dX4_workOnce_11 : decode cX4_workOnce 11 = .ok (.invokevirtual 143, 3) := by decide +kernel
theorem dX4_workOnce_14 : decode cX4_workOnce 14 = .ok (.istore_n 2, 1) := by decide +kernel
theorem dX4_workOnce_15 : decode cX4_workOnce 15 = .ok (.aload_n 1, 1) := by decide +kernel
theorem dX4_workOnce_16 : decode cX4_workOnce 16 = .ok (.aload_n 1, 1) := by decide +kernel
theorem dX4_workOnce_17 : decode cX4_workOnce 17 = .ok (.aload_n 0, 1) := by decide +kernel
theorem dX4_workOnce_18 : decode cX4_workOnce 18 = .ok (.aload_n 1, 1) := by decide +kernel
theorem dX4_workOnce_19 : decode cX4_workOnce 19 = .ok (.aload_n 1, 1) := by decide +kernel
theorem dX4_workOnce_20 : decode cX4_workOnce 20 = .ok (.getfield 130, 3) := by decide +kernel
theorem dX4_workOnce_23 : decode cX4_workOnce 23 = .ok (.invokevirtual 153, 3) := by decide +kernel
theorem dX4_workOnce_26 : decode cX4_workOnce 26 = .ok (.invokevirtual 241, 3) := by decide +kernel
theorem dX4_workOnce_29 : decode cX4_workOnce 29 = .ok (.invokevirtual 244, 3) := by decide +kernel
theorem dX4_workOnce_32 : decode cX4_workOnce 32 = .ok (.putfield 130, 3) := by decide +kernel
theorem dX4_workOnce_35 : decode cX4_workOnce 35 = .ok (.aload_n 1, 1) := by decide +kernel
theorem dX4_workOnce_36 : decode cX4_workOnce 36 = .ok (.dup, 1) := by decide +kernel
theorem dX4_workOnce_37 : decode cX4_workOnce 37 = .ok (.getfield 212, 3) := by decide +kernel
theorem dX4_workOnce_40 : decode cX4_workOnce 40 = .ok (.iconst 1, 1) := by decide +kernel
theorem dX4_workOnce_41 : decode cX4_workOnce 41 = .ok (.iadd, 1) := by decide +kernel
theorem dX4_workOnce_42 : decode cX4_workOnce 42 = .ok (.putfield 212, 3) := by decide +kernel
theorem dX4_workOnce_45 : decode cX4_workOnce 45 = .ok (.aload_n 0, 1) := by decide +kernel
theorem dX4_workOnce_46 : decode cX4_workOnce 46 = .ok (.dup, 1) := by decide +kernel
theorem dX4_workOnce_47 : decode cX4_workOnce 47 = .ok (.getfield 68, 3) := by decide +kernel
theorem dX4_workOnce_50 : decode cX4_workOnce 50 = .ok (.iload_n 2, 1) := by decide +kernel
theorem dX4_workOnce_51 : decode cX4_workOnce 51 = .ok (.i2l, 1) := by decide +kernel
theorem dX4_workOnce_52 : decode cX4_workOnce 52 = .ok (.ladd, 1) := by decide +kernel
theorem dX4_workOnce_53 : decode cX4_workOnce 53 = .ok (.putfield 68, 3) := by decide +kernel
theorem dX4_workOnce_56 : decode cX4_workOnce 56 = .ok (.iload_n 2, 1) := by decide +kernel
theorem dX4_workOnce_57 : decode cX4_workOnce 57 = .ok (.ireturn, 1) := by decide +kernel
theorem dX4_draw_0 : decode cX4_draw 0 = .ok (.aload_n 0, 1) := by decide +kernel
theorem dX4_draw_1 : decode cX4_draw 1 = .ok (.aload_n 0, 1) := by decide +kernel
theorem dX4_draw_2 : decode cX4_draw 2 = .ok (.getfield 55, 3) := by decide +kernel
theorem dX4_draw_5 : decode cX4_draw 5 = .ok (.i2l, 1) := by decide +kernel
theorem dX4_draw_6 : decode cX4_draw 6 = .ok (.ldc2_w 247, 3) := by decide +kernel
theorem dX4_draw_9 : decode cX4_draw 9 = .ok (.lmul, 1) := by decide +kernel
theorem dX4_draw_10 : decode cX4_draw 10 = .ok (.ldc2_w 249, 3) := by decide +kernel
theorem dX4_draw_13 : decode cX4_draw 13 = .ok (.ladd, 1) := by decide +kernel
theorem dX4_draw_14 : decode cX4_draw 14 = .ok (.ldc2_w 251, 3) := by decide +kernel
theorem dX4_draw_17 : decode cX4_draw 17 = .ok (.land, 1) := by decide +kernel
theorem dX4_draw_18 : decode cX4_draw 18 = .ok (.l2i, 1) := by decide +kernel
theorem dX4_draw_19 : decode cX4_draw 19 = .ok (.putfield 55, 3) := by decide +kernel
theorem dX4_draw_22 : decode cX4_draw 22 = .ok (.iload_n 1, 1) := by decide +kernel
theorem dX4_draw_23 : decode cX4_draw 23 = .ok (.ifCond .le 15, 3) := by decide +kernel
theorem dX4_draw_26 : decode cX4_draw 26 = .ok (.aload_n 0, 1) := by decide +kernel
theorem dX4_draw_27 : decode cX4_draw 27 = .ok (.getfield 55, 3) := by decide +kernel
theorem dX4_draw_30 : decode cX4_draw 30 = .ok (.ldc 253, 2) := by decide +kernel
theorem dX4_draw_32 : decode cX4_draw 32 = .ok (.idiv, 1) := by decide +kernel
theorem dX4_draw_33 : decode cX4_draw 33 = .ok (.iload_n 1, 1) := by decide +kernel
theorem dX4_draw_34 : decode cX4_draw 34 = .ok (.irem, 1) := by decide +kernel
theorem dX4_draw_35 : decode cX4_draw 35 = .ok (.goto 4, 3) := by decide +kernel
theorem dX4_draw_38 : decode cX4_draw 38 = .ok (.iconst 0, 1) := by decide +kernel
theorem dX4_draw_39 : decode cX4_draw 39 = .ok (.ireturn, 1) := by decide +kernel
theorem dX4_mix_0 : decode cX4_mix 0 = .ok (.ldc2_w 254, 3) := by decide +kernel
theorem dX4_mix_3 : decode cX4_mix 3 = .ok (.lload_n 0, 1) := by decide +kernel
theorem dX4_mix_4 : decode cX4_mix 4 = .ok (.lmul, 1) := by decide +kernel
theorem dX4_mix_5 : decode cX4_mix 5 = .ok (.lload_n 2, 1) := by decide +kernel
theorem dX4_mix_6 : decode cX4_mix 6 = .ok (.ladd, 1) := by decide +kernel
theorem dX4_mix_7 : decode cX4_mix 7 = .ok (.lreturn, 1) := by decide +kernel
theorem dX4_mixMachine_0 : decode cX4_mixMachine 0 = .ok (.aload_n 2, 1) := by decide +kernel
theorem dX4_mixMachine_1 : decode cX4_mixMachine 1 = .ok (.ifnonnull 5, 3) := by decide +kernel
theorem dX4_mixMachine_4 : decode cX4_mixMachine 4 = .ok (.lload_n 0, 1) := by decide +kernel
theorem dX4_mixMachine_5 : decode cX4_mixMachine 5 = .ok (.lreturn, 1) := by decide +kernel
theorem dX4_mixMachine_6 : decode cX4_mixMachine 6 = .ok (.lload_n 0, 1) := by decide +kernel
theorem dX4_mixMachine_7 : decode cX4_mixMachine 7 = .ok (.aload_n 2, 1) := by decide +kernel
theorem dX4_mixMachine_8 : decode cX4_mixMachine 8 = .ok (.getfield 126, 3) := by decide +kernel
theorem dX4_mixMachine_11 : decode cX4_mixMachine 11 = .ok (.i2l, 1) := by decide +kernel
theorem dX4_mixMachine_12 : decode cX4_mixMachine 12 = .ok (.invokestatic 217, 3) := by decide +kernel
theorem dX4_mixMachine_15 : decode cX4_mixMachine 15 = .ok (.aload_n 2, 1) := by decide +kernel
theorem dX4_mixMachine_16 : decode cX4_mixMachine 16 = .ok (.getfield 127, 3) := by decide +kernel
theorem dX4_mixMachine_19 : decode cX4_mixMachine 19 = .ok (.i2l, 1) := by decide +kernel
theorem dX4_mixMachine_20 : decode cX4_mixMachine 20 = .ok (.invokestatic 217, 3) := by decide +kernel
theorem dX4_mixMachine_23 : decode cX4_mixMachine 23 = .ok (.aload_n 2, 1) := by decide +kernel
theorem dX4_mixMachine_24 : decode cX4_mixMachine 24 = .ok (.getfield 130, 3) := by decide +kernel
theorem dX4_mixMachine_27 : decode cX4_mixMachine 27 = .ok (.i2l, 1) := by decide +kernel
theorem dX4_mixMachine_28 : decode cX4_mixMachine 28 = .ok (.invokestatic 217, 3) := by decide +kernel
theorem dX4_mixMachine_31 : decode cX4_mixMachine 31 = .ok (.lstore_n 3, 1) := by decide +kernel
theorem dX4_mixMachine_32 : decode cX4_mixMachine 32 = .ok (.iconst 0, 1) := by decide +kernel
theorem dX4_mixMachine_33 : decode cX4_mixMachine 33 = .ok (.istore 5, 2) := by decide +kernel
theorem dX4_mixMachine_35 : decode cX4_mixMachine 35 = .ok (.iload 5, 2) := by decide +kernel
theorem dX4_mixMachine_37 : decode cX4_mixMachine 37 = .ok (.aload_n 2, 1) := by decide +kernel
theorem dX4_mixMachine_38 : decode cX4_mixMachine 38 = .ok (.getfield 127, 3) := by decide +kernel
theorem dX4_mixMachine_41 : decode cX4_mixMachine 41 = .ok (.if_icmp .ge 53, 3) := by decide +kernel
theorem dX4_mixMachine_44 : decode cX4_mixMachine 44 = .ok (.lload_n 3, 1) := by decide +kernel
theorem dX4_mixMachine_45 : decode cX4_mixMachine 45 = .ok (.aload_n 2, 1) := by decide +kernel
theorem dX4_mixMachine_46 : decode cX4_mixMachine 46 = .ok (.iload 5, 2) := by decide +kernel
theorem dX4_mixMachine_48 : decode cX4_mixMachine 48 = .ok (.invokevirtual 143, 3) := by decide +kernel
theorem dX4_mixMachine_51 : decode cX4_mixMachine 51 = .ok (.i2l, 1) := by decide +kernel
theorem dX4_mixMachine_52 : decode cX4_mixMachine 52 = .ok (.invokestatic 217, 3) := by decide +kernel
theorem dX4_mixMachine_55 : decode cX4_mixMachine 55 = .ok (.lstore_n 3, 1) := by decide +kernel
theorem dX4_mixMachine_56 : decode cX4_mixMachine 56 = .ok (.iconst 0, 1) := by decide +kernel
theorem dX4_mixMachine_57 : decode cX4_mixMachine 57 = .ok (.istore 6, 2) := by decide +kernel
theorem dX4_mixMachine_59 : decode cX4_mixMachine 59 = .ok (.iload 6, 2) := by decide +kernel
theorem dX4_mixMachine_61 : decode cX4_mixMachine 61 = .ok (.aload_n 2, 1) := by decide +kernel
theorem dX4_mixMachine_62 : decode cX4_mixMachine 62 = .ok (.getfield 127, 3) := by decide +kernel
theorem dX4_mixMachine_65 : decode cX4_mixMachine 65 = .ok (.if_icmp .ge 23, 3) := by decide +kernel
theorem dX4_mixMachine_68 : decode cX4_mixMachine 68 = .ok (.lload_n 3, 1) := by decide +kernel
theorem dX4_mixMachine_69 : decode cX4_mixMachine 69 = .ok (.aload_n 2, 1) := by decide +kernel
theorem dX4_mixMachine_70 : decode cX4_mixMachine 70 = .ok (.iload 5, 2) := by decide +kernel
theorem dX4_mixMachine_72 : decode cX4_mixMachine 72 = .ok (.iload 6, 2) := by decide +kernel
theorem dX4_mixMachine_74 : decode cX4_mixMachine 74 = .ok (.invokevirtual 149, 3) := by decide +kernel
theorem dX4_mixMachine_77 : decode cX4_mixMachine 77 = .ok (.i2l, 1) := by decide +kernel
theorem dX4_mixMachine_78 : decode cX4_mixMachine 78 = .ok (.invokestatic 217, 3) := by decide +kernel
theorem dX4_mixMachine_81 : decode cX4_mixMachine 81 = .ok (.lstore_n 3, 1) := by decide +kernel
theorem dX4_mixMachine_82 : decode cX4_mixMachine 82 = .ok (.iinc 6 1, 3) := by decide +kernel
theorem dX4_mixMachine_85 : decode cX4_mixMachine 85 = .ok (.goto (-26), 3) := by decide +kernel
theorem dX4_mixMachine_88 : decode cX4_mixMachine 88 = .ok (.iinc 5 1, 3) := by decide +kernel
theorem dX4_mixMachine_91 : decode cX4_mixMachine 91 = .ok (.goto (-56), 3) := by decide +kernel
theorem dX4_mixMachine_94 : decode cX4_mixMachine 94 = .ok (.lload_n 3, 1) := by decide +kernel
theorem dX4_mixMachine_95 : decode cX4_mixMachine 95 = .ok (.lreturn, 1) := by decide +kernel
theorem dX4_mixSheet_0 : decode cX4_mixSheet 0 = .ok (.aload_n 2, 1) := by decide +kernel
theorem dX4_mixSheet_1 : decode cX4_mixSheet 1 = .ok (.ifnull 10, 3) := by decide +kernel
theorem dX4_mixSheet_4 : decode cX4_mixSheet 4 = .ok (.aload_n 2, 1) := by decide +kernel
theorem dX4_mixSheet_5 : decode cX4_mixSheet 5 = .ok (.getfield 90, 3) := by decide +kernel
theorem dX4_mixSheet_8 : decode cX4_mixSheet 8 = .ok (.ifCond .eq 11, 3) := by decide +kernel
theorem dX4_mixSheet_11 : decode cX4_mixSheet 11 = .ok (.lload_n 0, 1) := by decide +kernel
theorem dX4_mixSheet_12 : decode cX4_mixSheet 12 = .ok (.ldc2_w 256, 3) := by decide +kernel
theorem dX4_mixSheet_15 : decode cX4_mixSheet 15 = .ok (.invokestatic 217, 3) := by decide +kernel
theorem dX4_mixSheet_18 : decode cX4_mixSheet 18 = .ok (.lreturn, 1) := by decide +kernel
theorem dX4_mixSheet_19 : decode cX4_mixSheet 19 = .ok (.lload_n 0, 1) := by decide +kernel
theorem dX4_mixSheet_20 : decode cX4_mixSheet 20 = .ok (.aload_n 2, 1) := by decide +kernel
theorem dX4_mixSheet_21 : decode cX4_mixSheet 21 = .ok (.getfield 108, 3) := by decide +kernel
theorem dX4_mixSheet_24 : decode cX4_mixSheet 24 = .ok (.arraylength, 1) := by decide +kernel
theorem dX4_mixSheet_25 : decode cX4_mixSheet 25 = .ok (.i2l, 1) := by decide +kernel
theorem dX4_mixSheet_26 : decode cX4_mixSheet 26 = .ok (.invokestatic 217, 3) := by decide +kernel
theorem dX4_mixSheet_29 : decode cX4_mixSheet 29 = .ok (.lstore_n 3, 1) := by decide +kernel
theorem dX4_mixSheet_30 : decode cX4_mixSheet 30 = .ok (.iconst 0, 1) := by decide +kernel
theorem dX4_mixSheet_31 : decode cX4_mixSheet 31 = .ok (.istore 5, 2) := by decide +kernel
theorem dX4_mixSheet_33 : decode cX4_mixSheet 33 = .ok (.iload 5, 2) := by decide +kernel
theorem dX4_mixSheet_35 : decode cX4_mixSheet 35 = .ok (.aload_n 2, 1) := by decide +kernel
theorem dX4_mixSheet_36 : decode cX4_mixSheet 36 = .ok (.getfield 108, 3) := by decide +kernel
theorem dX4_mixSheet_39 : decode cX4_mixSheet 39 = .ok (.arraylength, 1) := by decide +kernel
theorem dX4_mixSheet_40 : decode cX4_mixSheet 40 = .ok (.if_icmp .ge 21, 3) := by decide +kernel
theorem dX4_mixSheet_43 : decode cX4_mixSheet 43 = .ok (.lload_n 3, 1) := by decide +kernel
theorem dX4_mixSheet_44 : decode cX4_mixSheet 44 = .ok (.aload_n 2, 1) := by decide +kernel
theorem dX4_mixSheet_45 : decode cX4_mixSheet 45 = .ok (.getfield 108, 3) := by decide +kernel
theorem dX4_mixSheet_48 : decode cX4_mixSheet 48 = .ok (.iload 5, 2) := by decide +kernel
theorem dX4_mixSheet_50 : decode cX4_mixSheet 50 = .ok (.laload, 1) := by decide +kernel
theorem dX4_mixSheet_51 : decode cX4_mixSheet 51 = .ok (.invokestatic 217, 3) := by decide +kernel
theorem dX4_mixSheet_54 : decode cX4_mixSheet 54 = .ok (.lstore_n 3, 1) := by decide +kernel
theorem dX4_mixSheet_55 : decode cX4_mixSheet 55 = .ok (.iinc 5 1, 3) := by decide +kernel
theorem dX4_mixSheet_58 : decode cX4_mixSheet 58 = .ok (.goto (-25), 3) := by decide +kernel
theorem dX4_mixSheet_61 : decode cX4_mixSheet 61 = .ok (.lload_n 3, 1) := by decide +kernel
theorem dX4_mixSheet_62 : decode cX4_mixSheet 62 = .ok (.lreturn, 1) := by decide +kernel
