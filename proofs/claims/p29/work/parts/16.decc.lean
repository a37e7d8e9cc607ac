theorem dX10_init_0 : decode cX10_init 0 = .ok (.aload_n 0, 1) := by decide +kernel
theorem dX10_init_1 : decode cX10_init 1 = .ok (.invokespecial 3, 3) := by decide +kernel
theorem dX10_init_4 : decode cX10_init 4 = .ok (.aload_n 0, 1) := by decide +kernel
theorem dX10_init_5 : decode cX10_init 5 = .ok (.new 9, 3) := by decide +kernel
theorem dX10_init_8 : decode cX10_init 8 = .ok (.dup, 1) := by decide +kernel
theorem dX10_init_9 : decode cX10_init 9 = .ok (.invokespecial 11, 3) := by decide +kernel
theorem dX10_init_12 : decode cX10_init 12 = .ok (.putfield 12, 3) := by decide +kernel
theorem dX10_init_15 : decode cX10_init 15 = .ok (.aload_n 0, 1) := by decide +kernel
theorem dX10_init_16 : decode cX10_init 16 = .ok (.new 16, 3) := by decide +kernel
theorem dX10_init_19 : decode cX10_init 19 = .ok (.dup, 1) := by decide +kernel
theorem dX10_init_20 : decode cX10_init 20 = .ok (.invokespecial 18, 3) := by decide +kernel
theorem dX10_init_23 : decode cX10_init 23 = .ok (.putfield 19, 3) := by decide +kernel
theorem dX10_init_26 : decode cX10_init 26 = .ok (.aload_n 0, 1) := by decide +kernel
theorem dX10_init_27 : decode cX10_init 27 = .ok (.iconst 2, 1) := by decide +kernel
theorem dX10_init_28 : decode cX10_init 28 = .ok (.anewarray 9, 3) := by decide +kernel
theorem dX10_init_31 : decode cX10_init 31 = .ok (.putfield 23, 3) := by decide +kernel
theorem dX10_init_34 : decode cX10_init 34 = .ok (.aload_n 0, 1) := by decide +kernel
theorem dX10_init_35 : decode cX10_init 35 = .ok (.iconst 2, 1) := by decide +kernel
theorem dX10_init_36 : decode cX10_init 36 = .ok (.newarray .boolean, 2) := by decide +kernel
theorem dX10_init_38 : decode cX10_init 38 = .ok (.putfield 27, 3) := by decide +kernel
theorem dX10_init_41 : decode cX10_init 41 = .ok (.aload_n 0, 1) := by decide +kernel
theorem dX10_init_42 : decode cX10_init 42 = .ok (.new 31, 3) := by decide +kernel
theorem dX10_init_45 : decode cX10_init 45 = .ok (.dup, 1) := by decide +kernel
theorem dX10_init_46 : decode cX10_init 46 = .ok (.invokespecial 33, 3) := by decide +kernel
theorem dX10_init_49 : decode cX10_init 49 = .ok (.putfield 34, 3) := by decide +kernel
theorem dX10_init_52 : decode cX10_init 52 = .ok (.aload_n 0, 1) := by decide +kernel
theorem dX10_init_53 : decode cX10_init 53 = .ok (.aload_n 0, 1) := by decide +kernel
theorem dX10_init_54 : decode cX10_init 54 = .ok (.getfield 34, 3) := by decide +kernel
theorem dX10_init_57 : decode cX10_init 57 = .ok (.getfield 38, 3) := by decide +kernel
theorem dX10_init_60 : decode cX10_init 60 = .ok (.putfield 42, 3) := by decide +kernel
theorem dX10_init_63 : decode cX10_init 63 = .ok (.aload_n 0, 1) := by decide +kernel
theorem dX10_init_64 : decode cX10_init 64 = .ok (.new 43, 3) := by decide +kernel
theorem dX10_init_67 : decode cX10_init 67 = .ok (.dup, 1) := by decide +kernel
theorem dX10_init_68 : decode cX10_init 68 = .ok (.invokespecial 45, 3) := by decide +kernel
theorem dX10_init_71 : decode cX10_init 71 = .ok (.putfield 46, 3) := by decide +kernel
theorem dX10_init_74 : decode cX10_init 74 = .ok (.aload_n 0, 1) := by decide +kernel
theorem dX10_init_75 : decode cX10_init 75 = .ok (.new 50, 3) := by decide +kernel
theorem dX10_init_78 : decode cX10_init 78 = .ok (.dup, 1) := by decide +kernel
theorem dX10_init_79 : decode cX10_init 79 = .ok (.invokespecial 52, 3) := by decide +kernel
theorem dX10_init_82 : decode cX10_init 82 = .ok (.putfield 53, 3) := by decide +kernel
theorem dX10_init_85 : decode cX10_init 85 = .ok (.iconst 0, 1) := by decide +kernel
theorem dX10_init_86 : decode cX10_init 86 = .ok (.istore_n 1, 1) := by decide +kernel
theorem dX10_init_87 : decode cX10_init 87 = .ok (.iload_n 1, 1) := by decide +kernel
theorem dX10_init_88 : decode cX10_init 88 = .ok (.iconst 2, 1) := by decide +kernel
theorem dX10_init_89 : decode cX10_init 89 = .ok (.if_icmp .ge 22, 3) := by decide +kernel
theorem dX10_init_92 : decode cX10_init 92 = .ok (.aload_n 0, 1) := by decide +kernel
theorem dX10_init_93 : decode cX10_init 93 = .ok (.getfield 23, 3) := by decide +kernel
theorem dX10_init_96 : decode cX10_init 96 = .ok (.iload_n 1, 1) := by decide +kernel
theorem dX10_init_97 : decode cX10_init 97 = .ok (.new 9, 3) := by decide +kernel
theorem dX10_init_100 : decode cX10_init 100 = .ok (.dup, 1) := by decide +kernel
theorem dX10_init_101 : decode cX10_init 101 = .ok (.invokespecial 11, 3) := by decide +kernel
theorem dX10_init_104 : decode cX10_init 104 = .ok (.aastore, 1) := by decide +kernel
theorem dX10_init_105 : decode cX10_init 105 = .ok (.iinc 1 1, 3) := by decide +kernel
theorem dX10_init_108 : decode cX10_init 108 = .ok (.goto (-21), 3) := by decide +kernel
theorem dX10_init_111 : decode cX10_init 111 = .ok (.return_, 1) := by decide +kernel
theorem dX10_ingredient_0 : decode cX10_ingredient 0 = .ok (.iload_n 1, 1) := by decide +kernel
theorem dX10_ingredient_1 : decode cX10_ingredient 1 = .ok (.iconst 1, 1) := by decide +kernel
theorem dX10_ingredient_2 : decode cX10_ingredient 2 = .ok (.bipush 30, 2) := by decide +kernel
theorem dX10_ingredient_4 : decode cX10_ingredient 4 = .ok (.invokestatic 57, 3) := by decide +kernel
theorem dX10_ingredient_7 : decode cX10_ingredient 7 = .ok (.ifCond .ne 6, 3) := by decide +kernel
theorem dX10_ingredient_10 : decode cX10_ingredient 10 = .ok (.bipush (-2), 2) := by decide +kernel
theorem dX10_ingredient_12 : decode cX10_ingredient 12 = .ok (.ireturn, 1) := by decide +kernel
theorem dX10_ingredient_13 : decode cX10_ingredient 13 = .ok (.aload_n 0, 1) := by decide +kernel
theorem dX10_ingredient_14 : decode cX10_ingredient 14 = .ok (.getfield 12, 3) := by decide +kernel
theorem dX10_ingredient_17 : decode cX10_ingredient 17 = .ok (.getfield 61, 3) := by decide +kernel
theorem dX10_ingredient_20 : decode cX10_ingredient 20 = .ok (.istore_n 2, 1) := by decide +kernel
theorem dX10_ingredient_21 : decode cX10_ingredient 21 = .ok (.iload_n 2, 1) := by decide +kernel
theorem dX10_ingredient_22 : decode cX10_ingredient 22 = .ok (.bipush 8, 2) := by decide +kernel
theorem dX10_ingredient_24 : decode cX10_ingredient 24 = .ok (.if_icmp .lt 6, 3) := by decide +kernel
theorem dX10_ingredient_27 : decode cX10_ingredient 27 = .ok (.bipush (-4), 2) := by decide +kernel
theorem dX10_ingredient_29 : decode cX10_ingredient 29 = .ok (.ireturn, 1) := by decide +kernel
theorem dX10_ingredient_30 : decode cX10_ingredient 30 = .ok (.aload_n 0, 1) := by decide +kernel
theorem dX10_ingredient_31 : decode cX10_ingredient 31 = .ok (.getfield 19, 3) := by decide +kernel
theorem dX10_ingredient_34 : decode cX10_ingredient 34 = .ok (.aload_n 0, 1) := by decide +kernel
theorem dX10_ingredient_35 : decode cX10_ingredient 35 = .ok (.getfield 12, 3) := by decide +kernel
theorem dX10_ingredient_38 : decode cX10_ingredient 38 = .ok (.invokevirtual 65, 3) := by decide +kernel
theorem dX10_ingredient_41 : decode cX10_ingredient 41 = .ok (.aload_n 0, 1) := by decide +kernel
theorem dX10_ingredient_42 : decode cX10_ingredient 42 = .ok (.getfield 12, 3) := by decide +kernel
theorem dX10_ingredient_45 : decode cX10_ingredient 45 = .ok (.getfield 69, 3) := by decide +kernel
theorem dX10_ingredient_48 : decode cX10_ingredient 48 = .ok (.iload_n 2, 1) := by decide +kernel
theorem dX10_ingredient_49 : decode cX10_ingredient 49 = .ok (.aaload, 1) := by decide +kernel
theorem dX10_ingredient_50 : decode cX10_ingredient 50 = .ok (.iload_n 1, 1) := by decide +kernel
theorem dX10_ingredient_51 : decode cX10_ingredient 51 = .ok (.invokevirtual 73, 3) := by decide +kernel
theorem dX10_ingredient_54 : decode cX10_ingredient 54 = .ok (.aload_n 0, 1) := by decide +kernel
theorem dX10_ingredient_55 : decode cX10_ingredient 55 = .ok (.getfield 12, 3) := by decide +kernel
theorem dX10_ingredient_58 : decode cX10_ingredient 58 = .ok (.iload_n 2, 1) := by decide +kernel
theorem dX10_ingredient_59 : decode cX10_ingredient 59 = .ok (.iconst 1, 1) := by decide +kernel
theorem dX10_ingredient_60 : decode cX10_ingredient 60 = .ok (.iadd, 1) := by decide +kernel
theorem dX10_ingredient_61 : decode cX10_ingredient 61 = .ok (.putfield 61, 3) := by decide +kernel
theorem dX10_ingredient_64 : decode cX10_ingredient 64 = .ok (.iload_n 2, 1) := by decide +kernel
theorem dX10_ingredient_65 : decode cX10_ingredient 65 = .ok (.ireturn, 1) := by decide +kernel
theorem dX10_tin_0 : decode cX10_tin 0 = .ok (.aload_n 0, 1) := by decide +kernel
theorem dX10_tin_1 : decode cX10_tin 1 = .ok (.getfield 12, 3) := by decide +kernel
theorem dX10_tin_4 : decode cX10_tin 4 = .ok (.iload_n 1, 1) := by decide +kernel
theorem dX10_tin_5 : decode cX10_tin 5 = .ok (.invokevirtual 79, 3) := by decide +kernel
theorem dX10_tin_8 : decode cX10_tin 8 = .ok (.ifCond .ne 5, 3) := by decide +kernel
theorem dX10_tin_11 : decode cX10_tin 11 = .ok (.iconst (-1), 1) := by decide +kernel
theorem dX10_tin_12 : decode cX10_tin 12 = .ok (.ireturn, 1) := by decide +kernel
theorem dX10_tin_13 : decode cX10_tin 13 = .ok (.iload_n 2, 1) := by decide +kernel
theorem dX10_tin_14 : decode cX10_tin 14 = .ok (.bipush 50, 2) := by decide +kernel
theorem dX10_tin_16 : decode cX10_tin 16 = .ok (.sipush 2000, 3) := by decide +kernel
theorem dX10_tin_19 : decode cX10_tin 19 = .ok (.invokestatic 57, 3) := by decide +kernel
theorem dX10_tin_22 : decode cX10_tin 22 = .ok (.ifCond .eq 14, 3) := by decide +kernel
theorem dX10_tin_25 : decode cX10_tin 25 = .ok (.iload_n 3, 1) := by decide +kernel
theorem dX10_tin_26 : decode cX10_tin 26 = .ok (.iconst 1, 1) := by decide +kernel
theorem dX10_tin_27 : decode cX10_tin 27 = .ok (.sipush 999, 3) := by decide +kernel
theorem dX10_tin_30 : decode cX10_tin 30 = .ok (.invokestatic 57, 3) := by decide +kernel
theorem dX10_tin_33 : decode cX10_tin 33 = .ok (.ifCond .ne 6, 3) := by decide +kernel
theorem dX10_tin_36 : decode cX10_tin 36 = .ok (.bipush (-2), 2) := by decide +kernel
theorem dX10_tin_38 : decode cX10_tin 38 = .ok (.ireturn, 1) := by decide +kernel
theorem dX10_tin_39 : decode cX10_tin 39 = .ok (.aload_n 0, 1) := by decide +kernel
theorem dX10_tin_40 : decode cX10_tin 40 = .ok (.getfield 12, 3) := by decide +kernel
theorem dX10_tin_43 : decode cX10_tin 43 = .ok (.getfield 69, 3) := by decide +kernel
theorem dX10_tin_46 : decode cX10_tin 46 = .ok (.iload_n 1, 1) := by decide +kernel
theorem dX10_tin_47 : decode cX10_tin 47 = .ok (.aaload, 1) := by decide +kernel
theorem dX10_tin_48 : decode cX10_tin 48 = .ok (.astore 4, 2) := by decide +kernel
theorem dX10_tin_50 : decode cX10_tin 50 = .ok (.aload 4, 2) := by decide +kernel
theorem dX10_tin_52 : decode cX10_tin 52 = .ok (.getfield 83, 3) := by decide +kernel
theorem dX10_tin_55 : decode cX10_tin 55 = .ok (.iconst 3, 1) := by decide +kernel
theorem dX10_tin_56 : decode cX10_tin 56 = .ok (.if_icmp .lt 6, 3) := by decide +kernel
theorem dX10_tin_59 : decode cX10_tin 59 = .ok (.bipush (-4), 2) := by decide +kernel
theorem dX10_tin_61 : decode cX10_tin 61 = .ok (.ireturn, 1) := by decide +kernel
theorem dX10_tin_62 : decode cX10_tin 62 = .ok (.aload 4, 2) := by decide +kernel
theorem dX10_tin_64 : decode cX10_tin 64 = .ok (.iload_n 2, 1) := by decide +kernel
theorem dX10_tin_65 : decode cX10_tin 65 = .ok (.invokevirtual 86, 3) := by decide +kernel
theorem dX10_tin_68 : decode cX10_tin 68 = .ok (.ifCond .eq 6, 3) := by decide +kernel
theorem dX10_tin_71 : decode cX10_tin 71 = .ok (.bipush (-5), 2) := by decide +kernel
theorem dX10_tin_73 : decode cX10_tin 73 = .ok (.ireturn, 1) := by decide +kernel
theorem dX10_tin_74 : decode cX10_tin 74 = .ok (.aload_n 0, 1) := by decide +kernel
theorem dX10_tin_75 : decode cX10_tin 75 = .ok (.getfield 19, 3) := by decide +kernel
theorem dX10_tin_78 : decode cX10_tin 78 = .ok (.aload_n 0, 1) := by decide +kernel
theorem dX10_tin_79 : decode cX10_tin 79 = .ok (.getfield 12, 3) := by decide +kernel
theorem dX10_tin_82 : decode cX10_tin 82 = .ok (.invokevirtual 65, 3) := by decide +kernel
theorem dX10_tin_85 : decode cX10_tin 85 = .ok (.aload 4, 2) := by decide +kernel
theorem dX10_tin_87 : decode cX10_tin 87 = .ok (.iload_n 2, 1) := by decide +kernel
theorem dX10_tin_88 : decode cX10_tin 88 = .ok (.iload_n 3, 1) := by decide +kernel
theorem dX10_tin_89 : decode cX10_tin 89 = .ok (.invokevirtual 89, 3) := by decide +kernel
theorem dX10_tin_92 : decode cX10_tin 92 = .ok (.aload 4, 2) := by decide +kernel
theorem dX10_tin_94 : decode cX10_tin 94 = .ok (.getfield 83, 3) := by decide +kernel
theorem dX10_tin_97 : decode cX10_tin 97 = .ok (.ireturn, 1) := by decide +kernel
theorem dX10_buyable_0 : decode cX10_buyable 0 = .ok (.aload_n 0, 1) := by decide +kernel
theorem dX10_buyable_1 : decode cX10_buyable 1 = .ok (.getfield 12, 3) := by decide +kernel
theorem dX10_buyable_4 : decode cX10_buyable 4 = .ok (.iload_n 1, 1) := by decide +kernel
theorem dX10_buyable_5 : decode cX10_buyable 5 = .ok (.invokevirtual 79, 3) := by decide +kernel
theorem dX10_buyable_8 : decode cX10_buyable 8 = .ok (.ifCond .ne 5, 3) := by decide +kernel
theorem dX10_buyable_11 : decode cX10_buyable 11 = .ok (.iconst (-1), 1) := by decide +kernel
theorem dX10_buyable_12 : decode cX10_buyable 12 = .ok (.ireturn, 1) := by decide +kernel
theorem dX10_buyable_13 : decode cX10_buyable 13 = .ok (.iload_n 2, 1) := by decide +kernel
theorem dX10_buyable_14 : decode cX10_buyable 14 = .ok (.iconst 0, 1) := by decide +kernel
theorem dX10_buyable_15 : decode cX10_buyable 15 = .ok (.iconst 1, 1) := by decide +kernel
theorem dX10_buyable_16 : decode cX10_buyable 16 = .ok (.invokestatic 57, 3) := by decide +kernel
theorem dX10_buyable_19 : decode cX10_buyable 19 = .ok (.ifCond .ne 6, 3) := by decide +kernel
theorem dX10_buyable_22 : decode cX10_buyable 22 = .ok (.bipush (-2), 2) := by decide +kernel
theorem dX10_buyable_24 : decode cX10_buyable 24 = .ok (.ireturn, 1) := by decide +kernel
theorem dX10_buyable_25 : decode cX10_buyable 25 = .ok (.aload_n 0, 1) := by decide +kernel
theorem dX10_buyable_26 : decode cX10_buyable 26 = .ok (.getfield 19, 3) := by decide +kernel
theorem dX10_buyable_29 : decode cX10_buyable 29 = .ok (.aload_n 0, 1) := by decide +kernel
theorem dX10_buyable_30 : decode cX10_buyable 30 = .ok (.getfield 12, 3) := by decide +kernel
theorem dX10_buyable_33 : decode cX10_buyable 33 = .ok (.invokevirtual 65, 3) := by decide +kernel
theorem dX10_buyable_36 : decode cX10_buyable 36 = .ok (.aload_n 0, 1) := by decide +kernel
theorem dX10_buyable_37 : decode cX10_buyable 37 = .ok (.getfield 12, 3) := by decide +kernel
theorem dX10_buyable_40 : decode cX10_buyable 40 = .ok (.getfield 69, 3) := by decide +kernel
theorem dX10_buyable_43 : decode cX10_buyable 43 = .ok (.iload_n 1, 1) := by decide +kernel
theorem dX10_buyable_44 : decode cX10_buyable 44 = .ok (.aaload, 1) := by decide +kernel
theorem dX10_buyable_45 : decode cX10_buyable 45 = .ok (.astore_n 3, 1) := by decide +kernel
theorem dX10_buyable_46 : decode cX10_buyable 46 = .ok (.aload_n 3, 1) := by decide +kernel
theorem dX10_buyable_47 : decode cX10_buyable 47 = .ok (.getfield 93, 3) := by decide +kernel
theorem dX10_buyable_50 : decode cX10_buyable 50 = .ok (.istore 4, 2) := by decide +kernel
theorem dX10_buyable_52 : decode cX10_buyable 52 = .ok (.aload_n 3, 1) := by decide +kernel
theorem dX10_buyable_53 : decode cX10_buyable 53 = .ok (.iload_n 2, 1) := by decide +kernel
theorem dX10_buyable_54 : decode cX10_buyable 54 = .ok (.iconst 1, 1) := by decide +kernel
theorem dX10_buyable_55 : decode cX10_buyable 55 = .ok (.if_icmp .ne 7, 3) := by decide +kernel
theorem dX10_buyable_58 : decode cX10_buyable 58 = .ok (.iconst 1, 1) := by decide +kernel
theorem dX10_buyable_59 : decode cX10_buyable 59 = .ok (.goto 4, 3) := by decide +kernel
theorem dX10_buyable_62 : decode cX10_buyable 62 = .ok (.iconst 0, 1) := by decide +kernel
theorem dX10_buyable_63 : decode cX10_buyable 63 = .ok (.putfield 93, 3) := by decide +kernel
theorem dX10_buyable_66 : decode cX10_buyable 66 = .ok (.iload 4, 2) := by decide +kernel
theorem dX10_buyable_68 : decode cX10_buyable 68 = .ok (.invokestatic 97, 3) := by decide +kernel
theorem dX10_buyable_71 : decode cX10_buyable 71 = .ok (.ireturn, 1) := by decide +kernel
theorem dX10_substitute_0 : decode cX10_substitute 0 = .ok (.iload_n 2, 1) := by decide +kernel
theorem dX10_substitute_1 : decode cX10_substitute 1 = .ok (.bipush (-6), 2) := by decide +kernel
theorem dX10_substitute_3 : decode cX10_substitute 3 = .ok (.if_icmp .eq 7, 3) := by decide +kernel
theorem dX10_substitute_6 : decode cX10_substitute 6 = .ok (.iconst 1, 1) := by decide +kernel
theorem dX10_substitute_7 : decode cX10_substitute 7 = .ok (.goto 4, 3) := by decide +kernel
theorem dX10_substitute_10 : decode cX10_substitute 10 = .ok (.iconst 0, 1) := by decide +kernel
theorem dX10_substitute_11 : decode cX10_substitute 11 = .ok (.istore 4, 2) := by decide +kernel
theorem dX10_substitute_13 : decode cX10_substitute 13 = .ok (.aload_n 0, 1) := by decide +kernel
theorem dX10_substitute_14 : decode cX10_substitute 14 = .ok (.getfield 12, 3) := by decide +kernel
theorem dX10_substitute_17 : decode cX10_substitute 17 = .ok (.iload_n 1, 1) := by decide +kernel
theorem dX10_substitute_18 : decode cX10_substitute 18 = .ok (.invokevirtual 79, 3) := by decide +kernel
theorem dX10_substitute_21 : decode cX10_substitute 21 = .ok (.ifCond .eq 19, 3) := by decide +kernel
theorem dX10_substitute_24 : decode cX10_substitute 24 = .ok (.iload 4, 2) := by decide +kernel
theorem dX10_substitute_26 : decode cX10_substitute 26 = .ok (.ifCond .eq 16, 3) := by decide +kernel
theorem dX10_substitute_29 : decode cX10_substitute 29 = .ok (.aload_n 0, 1) := by decide +kernel
theorem dX10_substitute_30 : decode cX10_substitute 30 = .ok (.getfield 12, 3) := by decide +kernel
theorem dX10_substitute_33 : decode cX10_substitute 33 = .ok (.iload_n 2, 1) := by decide +kernel
theorem dX10_substitute_34 : decode cX10_substitute 34 = .ok (.invokevirtual 79, 3) := by decide +kernel
theorem dX10_substitute_37 : decode cX10_substitute 37 = .ok (.ifCond .ne 5, 3) := by decide +kernel
theorem dX10_substitute_40 : decode cX10_substitute 40 = .ok (.iconst (-1), 1) := by decide +kernel
theorem dX10_substitute_41 : decode cX10_substitute 41 = .ok (.ireturn, 1) := by decide +kernel
theorem dX10_substitute_42 : decode cX10_substitute 42 = .ok (.iload 4, 2) := by decide +kernel
theorem dX10_substitute_44 : decode cX10_substitute 44 = .ok (.ifCond .eq 23, 3) := by decide +kernel
theorem dX10_substitute_47 : decode cX10_substitute 47 = .ok (.iload_n 2, 1) := by decide +kernel
theorem dX10_substitute_48 : decode cX10_substitute 48 = .ok (.iload_n 1, 1) := by decide +kernel
theorem dX10_substitute_49 : decode cX10_substitute 49 = .ok (.if_icmp .le 15, 3) := by decide +kernel
theorem dX10_substitute_52 : decode cX10_substitute 52 = .ok (.iload_n 3, 1) := by decide +kernel
theorem dX10_substitute_53 : decode cX10_substitute 53 = .ok (.bipush 10, 2) := by decide +kernel
theorem dX10_substitute_55 : decode cX10_substitute 55 = .ok (.sipush 200, 3) := by decide +kernel
theorem dX10_substitute_58 : decode cX10_substitute 58 = .ok (.invokestatic 57, 3) := by decide +kernel
theorem dX10_substitute_61 : decode cX10_substitute 61 = .ok (.ifCond .ne 6, 3) := by decide +kernel
theorem dX10_substitute_64 : decode cX10_substitute 64 = .ok (.bipush (-2), 2) := by decide +kernel
theorem dX10_substitute_66 : decode cX10_substitute 66 = .ok (.ireturn, 1) := by decide +kernel
theorem dX10_substitute_67 : decode cX10_substitute 67 = .ok (.aload_n 0, 1) := by decide +kernel
theorem dX10_substitute_68 : decode cX10_substitute 68 = .ok (.getfield 19, 3) := by decide +kernel
theorem dX10_substitute_71 : decode cX10_substitute 71 = .ok (.aload_n 0, 1) := by decide +kernel
theorem dX10_substitute_72 : decode cX10_substitute 72 = .ok (.getfield 12, 3) := by decide +kernel
theorem dX10_substitute_75 : decode cX10_substitute 75 = .ok (.invokevirtual 65, 3) := by decide +kernel
theorem dX10_substitute_78 : decode cX10_substitute 78 = .ok (.aload_n 0, 1) := by decide +kernel
theorem dX10_substitute_79 : decode cX10_substitute 79 = .ok (.getfield 12, 3) := by decide +kernel
theorem dX10_substitute_82 : decode cX10_substitute 82 = .ok (.getfield 69, 3) := by decide +kernel
theorem dX10_substitute_85 : decode cX10_substitute 85 = .ok (.iload_n 1, 1) := by decide +kernel
theorem dX10_substitute_86 : decode cX10_substitute 86 = .ok (.aaload, 1) := by decide +kernel
theorem dX10_substitute_87 : decode cX10_substitute 87 = .ok (.astore 5, 2) := by decide +kernel
theorem dX10_substitute_89 : decode cX10_substitute 89 = .ok (.aload 5, 2) := by decide +kernel
theorem dX10_substitute_91 : decode cX10_substitute 91 = .ok (.getfield 101, 3) := by decide +kernel
theorem dX10_substitute_94 : decode cX10_substitute 94 = .ok (.istore 6, 2) := by decide +kernel
theorem dX10_substitute_96 : decode cX10_substitute 96 = .ok (.aload 5, 2) := by decide +kernel
theorem dX10_substitute_98 : decode cX10_substitute 98 = .ok (.iload_n 2, 1) := by decide +kernel
theorem dX10_substitute_99 : decode cX10_substitute 99 = .ok (.putfield 101, 3) := by decide +kernel
theorem dX10_substitute_102 : decode cX10_substitute 102 = .ok (.aload 5, 2) := by decide +kernel
theorem dX10_substitute_104 : decode cX10_substitute 104 = .ok (.iload 4, 2) := by decide +kernel
theorem dX10_substitute_106 : decode cX10_substitute 106 = .ok (.ifCond .eq 7, 3) := by decide +kernel
theorem dX10_substitute_109 : decode cX10_substitute 109 = .ok (.iload_n 3, 1) := by decide +kernel
theorem dX10_substitute_110 : decode cX10_substitute 110 = .ok (.goto 5, 3) := by decide +kernel
theorem dX10_substitute_113 : decode cX10_substitute 113 = .ok (.bipush (-6), 2) := by decide +kernel
theorem dX10_substitute_115 : decode cX10_substitute 115 = .ok (.putfield 104, 3) := by decide +kernel
theorem dX10_substitute_118 : decode cX10_substitute 118 = .ok (.iload 6, 2) := by decide +kernel
theorem dX10_substitute_120 : decode cX10_substitute 120 = .ok (.ireturn, 1) := by decide +kernel
theorem dX10_stock_0 : decode cX10_stock 0 = .ok (.aload_n 0, 1) := by decide +kernel
theorem dX10_stock_1 : decode cX10_stock 1 = .ok (.getfield 12, 3) := by decide +kernel
theorem dX10_stock_4 : decode cX10_stock 4 = .ok (.iload_n 1, 1) := by decide +kernel
theorem dX10_stock_5 : decode cX10_stock 5 = .ok (.invokevirtual 79, 3) := by decide +kernel
theorem dX10_stock_8 : decode cX10_stock 8 = .ok (.ifCond .ne 5, 3) := by decide +kernel
theorem dX10_stock_11 : decode cX10_stock 11 = .ok (.iconst (-1), 1) := by decide +kernel
theorem dX10_stock_12 : decode cX10_stock 12 = .ok (.ireturn, 1) := by decide +kernel
theorem dX10_stock_13 : decode cX10_stock 13 = .ok (.iload_n 2, 1) := by decide +kernel
theorem dX10_stock_14 : decode cX10_stock 14 = .ok (.iconst 1, 1) := by decide +kernel
theorem dX10_stock_15 : decode cX10_stock 15 = .ok (.sipush 20000, 3) := by decide +kernel
theorem dX10_stock_18 : decode cX10_stock 18 = .ok (.invokestatic 57, 3) := by decide +kernel
theorem dX10_stock_21 : decode cX10_stock 21 = .ok (.ifCond .ne 6, 3) := by decide +kernel
theorem dX10_stock_24 : decode cX10_stock 24 = .ok (.bipush (-2), 2) := by decide +kernel
theorem dX10_stock_26 : decode cX10_stock 26 = .ok (.ireturn, 1) := by decide +kernel
theorem dX10_stock_27 : decode cX10_stock 27 = .ok (.aload_n 0, 1) := by decide +kernel
theorem dX10_stock_28 : decode cX10_stock 28 = .ok (.getfield 12, 3) := by decide +kernel
theorem dX10_stock_31 : decode cX10_stock 31 = .ok (.getfield 69, 3) := by decide +kernel
theorem dX10_stock_34 : decode cX10_stock 34 = .ok (.iload_n 1, 1) := by decide +kernel
theorem dX10_stock_35 : decode cX10_stock 35 = .ok (.aaload, 1) := by decide +kernel
theorem dX10_stock_36 : decode cX10_stock 36 = .ok (.astore_n 3, 1) := by decide +kernel
theorem dX10_stock_37 : decode cX10_stock 37 = .ok (.aload_n 3, 1) := by decide +kernel
theorem dX10_stock_38 : decode cX10_stock 38 = .ok (.invokevirtual 107, 3) := by decide +kernel
theorem dX10_stock_41 : decode cX10_stock 41 = .ok (.iload_n 2, 1) := by decide +kernel
theorem dX10_stock_42 : decode cX10_stock 42 = .ok (.iadd, 1) := by decide +kernel
theorem dX10_stock_43 : decode cX10_stock 43 = .ok (.istore 4, 2) := by decide +kernel
theorem dX10_stock_45 : decode cX10_stock 45 = .ok (.iload 4, 2) := by decide +kernel
theorem dX10_stock_47 : decode cX10_stock 47 = .ok (.ldc 111, 2) := by decide +kernel
theorem dX10_stock_49 : decode cX10_stock 49 = .ok (.if_icmp .le 6, 3) := by decide +kernel
theorem dX10_stock_52 : decode cX10_stock 52 = .ok (.bipush (-5), 2) := by decide +kernel
theorem dX10_stock_54 : decode cX10_stock 54 = .ok (.ireturn, 1) := by decide +kernel
theorem dX10_stock_55 : decode cX10_stock 55 = .ok (.aload_n 0, 1) := by decide +kernel
theorem dX10_stock_56 : decode cX10_stock 56 = .ok (.getfield 19, 3) := by decide +kernel
theorem dX10_stock_59 : decode cX10_stock 59 = .ok (.aload_n 0, 1) := by decide +kernel
theorem dX10_stock_60 : decode cX10_stock 60 = .ok (.getfield 12, 3) := by decide +kernel
theorem dX10_stock_63 : decode cX10_stock 63 = .ok (.invokevirtual 65, 3) := by decide +kernel
theorem dX10_stock_66 : decode cX10_stock 66 = .ok (.aload_n 3, 1) := by decide +kernel
theorem dX10_stock_67 : decode cX10_stock 67 = .ok (.aload_n 0, 1) := by decide +kernel
theorem dX10_stock_68 : decode cX10_stock 68 = .ok (.getfield 12, 3) := by decide +kernel
theorem dX10_stock_71 : decode cX10_stock 71 = .ok (.getfield 112, 3) := by decide +kernel
theorem dX10_stock_74 : decode cX10_stock 74 = .ok (.iload_n 2, 1) := by decide +kernel
theorem dX10_stock_75 : decode cX10_stock 75 = .ok (.invokevirtual 115, 3) := by decide +kernel
theorem dX10_stock_78 : decode cX10_stock 78 = .ok (.aload_n 3, 1) := by decide +kernel
theorem dX10_stock_79 : decode cX10_stock 79 = .ok (.dup, 1) := by decide +kernel
theorem dX10_stock_80 : decode cX10_stock 80 = .ok (.getfield 118, 3) := by decide +kernel
theorem dX10_stock_83 : decode cX10_stock 83 = .ok (.iload_n 2, 1) := by decide +kernel
theorem dX10_stock_84 : decode cX10_stock 84 = .ok (.iadd, 1) := by decide +kernel
theorem dX10_stock_85 : decode cX10_stock 85 = .ok (.putfield 118, 3) := by decide +kernel
theorem dX10_stock_88 : decode cX10_stock 88 = .ok (.iload 4, 2) := by decide +kernel
theorem dX10_stock_90 : decode cX10_stock 90 = .ok (.ireturn, 1) := by decide +kernel
theorem dX10_recipe_0 : decode cX10_recipe 0 = .ok (.aload_n 0, 1) := by decide +kernel
theorem dX10_recipe_1 : decode cX10_recipe 1 = .ok (.getfield 34, 3) := by decide +kernel
theorem dX10_recipe_4 : decode cX10_recipe 4 = .ok (.invokevirtual 121, 3) := by decide +kernel
theorem dX10_recipe_7 : decode cX10_recipe 7 = .ok (.bipush (-6), 2) := by decide +kernel
theorem dX10_recipe_9 : decode cX10_recipe 9 = .ok (.if_icmp .eq 6, 3) := by decide +kernel
theorem dX10_recipe_12 : decode cX10_recipe 12 = .ok (.bipush (-3), 2) := by decide +kernel
theorem dX10_recipe_14 : decode cX10_recipe 14 = .ok (.ireturn, 1) := by decide +kernel
theorem dX10_recipe_15 : decode cX10_recipe 15 = .ok (.aload_n 0, 1) := by decide +kernel
theorem dX10_recipe_16 : decode cX10_recipe 16 = .ok (.getfield 12, 3) := by decide +kernel
theorem dX10_recipe_19 : decode cX10_recipe 19 = .ok (.getfield 124, 3) := by decide +kernel
theorem dX10_recipe_22 : decode cX10_recipe 22 = .ok (.istore_n 1, 1) := by decide +kernel
theorem dX10_recipe_23 : decode cX10_recipe 23 = .ok (.iload_n 1, 1) := by decide +kernel
theorem dX10_recipe_24 : decode cX10_recipe 24 = .ok (.iconst 4, 1) := by decide +kernel
theorem dX10_recipe_25 : decode cX10_recipe 25 = .ok (.if_icmp .lt 6, 3) := by decide +kernel
theorem dX10_recipe_28 : decode cX10_recipe 28 = .ok (.bipush (-4), 2) := by decide +kernel
theorem dX10_recipe_30 : decode cX10_recipe 30 = .ok (.ireturn, 1) := by decide +kernel
theorem dX10_recipe_31 : decode cX10_recipe 31 = .ok (.aload_n 0, 1) := by decide +kernel
theorem dX10_recipe_32 : decode cX10_recipe 32 = .ok (.getfield 34, 3) := by decide +kernel
theorem dX10_recipe_35 : decode cX10_recipe 35 = .ok (.getfield 127, 3) := by decide +kernel
theorem dX10_recipe_38 : decode cX10_recipe 38 = .ok (.aload_n 0, 1) := by decide +kernel
theorem dX10_recipe_39 : decode cX10_recipe 39 = .ok (.getfield 12, 3) := by decide +kernel
theorem dX10_recipe_42 : decode cX10_recipe 42 = .ok (.getfield 61, 3) := by decide +kernel
theorem dX10_recipe_45 : decode cX10_recipe 45 = .ok (.invokevirtual 131, 3) := by decide +kernel
theorem dX10_recipe_48 : decode cX10_recipe 48 = .ok (.ifCond .eq 6, 3) := by decide +kernel
theorem dX10_recipe_51 : decode cX10_recipe 51 = .ok (.bipush (-5), 2) := by decide +kernel
theorem dX10_recipe_53 : decode cX10_recipe 53 = .ok (.ireturn, 1) := by decide +kernel
theorem dX10_recipe_54 : decode cX10_recipe 54 = .ok (.aload_n 0, 1) := by decide +kernel
theorem dX10_recipe_55 : decode cX10_recipe 55 = .ok (.getfield 19, 3) := by decide +kernel
theorem dX10_recipe_58 : decode cX10_recipe 58 = .ok (.aload_n 0, 1) := by decide +kernel
theorem dX10_recipe_59 : decode cX10_recipe 59 = .ok (.getfield 12, 3) := by decide +kernel
theorem dX10_recipe_62 : decode cX10_recipe 62 = .ok (.invokevirtual 65, 3) := by decide +kernel
theorem dX10_recipe_65 : decode cX10_recipe 65 = .ok (.aload_n 0, 1) := by decide +kernel
theorem dX10_recipe_66 : decode cX10_recipe 66 = .ok (.getfield 12, 3) := by decide +kernel
theorem dX10_recipe_69 : decode cX10_recipe 69 = .ok (.getfield 136, 3) := by decide +kernel
theorem dX10_recipe_72 : decode cX10_recipe 72 = .ok (.iload_n 1, 1) := by decide +kernel
theorem dX10_recipe_73 : decode cX10_recipe 73 = .ok (.aaload, 1) := by decide +kernel
theorem dX10_recipe_74 : decode cX10_recipe 74 = .ok (.aload_n 0, 1) := by decide +kernel
theorem dX10_recipe_75 : decode cX10_recipe 75 = .ok (.getfield 34, 3) := by decide +kernel
theorem dX10_recipe_78 : decode cX10_recipe 78 = .ok (.getfield 127, 3) := by decide +kernel
theorem dX10_recipe_81 : decode cX10_recipe 81 = .ok (.invokevirtual 140, 3) := by decide +kernel
theorem dX10_recipe_84 : decode cX10_recipe 84 = .ok (.aload_n 0, 1) := by decide +kernel
theorem dX10_recipe_85 : decode cX10_recipe 85 = .ok (.getfield 12, 3) := by decide +kernel
theorem dX10_recipe_88 : decode cX10_recipe 88 = .ok (.iload_n 1, 1) := by decide +kernel
theorem dX10_recipe_89 : decode cX10_recipe 89 = .ok (.iconst 1, 1) := by decide +kernel
theorem dX10_recipe_90 : decode cX10_recipe 90 = .ok (.iadd, 1) := by decide +kernel
theorem dX10_recipe_91 : decode cX10_recipe 91 = .ok (.putfield 124, 3) := by decide +kernel
theorem dX10_recipe_94 : decode cX10_recipe 94 = .ok (.aload_n 0, 1) := by decide +kernel
theorem dX10_recipe_95 : decode cX10_recipe 95 = .ok (.getfield 42, 3) := by decide +kernel
theorem dX10_recipe_98 : decode cX10_recipe 98 = .ok (.iconst 0, 1) := by decide +kernel
theorem dX10_recipe_99 : decode cX10_recipe 99 = .ok (.putfield 144, 3) := by decide +kernel
theorem dX10_recipe_102 : decode cX10_recipe 102 = .ok (.iload_n 1, 1) := by decide +kernel
theorem dX10_recipe_103 : decode cX10_recipe 103 = .ok (.ireturn, 1) := by decide +kernel
theorem dX10_amount_0 : decode cX10_amount 0 = .ok (.aload_n 0, 1) := by decide +kernel
theorem dX10_amount_1 : decode cX10_amount 1 = .ok (.getfield 12, 3) := by decide +kernel
theorem dX10_amount_4 : decode cX10_amount 4 = .ok (.iload_n 1, 1) := by decide +kernel
theorem dX10_amount_5 : decode cX10_amount 5 = .ok (.invokevirtual 149, 3) := by decide +kernel
theorem dX10_amount_8 : decode cX10_amount 8 = .ok (.ifCond .eq 14, 3) := by decide +kernel
theorem dX10_amount_11 : decode cX10_amount 11 = .ok (.aload_n 0, 1) := by decide +kernel
theorem dX10_amount_12 : decode cX10_amount 12 = .ok (.getfield 12, 3) := by decide +kernel
theorem dX10_amount_15 : decode cX10_amount 15 = .ok (.iload_n 2, 1) := by decide +kernel
theorem dX10_amount_16 : decode cX10_amount 16 = .ok (.invokevirtual 79, 3) := by decide +kernel
theorem dX10_amount_19 : decode cX10_amount 19 = .ok (.ifCond .ne 5, 3) := by decide +kernel
theorem dX10_amount_22 : decode cX10_amount 22 = .ok (.iconst (-1), 1) := by decide +kernel
theorem dX10_amount_23 : decode cX10_amount 23 = .ok (.ireturn, 1) := by decide +kernel
theorem dX10_amount_24 : decode cX10_amount 24 = .ok (.iload_n 3, 1) := by decide +kernel
theorem dX10_amount_25 : decode cX10_amount 25 = .ok (.iconst 0, 1) := by decide +kernel
theorem dX10_amount_26 : decode cX10_amount 26 = .ok (.sipush 500, 3) := by decide +kernel
theorem dX10_amount_29 : decode cX10_amount 29 = .ok (.invokestatic 57, 3) := by decide +kernel
theorem dX10_amount_32 : decode cX10_amount 32 = .ok (.ifCond .ne 6, 3) := by decide +kernel
theorem dX10_amount_35 : decode cX10_amount 35 = .ok (.bipush (-2), 2) := by decide +kernel
theorem dX10_amount_37 : decode cX10_amount 37 = .ok (.ireturn, 1) := by decide +kernel
theorem dX10_amount_38 : decode cX10_amount 38 = .ok (.aload_n 0, 1) := by decide +kernel
theorem dX10_amount_39 : decode cX10_amount 39 = .ok (.getfield 19, 3) := by decide +kernel
theorem dX10_amount_42 : decode cX10_amount 42 = .ok (.aload_n 0, 1) := by decide +kernel
theorem dX10_amount_43 : decode cX10_amount 43 = .ok (.getfield 12, 3) := by decide +kernel
theorem dX10_amount_46 : decode cX10_amount 46 = .ok (.invokevirtual 65, 3) := by decide +kernel
theorem dX10_amount_49 : decode cX10_amount 49 = .ok (.aload_n 0, 1) := by decide +kernel
theorem dX10_amount_50 : decode cX10_amount 50 = .ok (.getfield 12, 3) := by decide +kernel
theorem dX10_amount_53 : decode cX10_amount 53 = .ok (.getfield 136, 3) := by decide +kernel
theorem dX10_amount_56 : decode cX10_amount 56 = .ok (.iload_n 1, 1) := by decide +kernel
theorem dX10_amount_57 : decode cX10_amount 57 = .ok (.aaload, 1) := by decide +kernel
theorem dX10_amount_58 : decode cX10_amount 58 = .ok (.getfield 152, 3) := by decide +kernel
theorem dX10_amount_61 : decode cX10_amount 61 = .ok (.astore 4, 2) := by decide +kernel
theorem dX10_amount_63 : decode cX10_amount 63 = .ok (.aload 4, 2) := by decide +kernel
theorem dX10_amount_65 : decode cX10_amount 65 = .ok (.iload_n 2, 1) := by decide +kernel
theorem dX10_amount_66 : decode cX10_amount 66 = .ok (.iaload, 1) := by decide +kernel
theorem dX10_amount_67 : decode cX10_amount 67 = .ok (.istore 5, 2) := by decide +kernel
theorem dX10_amount_69 : decode cX10_amount 69 = .ok (.aload 4, 2) := by decide +kernel
theorem dX10_amount_71 : decode cX10_amount 71 = .ok (.iload_n 2, 1) := by decide +kernel
theorem dX10_amount_72 : decode cX10_amount 72 = .ok (.iload_n 3, 1) := by decide +kernel
theorem dX10_amount_73 : decode cX10_amount 73 = .ok (.iastore, 1) := by decide +kernel
theorem dX10_amount_74 : decode cX10_amount 74 = .ok (.iload 5, 2) := by decide +kernel
theorem dX10_amount_76 : decode cX10_amount 76 = .ok (.ireturn, 1) := by decide +kernel
theorem dX10_menu_0 : decode cX10_menu 0 = .ok (.aload_n 0, 1) := by decide +kernel
theorem dX10_menu_1 : decode cX10_menu 1 = .ok (.getfield 12, 3) := by decide +kernel
theorem dX10_menu_4 : decode cX10_menu 4 = .ok (.iload_n 1, 1) := by decide +kernel
theorem dX10_menu_5 : decode cX10_menu 5 = .ok (.invokevirtual 149, 3) := by decide +kernel
theorem dX10_menu_8 : decode cX10_menu 8 = .ok (.ifCond .ne 5, 3) := by decide +kernel
theorem dX10_menu_11 : decode cX10_menu 11 = .ok (.iconst (-1), 1) := by decide +kernel
theorem dX10_menu_12 : decode cX10_menu 12 = .ok (.ireturn, 1) := by decide +kernel
theorem dX10_menu_13 : decode cX10_menu 13 = .ok (.iload_n 2, 1) := by decide +kernel
theorem dX10_menu_14 : decode cX10_menu 14 = .ok (.iconst 0, 1) := by decide +kernel
theorem dX10_menu_15 : decode cX10_menu 15 = .ok (.bipush 20, 2) := by decide +kernel
theorem dX10_menu_17 : decode cX10_menu 17 = .ok (.invokestatic 57, 3) := by decide +kernel
theorem dX10_menu_20 : decode cX10_menu 20 = .ok (.ifCond .ne 6, 3) := by decide +kernel
theorem dX10_menu_23 : decode cX10_menu 23 = .ok (.bipush (-2), 2) := by decide +kernel
theorem dX10_menu_25 : decode cX10_menu 25 = .ok (.ireturn, 1) := by decide +kernel
theorem dX10_menu_26 : decode cX10_menu 26 = .ok (.aload_n 0, 1) := by decide +kernel
theorem dX10_menu_27 : decode cX10_menu 27 = .ok (.getfield 19, 3) := by decide +kernel
theorem dX10_menu_30 : decode cX10_menu 30 = .ok (.aload_n 0, 1) := by decide +kernel
theorem dX10_menu_31 : decode cX10_menu 31 = .ok (.getfield 12, 3) := by decide +kernel
theorem dX10_menu_34 : decode cX10_menu 34 = .ok (.invokevirtual 65, 3) := by decide +kernel
theorem dX10_menu_37 : decode cX10_menu 37 = .ok (.aload_n 0, 1) := by decide +kernel
theorem dX10_menu_38 : decode cX10_menu 38 = .ok (.getfield 12, 3) := by decide +kernel
theorem dX10_menu_41 : decode cX10_menu 41 = .ok (.getfield 136, 3) := by decide +kernel
theorem dX10_menu_44 : decode cX10_menu 44 = .ok (.iload_n 1, 1) := by decide +kernel
theorem dX10_menu_45 : decode cX10_menu 45 = .ok (.aaload, 1) := by decide +kernel
theorem dX10_menu_46 : decode cX10_menu 46 = .ok (.getfield 156, 3) := by decide +kernel
theorem dX10_menu_49 : decode cX10_menu 49 = .ok (.istore_n 3, 1) := by decide +kernel
theorem dX10_menu_50 : decode cX10_menu 50 = .ok (.aload_n 0, 1) := by decide +kernel
theorem dX10_menu_51 : decode cX10_menu 51 = .ok (.getfield 12, 3) := by decide +kernel
theorem dX10_menu_54 : decode cX10_menu 54 = .ok (.getfield 136, 3) := by decide +kernel
theorem dX10_menu_57 : decode cX10_menu 57 = .ok (.iload_n 1, 1) := by decide +kernel
theorem dX10_menu_58 : decode cX10_menu 58 = .ok (.aaload, 1) := by decide +kernel
theorem dX10_menu_59 : decode cX10_menu 59 = .ok (.iload_n 2, 1) := by decide +kernel
theorem dX10_menu_60 : decode cX10_menu 60 = .ok (.putfield 156, 3) := by decide +kernel
theorem dX10_menu_63 : decode cX10_menu 63 = .ok (.iload_n 3, 1) := by decide +kernel
theorem dX10_menu_64 : decode cX10_menu 64 = .ok (.ireturn, 1) := by decide +kernel
theorem dX10_hands_0 : decode cX10_hands 0 = .ok (.iload_n 1, 1) := by decide +kernel
theorem dX10_hands_1 : decode cX10_hands 1 = .ok (.iconst 1, 1) := by decide +kernel
theorem dX10_hands_2 : decode cX10_hands 2 = .ok (.bipush 6, 2) := by decide +kernel
theorem dX10_hands_4 : decode cX10_hands 4 = .ok (.invokestatic 57, 3) := by decide +kernel
theorem dX10_hands_7 : decode cX10_hands 7 = .ok (.ifCond .ne 6, 3) := by decide +kernel
theorem dX10_hands_10 : decode cX10_hands 10 = .ok (.bipush (-2), 2) := by decide +kernel
theorem dX10_hands_12 : decode cX10_hands 12 = .ok (.ireturn, 1) := by decide +kernel
theorem dX10_hands_13 : decode cX10_hands 13 = .ok (.aload_n 0, 1) := by decide +kernel
theorem dX10_hands_14 : decode cX10_hands 14 = .ok (.getfield 19, 3) := by decide +kernel
theorem dX10_hands_17 : decode cX10_hands 17 = .ok (.aload_n 0, 1) := by decide +kernel
theorem dX10_hands_18 : decode cX10_hands 18 = .ok (.getfield 12, 3) := by decide +kernel
theorem dX10_hands_21 : decode cX10_hands 21 = .ok (.invokevirtual 65, 3) := by decide +kernel
theorem dX10_hands_24 : decode cX10_hands 24 = .ok (.aload_n 0, 1) := by decide +kernel
theorem dX10_hands_25 : decode cX10_hands 25 = .ok (.getfield 12, 3) := by decide +kernel
theorem dX10_hands_28 : decode cX10_hands 28 = .ok (.getfield 159, 3) := by decide +kernel
theorem dX10_hands_31 : decode cX10_hands 31 = .ok (.istore_n 2, 1) := by decide +kernel
theorem dX10_hands_32 : decode cX10_hands 32 = .ok (.aload_n 0, 1) := by decide +kernel
theorem dX10_hands_33 : decode cX10_hands 33 = .ok (.getfield 12, 3) := by decide +kernel
theorem dX10_hands_36 : decode cX10_hands 36 = .ok (.iload_n 1, 1) := by decide +kernel
theorem dX10_hands_37 : decode cX10_hands 37 = .ok (.putfield 159, 3) := by decide +kernel
theorem dX10_hands_40 : decode cX10_hands 40 = .ok (.iload_n 2, 1) := by decide +kernel
theorem dX10_hands_41 : decode cX10_hands 41 = .ok (.ireturn, 1) := by decide +kernel
theorem dX10_cook_0 : decode cX10_cook 0 = .ok (.aload_n 0, 1) := by decide +kernel
theorem dX10_cook_1 : decode cX10_cook 1 = .ok (.getfield 46, 3) := by decide +kernel
theorem dX10_cook_4 : decode cX10_cook 4 = .ok (.aload_n 0, 1) := by decide +kernel
theorem dX10_cook_5 : decode cX10_cook 5 = .ok (.getfield 12, 3) := by decide +kernel
theorem dX10_cook_8 : decode cX10_cook 8 = .ok (.invokevirtual 162, 3) := by decide +kernel
theorem dX10_cook_11 : decode cX10_cook 11 = .ok (.aload_n 0, 1) := by decide +kernel
theorem dX10_cook_12 : decode cX10_cook 12 = .ok (.invokevirtual 165, 3) := by decide +kernel
theorem dX10_cook_15 : decode cX10_cook 15 = .ok (.ifCond .ne 6, 3) := by decide +kernel
theorem dX10_cook_18 : decode cX10_cook 18 = .ok (.bipush (-5), 2) := by decide +kernel
theorem dX10_cook_20 : decode cX10_cook 20 = .ok (.ireturn, 1) := by decide +kernel
theorem dX10_cook_21 : decode cX10_cook 21 = .ok (.aload_n 0, 1) := by decide +kernel
theorem dX10_cook_22 : decode cX10_cook 22 = .ok (.getfield 19, 3) := by decide +kernel
theorem dX10_cook_25 : decode cX10_cook 25 = .ok (.aload_n 0, 1) := by decide +kernel
theorem dX10_cook_26 : decode cX10_cook 26 = .ok (.getfield 12, 3) := by decide +kernel
theorem dX10_cook_29 : decode cX10_cook 29 = .ok (.invokevirtual 65, 3) := by decide +kernel
theorem dX10_cook_32 : decode cX10_cook 32 = .ok (.aload_n 0, 1) := by decide +kernel
theorem dX10_cook_33 : decode cX10_cook 33 = .ok (.getfield 46, 3) := by decide +kernel
theorem dX10_cook_36 : decode cX10_cook 36 = .ok (.aload_n 0, 1) := by decide +kernel
theorem dX10_cook_37 : decode cX10_cook 37 = .ok (.getfield 12, 3) := by decide +kernel
theorem dX10_cook_40 : decode cX10_cook 40 = .ok (.invokevirtual 169, 3) := by decide +kernel
theorem dX10_cook_43 : decode cX10_cook 43 = .ok (.aload_n 0, 1) := by decide +kernel
theorem dX10_cook_44 : decode cX10_cook 44 = .ok (.getfield 46, 3) := by decide +kernel
theorem dX10_cook_47 : decode cX10_cook 47 = .ok (.invokevirtual 172, 3) := by decide +kernel
theorem dX10_cook_50 : decode cX10_cook 50 = .ok (.istore_n 1, 1) := by decide +kernel
theorem dX10_cook_51 : decode cX10_cook 51 = .ok (.aload_n 0, 1) := by decide +kernel
theorem dX10_cook_52 : decode cX10_cook 52 = .ok (.getfield 12, 3) := by decide +kernel
theorem dX10_cook_55 : decode cX10_cook 55 = .ok (.dup, 1) := by decide +kernel
theorem dX10_cook_56 : decode cX10_cook 56 = .ok (.getfield 175, 3) := by decide +kernel
theorem dX10_cook_59 : decode cX10_cook 59 = .ok (.iload_n 1, 1) := by decide +kernel
theorem dX10_cook_60 : decode cX10_cook 60 = .ok (.iadd, 1) := by decide +kernel
theorem dX10_cook_61 : decode cX10_cook 61 = .ok (.putfield 175, 3) := by decide +kernel
theorem dX10_cook_64 : decode cX10_cook 64 = .ok (.aload_n 0, 1) := by decide +kernel
theorem dX10_cook_65 : decode cX10_cook 65 = .ok (.getfield 12, 3) := by decide +kernel
theorem dX10_cook_68 : decode cX10_cook 68 = .ok (.dup, 1) := by decide +kernel
theorem dX10_cook_69 : decode cX10_cook 69 = .ok (.getfield 178, 3) := by decide +kernel
theorem dX10_cook_72 : decode cX10_cook 72 = .ok (.iconst 1, 1) := by decide +kernel
theorem dX10_cook_73 : decode cX10_cook 73 = .ok (.iadd, 1) := by decide +kernel
theorem dX10_cook_74 : decode cX10_cook 74 = .ok (.putfield 178, 3) := by decide +kernel
theorem dX10_cook_77 : decode cX10_cook 77 = .ok (.aload_n 0, 1) := by decide +kernel
theorem dX10_cook_78 : decode cX10_cook 78 = .ok (.getfield 12, 3) := by decide +kernel
theorem dX10_cook_81 : decode cX10_cook 81 = .ok (.invokevirtual 181, 3) := by decide +kernel
theorem dX10_cook_84 : decode cX10_cook 84 = .ok (.iload_n 1, 1) := by decide +kernel
theorem dX10_cook_85 : decode cX10_cook 85 = .ok (.ireturn, 1) := by decide +kernel
theorem dX10_pass_0 : decode cX10_pass 0 = .ok (.iload_n 1, 1) := by decide +kernel
theorem dX10_pass_1 : decode cX10_pass 1 = .ok (.iconst 1, 1) := by decide +kernel
theorem dX10_pass_2 : decode cX10_pass 2 = .ok (.bipush 60, 2) := by decide +kernel
theorem dX10_pass_4 : decode cX10_pass 4 = .ok (.invokestatic 57, 3) := by decide +kernel
theorem dX10_pass_7 : decode cX10_pass 7 = .ok (.ifCond .ne 6, 3) := by decide +kernel
theorem dX10_pass_10 : decode cX10_pass 10 = .ok (.bipush (-2), 2) := by decide +kernel
theorem dX10_pass_12 : decode cX10_pass 12 = .ok (.ireturn, 1) := by decide +kernel
theorem dX10_pass_13 : decode cX10_pass 13 = .ok (.aload_n 0, 1) := by decide +kernel
theorem dX10_pass_14 : decode cX10_pass 14 = .ok (.getfield 12, 3) := by decide +kernel
theorem dX10_pass_17 : decode cX10_pass 17 = .ok (.getfield 112, 3) := by decide +kernel
theorem dX10_pass_20 : decode cX10_pass 20 = .ok (.iload_n 1, 1) := by decide +kernel
theorem dX10_pass_21 : decode cX10_pass 21 = .ok (.iadd, 1) := by decide +kernel
theorem dX10_pass_22 : decode cX10_pass 22 = .ok (.sipush 3000, 3) := by decide +kernel
theorem dX10_pass_25 : decode cX10_pass 25 = .ok (.if_icmp .le 6, 3) := by decide +kernel
theorem dX10_pass_28 : decode cX10_pass 28 = .ok (.bipush (-5), 2) := by decide +kernel
theorem dX10_pass_30 : decode cX10_pass 30 = .ok (.ireturn, 1) := by decide +kernel
theorem dX10_pass_31 : decode cX10_pass 31 = .ok (.aload_n 0, 1) := by decide +kernel
theorem dX10_pass_32 : decode cX10_pass 32 = .ok (.getfield 19, 3) := by decide +kernel
theorem dX10_pass_35 : decode cX10_pass 35 = .ok (.aload_n 0, 1) := by decide +kernel
theorem dX10_pass_36 : decode cX10_pass 36 = .ok (.getfield 12, 3) := by decide +kernel
theorem dX10_pass_39 : decode cX10_pass 39 = .ok (.invokevirtual 65, 3) := by decide +kernel
theorem dX10_pass_42 : decode cX10_pass 42 = .ok (.aload_n 0, 1) := by decide +kernel
theorem dX10_pass_43 : decode cX10_pass 43 = .ok (.getfield 12, 3) := by decide +kernel
theorem dX10_pass_46 : decode cX10_pass 46 = .ok (.iload_n 1, 1) := by decide +kernel
theorem dX10_pass_47 : decode cX10_pass 47 = .ok (.invokevirtual 184, 3) := by decide +kernel
theorem dX10_pass_50 : decode cX10_pass 50 = .ok (.ireturn, 1) := by decide +kernel
theorem dX10_about_0 : decode cX10_about 0 = .ok (.aload_n 0, 1) := by decide +kernel
theorem dX10_about_1 : decode cX10_about 1 = .ok (.getfield 12, 3) := by decide +kernel
theorem dX10_about_4 : decode cX10_about 4 = .ok (.iload_n 1, 1) := by decide +kernel
theorem dX10_about_5 : decode cX10_about 5 = .ok (.invokevirtual 79, 3) := by decide +kernel
theorem dX10_about_8 : decode cX10_about 8 = .ok (.ifCond .ne 5, 3) := by decide +kernel
theorem dX10_about_11 : decode cX10_about 11 = .ok (.iconst (-1), 1) := by decide +kernel
theorem dX10_about_12 : decode cX10_about 12 = .ok (.ireturn, 1) := by decide +kernel
theorem dX10_about_13 : decode cX10_about 13 = .ok (.aload_n 0, 1) := by decide +kernel
theorem dX10_about_14 : decode cX10_about 14 = .ok (.getfield 12, 3) := by decide +kernel
theorem dX10_about_17 : decode cX10_about 17 = .ok (.getfield 69, 3) := by decide +kernel
theorem dX10_about_20 : decode cX10_about 20 = .ok (.iload_n 1, 1) := by decide +kernel
theorem dX10_about_21 : decode cX10_about 21 = .ok (.aaload, 1) := by decide +kernel
theorem dX10_about_22 : decode cX10_about 22 = .ok (.astore_n 3, 1) := by decide +kernel
theorem dX10_about_23 : decode cX10_about 23 = .ok (.iload_n 2, 1) := by decide +kernel
theorem dX10_about_24 : decode cX10_about 24 = .ok (.tableswitch 134 0 11 #[64, 69, 77, 82, 87, 92, 97, 102, 114, 119, 124, 129], 64) := by decide +kernel
theorem dX10_about_88 : decode cX10_about 88 = .ok (.aload_n 3, 1) := by decide +kernel
theorem dX10_about_89 : decode cX10_about 89 = .ok (.getfield 188, 3) := by decide +kernel
theorem dX10_about_92 : decode cX10_about 92 = .ok (.ireturn, 1) := by decide +kernel
theorem dX10_about_93 : decode cX10_about 93 = .ok (.aload_n 3, 1) := by decide +kernel
theorem dX10_about_94 : decode cX10_about 94 = .ok (.getfield 93, 3) := by decide +kernel
theorem dX10_about_97 : decode cX10_about 97 = .ok (.invokestatic 97, 3) := by decide +kernel
theorem dX10_about_100 : decode cX10_about 100 = .ok (.ireturn, 1) := by decide +kernel
theorem dX10_about_101 : decode cX10_about 101 = .ok (.aload_n 3, 1) := by decide +kernel
theorem dX10_about_102 : decode cX10_about 102 = .ok (.getfield 83, 3) := by decide +kernel
theorem dX10_about_105 : decode cX10_about 105 = .ok (.ireturn, 1) := by decide +kernel
theorem dX10_about_106 : decode cX10_about 106 = .ok (.aload_n 3, 1) := by decide +kernel
theorem dX10_about_107 : decode cX10_about 107 = .ok (.getfield 101, 3) := by decide +kernel
theorem dX10_about_110 : decode cX10_about 110 = .ok (.ireturn, 1) := by decide +kernel
theorem dX10_about_111 : decode cX10_about 111 = .ok (.aload_n 3, 1) := by decide +kernel
theorem dX10_about_112 : decode cX10_about 112 = .ok (.getfield 104, 3) := by decide +kernel
theorem dX10_about_115 : decode cX10_about 115 = .ok (.ireturn, 1) := by decide +kernel
theorem dX10_about_116 : decode cX10_about 116 = .ok (.aload_n 3, 1) := by decide +kernel
theorem dX10_about_117 : decode cX10_about 117 = .ok (.invokevirtual 107, 3) := by decide +kernel
theorem dX10_about_120 : decode cX10_about 120 = .ok (.ireturn, 1) := by decide +kernel
theorem dX10_about_121 : decode cX10_about 121 = .ok (.aload_n 3, 1) := by decide +kernel
theorem dX10_about_122 : decode cX10_about 122 = .ok (.invokevirtual 191, 3) := by decide +kernel
theorem dX10_about_125 : decode cX10_about 125 = .ok (.ireturn, 1) := by decide +kernel
theorem dX10_about_126 : decode cX10_about 126 = .ok (.aload_n 3, 1) := by decide +kernel
theorem dX10_about_127 : decode cX10_about 127 = .ok (.aload_n 0, 1) := by decide +kernel
theorem dX10_about_128 : decode cX10_about 128 = .ok (.getfield 12, 3) := by decide +kernel
theorem dX10_about_131 : decode cX10_about 131 = .ok (.getfield 112, 3) := by decide +kernel
theorem dX10_about_134 : decode cX10_about 134 = .ok (.invokevirtual 194, 3) := by decide +kernel
theorem dX10_about_137 : decode cX10_about 137 = .ok (.ireturn, 1) := by decide +kernel
theorem dX10_about_138 : decode cX10_about 138 = .ok (.aload_n 3, 1) := by decide +kernel
theorem dX10_about_139 : decode cX10_about 139 = .ok (.getfield 197, 3) := by decide +kernel
theorem dX10_about_142 : decode cX10_about 142 = .ok (.ireturn, 1) := by decide +kernel
theorem dX10_about_143 : decode cX10_about 143 = .ok (.aload_n 3, 1) := by decide +kernel
theorem dX10_about_144 : decode cX10_about 144 = .ok (.getfield 200, 3) := by decide +kernel
theorem dX10_about_147 : decode cX10_about 147 = .ok (.ireturn, 1) := by decide +kernel
theorem dX10_about_148 : decode cX10_about 148 = .ok (.aload_n 3, 1) := by decide +kernel
theorem dX10_about_149 : decode cX10_about 149 = .ok (.getfield 203, 3) := by decide +kernel
theorem dX10_about_152 : decode cX10_about 152 = .ok (.ireturn, 1) := by decide +kernel
theorem dX10_about_153 : decode cX10_about 153 = .ok (.aload_n 3, 1) := by decide +kernel
theorem dX10_about_154 : decode cX10_about 154 = .ok (.getfield 118, 3) := by decide +kernel
theorem dX10_about_157 : decode cX10_about 157 = .ok (.ireturn, 1) := by decide +kernel
theorem dX10_about_158 : decode cX10_about 158 = .ok (.bipush (-2), 2) := by decide +kernel
theorem dX10_about_160 : decode cX10_about 160 = .ok (.ireturn, 1) := by decide +kernel
theorem dX10_ofTin_0 : decode cX10_ofTin 0 = .ok (.aload_n 0, 1) := by decide +kernel
theorem dX10_ofTin_1 : decode cX10_ofTin 1 = .ok (.getfield 12, 3) := by decide +kernel
theorem dX10_ofTin_4 : decode cX10_ofTin 4 = .ok (.iload_n 1, 1) := by decide +kernel
theorem dX10_ofTin_5 : decode cX10_ofTin 5 = .ok (.invokevirtual 79, 3) := by decide +kernel
theorem dX10_ofTin_8 : decode cX10_ofTin 8 = .ok (.ifCond .eq 19, 3) := by decide +kernel
theorem dX10_ofTin_11 : decode cX10_ofTin 11 = .ok (.aload_n 0, 1) := by decide +kernel
theorem dX10_ofTin_12 : decode cX10_ofTin 12 = .ok (.getfield 12, 3) := by decide +kernel
theorem dX10_ofTin_15 : decode cX10_ofTin 15 = .ok (.getfield 69, 3) := by decide +kernel
theorem dX10_ofTin_18 : decode cX10_ofTin 18 = .ok (.iload_n 1, 1) := by decide +kernel
theorem dX10_ofTin_19 : decode cX10_ofTin 19 = .ok (.aaload, 1) := by decide +kernel
theorem dX10_ofTin_20 : decode cX10_ofTin 20 = .ok (.iload_n 2, 1) := by decide +kernel
theorem dX10_ofTin_21 : decode cX10_ofTin 21 = .ok (.invokevirtual 206, 3) := by decide +kernel
theorem dX10_ofTin_24 : decode cX10_ofTin 24 = .ok (.ifCond .ne 5, 3) := by decide +kernel
theorem dX10_ofTin_27 : decode cX10_ofTin 27 = .ok (.iconst (-1), 1) := by decide +kernel
theorem dX10_ofTin_28 : decode cX10_ofTin 28 = .ok (.ireturn, 1) := by decide +kernel
theorem dX10_ofTin_29 : decode cX10_ofTin 29 = .ok (.iload_n 3, 1) := by decide +kernel
theorem dX10_ofTin_30 : decode cX10_ofTin 30 = .ok (.tableswitch 79 0 2 #[26, 41, 56], 26) := by decide +kernel
theorem dX10_ofTin_56 : decode cX10_ofTin 56 = .ok (.aload_n 0, 1) := by decide +kernel
theorem dX10_ofTin_57 : decode cX10_ofTin 57 = .ok (.getfield 12, 3) := by decide +kernel
theorem dX10_ofTin_60 : decode cX10_ofTin 60 = .ok (.getfield 69, 3) := by decide +kernel
theorem dX10_ofTin_63 : decode cX10_ofTin 63 = .ok (.iload_n 1, 1) := by decide +kernel
theorem dX10_ofTin_64 : decode cX10_ofTin 64 = .ok (.aaload, 1) := by decide +kernel
theorem dX10_ofTin_65 : decode cX10_ofTin 65 = .ok (.getfield 209, 3) := by decide +kernel
theorem dX10_ofTin_68 : decode cX10_ofTin 68 = .ok (.iload_n 2, 1) := by decide +kernel
theorem dX10_ofTin_69 : decode cX10_ofTin 69 = .ok (.iaload, 1) := by decide +kernel
theorem dX10_ofTin_70 : decode cX10_ofTin 70 = .ok (.ireturn, 1) := by decide +kernel
theorem dX10_ofTin_71 : decode cX10_ofTin 71 = .ok (.aload_n 0, 1) := by decide +kernel
theorem dX10_ofTin_72 : decode cX10_ofTin 72 = .ok (.getfield 12, 3) := by decide +kernel
theorem dX10_ofTin_75 : decode cX10_ofTin 75 = .ok (.getfield 69, 3) := by decide +kernel
theorem dX10_ofTin_78 : decode cX10_ofTin 78 = .ok (.iload_n 1, 1) := by decide +kernel
theorem dX10_ofTin_79 : decode cX10_ofTin 79 = .ok (.aaload, 1) := by decide +kernel
theorem dX10_ofTin_80 : decode cX10_ofTin 80 = .ok (.getfield 212, 3) := by decide +kernel
theorem dX10_ofTin_83 : decode cX10_ofTin 83 = .ok (.iload_n 2, 1) := by decide +kernel
theorem dX10_ofTin_84 : decode cX10_ofTin 84 = .ok (.iaload, 1) := by decide +kernel
theorem dX10_ofTin_85 : decode cX10_ofTin 85 = .ok (.ireturn, 1) := by decide +kernel
theorem dX10_ofTin_86 : decode cX10_ofTin 86 = .ok (.aload_n 0, 1) := by decide +kernel
theorem dX10_ofTin_87 : decode cX10_ofTin 87 = .ok (.getfield 46, 3) := by decide +kernel
theorem dX10_ofTin_90 : decode cX10_ofTin 90 = .ok (.aload_n 0, 1) := by decide +kernel
theorem dX10_ofTin_91 : decode cX10_ofTin 91 = .ok (.getfield 12, 3) := by decide +kernel
theorem dX10_ofTin_94 : decode cX10_ofTin 94 = .ok (.invokevirtual 162, 3) := by decide +kernel
theorem dX10_ofTin_97 : decode cX10_ofTin 97 = .ok (.aload_n 0, 1) := by decide +kernel
theorem dX10_ofTin_98 : decode cX10_ofTin 98 = .ok (.getfield 46, 3) := by decide +kernel
theorem dX10_ofTin_101 : decode cX10_ofTin 101 = .ok (.getfield 215, 3) := by decide +kernel
theorem dX10_ofTin_104 : decode cX10_ofTin 104 = .ok (.iload_n 1, 1) := by decide +kernel
theorem dX10_ofTin_105 : decode cX10_ofTin 105 = .ok (.aaload, 1) := by decide +kernel
theorem dX10_ofTin_106 : decode cX10_ofTin 106 = .ok (.iload_n 2, 1) := by decide +kernel
theorem dX10_ofTin_107 : decode cX10_ofTin 107 = .ok (.iaload, 1) := by decide +kernel
theorem dX10_ofTin_108 : decode cX10_ofTin 108 = .ok (.ireturn, 1) := by decide +kernel
theorem dX10_ofTin_109 : decode cX10_ofTin 109 = .ok (.bipush (-2), 2) := by decide +kernel
theorem dX10_ofTin_111 : decode cX10_ofTin 111 = .ok (.ireturn, 1) := by decide +kernel
theorem dX10_needs_0 : decode cX10_needs 0 = .ok (.aload_n 0, 1) := by decide +kernel
theorem dX10_needs_1 : decode cX10_needs 1 = .ok (.getfield 12, 3) := by decide +kernel
theorem dX10_needs_4 : decode cX10_needs 4 = .ok (.iload_n 1, 1) := by decide +kernel
theorem dX10_needs_5 : decode cX10_needs 5 = .ok (.invokevirtual 79, 3) := by decide +kernel
theorem dX10_needs_8 : decode cX10_needs 8 = .ok (.ifCond .ne 5, 3) := by decide +kernel
theorem dX10_needs_11 : decode cX10_needs 11 = .ok (.iconst (-1), 1) := by decide +kernel
theorem dX10_needs_12 : decode cX10_needs 12 = .ok (.ireturn, 1) := by decide +kernel
theorem dX10_needs_13 : decode cX10_needs 13 = .ok (.iload_n 2, 1) := by decide +kernel
theorem dX10_needs_14 : decode cX10_needs 14 = .ok (.iconst 0, 1) := by decide +kernel
theorem dX10_needs_15 : decode cX10_needs 15 = .ok (.bipush 7, 2) := by decide +kernel
theorem dX10_needs_17 : decode cX10_needs 17 = .ok (.invokestatic 57, 3) := by decide +kernel
theorem dX10_needs_20 : decode cX10_needs 20 = .ok (.ifCond .ne 6, 3) := by decide +kernel
theorem dX10_needs_23 : decode cX10_needs 23 = .ok (.bipush (-2), 2) := by decide +kernel
theorem dX10_needs_25 : decode cX10_needs 25 = .ok (.ireturn, 1) := by decide +kernel
theorem dX10_needs_26 : decode cX10_needs 26 = .ok (.aload_n 0, 1) := by decide +kernel
theorem dX10_needs_27 : decode cX10_needs 27 = .ok (.getfield 46, 3) := by decide +kernel
theorem dX10_needs_30 : decode cX10_needs 30 = .ok (.aload_n 0, 1) := by decide +kernel
theorem dX10_needs_31 : decode cX10_needs 31 = .ok (.getfield 12, 3) := by decide +kernel
theorem dX10_needs_34 : decode cX10_needs 34 = .ok (.invokevirtual 162, 3) := by decide +kernel
theorem dX10_needs_37 : decode cX10_needs 37 = .ok (.iload_n 2, 1) := by decide +kernel
theorem dX10_needs_38 : decode cX10_needs 38 = .ok (.tableswitch 112 0 6 #[42, 52, 62, 72, 82, 92, 102], 42) := by decide +kernel
theorem dX10_needs_80 : decode cX10_needs 80 = .ok (.aload_n 0, 1) := by decide +kernel
theorem dX10_needs_81 : decode cX10_needs 81 = .ok (.getfield 46, 3) := by decide +kernel
theorem dX10_needs_84 : decode cX10_needs 84 = .ok (.getfield 219, 3) := by decide +kernel
theorem dX10_needs_87 : decode cX10_needs 87 = .ok (.iload_n 1, 1) := by decide +kernel
theorem dX10_needs_88 : decode cX10_needs 88 = .ok (.iaload, 1) := by decide +kernel
theorem dX10_needs_89 : decode cX10_needs 89 = .ok (.ireturn, 1) := by decide +kernel
theorem dX10_needs_90 : decode cX10_needs 90 = .ok (.aload_n 0, 1) := by decide +kernel
theorem dX10_needs_91 : decode cX10_needs 91 = .ok (.getfield 46, 3) := by decide +kernel
theorem dX10_needs_94 : decode cX10_needs 94 = .ok (.getfield 222, 3) := by decide +kernel
theorem dX10_needs_97 : decode cX10_needs 97 = .ok (.iload_n 1, 1) := by decide +kernel
theorem dX10_needs_98 : decode cX10_needs 98 = .ok (.iaload, 1) := by decide +kernel
theorem dX10_needs_99 : decode cX10_needs 99 = .ok (.ireturn, 1) := by decide +kernel
theorem dX10_needs_100 : decode cX10_needs 100 = .ok (.aload_n 0, 1) := by decide +kernel
theorem dX10_needs_101 : decode cX10_needs 101 = .ok (.getfield 46, 3) := by decide +kernel
theorem dX10_needs_104 : decode cX10_needs 104 = .ok (.getfield 225, 3) := by decide +kernel
theorem dX10_needs_107 : decode cX10_needs 107 = .ok (.iload_n 1, 1) := by decide +kernel
theorem dX10_needs_108 : decode cX10_needs 108 = .ok (.iaload, 1) := by decide +kernel
theorem dX10_needs_109 : decode cX10_needs 109 = .ok (.ireturn, 1) := by decide +kernel
theorem dX10_needs_110 : decode cX10_needs 110 = .ok (.aload_n 0, 1) := by decide +kernel
theorem dX10_needs_111 : decode cX10_needs 111 = .ok (.getfield 46, 3) := by decide +kernel
theorem dX10_needs_114 : decode cX10_needs 114 = .ok (.getfield 228, 3) := by decide +kernel
theorem dX10_needs_117 : decode cX10_needs 117 = .ok (.iload_n 1, 1) := by decide +kernel
theorem dX10_needs_118 : decode cX10_needs 118 = .ok (.iaload, 1) := by decide +kernel
theorem dX10_needs_119 : decode cX10_needs 119 = .ok (.ireturn, 1) := by decide +kernel
theorem dX10_needs_120 : decode cX10_needs 120 = .ok (.aload_n 0, 1) := by decide +kernel
theorem dX10_needs_121 : decode cX10_needs 121 = .ok (.getfield 46, 3) := by decide +kernel
theorem dX10_needs_124 : decode cX10_needs 124 = .ok (.getfield 230, 3) := by decide +kernel
theorem dX10_needs_127 : decode cX10_needs 127 = .ok (.iload_n 1, 1) := by decide +kernel
theorem dX10_needs_128 : decode cX10_needs 128 = .ok (.iaload, 1) := by decide +kernel
theorem dX10_needs_129 : decode cX10_needs 129 = .ok (.ireturn, 1) := by decide +kernel
theorem dX10_needs_130 : decode cX10_needs 130 = .ok (.aload_n 0, 1) := by decide +kernel
theorem dX10_needs_131 : decode cX10_needs 131 = .ok (.getfield 46, 3) := by decide +kernel
theorem dX10_needs_134 : decode cX10_needs 134 = .ok (.getfield 233, 3) := by decide +kernel
theorem dX10_needs_137 : decode cX10_needs 137 = .ok (.iload_n 1, 1) := by decide +kernel
theorem dX10_needs_138 : decode cX10_needs 138 = .ok (.iaload, 1) := by decide +kernel
theorem dX10_needs_139 : decode cX10_needs 139 = .ok (.ireturn, 1) := by decide +kernel
theorem dX10_needs_140 : decode cX10_needs 140 = .ok (.aload_n 0, 1) := by decide +kernel
theorem dX10_needs_141 : decode cX10_needs 141 = .ok (.getfield 46, 3) := by decide +kernel
theorem dX10_needs_144 : decode cX10_needs 144 = .ok (.getfield 236, 3) := by decide +kernel
theorem dX10_needs_147 : decode cX10_needs 147 = .ok (.iload_n 1, 1) := by decide +kernel
theorem dX10_needs_148 : decode cX10_needs 148 = .ok (.iaload, 1) := by decide +kernel
theorem dX10_needs_149 : decode cX10_needs 149 = .ok (.ireturn, 1) := by decide +kernel
theorem dX10_needs_150 : decode cX10_needs 150 = .ok (.aload_n 0, 1) := by decide +kernel
theorem dX10_needs_151 : decode cX10_needs 151 = .ok (.getfield 46, 3) := by decide +kernel
theorem dX10_needs_154 : decode cX10_needs 154 = .ok (.getfield 239, 3) := by decide +kernel
theorem dX10_needs_157 : decode cX10_needs 157 = .ok (.iload_n 1, 1) := by decide +kernel
theorem dX10_needs_158 : decode cX10_needs 158 = .ok (.iaload, 1) := by decide +kernel
theorem dX10_needs_159 : decode cX10_needs 159 = .ok (.ireturn, 1) := by decide +kernel
theorem dX10_step_0 : decode cX10_step 0 = .ok (.aload_n 0, 1) := by decide +kernel
theorem dX10_step_1 : decode cX10_step 1 = .ok (.getfield 12, 3) := by decide +kernel
theorem dX10_step_4 : decode cX10_step 4 = .ok (.iload_n 1, 1) := by decide +kernel
theorem dX10_step_5 : decode cX10_step 5 = .ok (.invokevirtual 149, 3) := by decide +kernel
theorem dX10_step_8 : decode cX10_step 8 = .ok (.ifCond .eq 19, 3) := by decide +kernel
theorem dX10_step_11 : decode cX10_step 11 = .ok (.aload_n 0, 1) := by decide +kernel
theorem dX10_step_12 : decode cX10_step 12 = .ok (.getfield 12, 3) := by decide +kernel
theorem dX10_step_15 : decode cX10_step 15 = .ok (.getfield 136, 3) := by decide +kernel
theorem dX10_step_18 : decode cX10_step 18 = .ok (.iload_n 1, 1) := by decide +kernel
theorem dX10_step_19 : decode cX10_step 19 = .ok (.aaload, 1) := by decide +kernel
theorem dX10_step_20 : decode cX10_step 20 = .ok (.iload_n 2, 1) := by decide +kernel
theorem dX10_step_21 : decode cX10_step 21 = .ok (.invokevirtual 242, 3) := by decide +kernel
theorem dX10_step_24 : decode cX10_step 24 = .ok (.ifCond .ne 5, 3) := by decide +kernel
theorem dX10_step_27 : decode cX10_step 27 = .ok (.iconst (-1), 1) := by decide +kernel
theorem dX10_step_28 : decode cX10_step 28 = .ok (.ireturn, 1) := by decide +kernel
theorem dX10_step_29 : decode cX10_step 29 = .ok (.aload_n 0, 1) := by decide +kernel
theorem dX10_step_30 : decode cX10_step 30 = .ok (.getfield 12, 3) := by decide +kernel
theorem dX10_step_33 : decode cX10_step 33 = .ok (.getfield 136, 3) := by decide +kernel
theorem dX10_step_36 : decode cX10_step 36 = .ok (.iload_n 1, 1) := by decide +kernel
theorem dX10_step_37 : decode cX10_step 37 = .ok (.aaload, 1) := by decide +kernel
theorem dX10_step_38 : decode cX10_step 38 = .ok (.astore 4, 2) := by decide +kernel
theorem dX10_step_40 : decode cX10_step 40 = .ok (.iload_n 3, 1) := by decide +kernel
theorem dX10_step_41 : decode cX10_step 41 = .ok (.tableswitch 143 0 5 #[39, 67, 78, 89, 103, 123], 39) := by decide +kernel
theorem dX10_step_80 : decode cX10_step 80 = .ok (.aload 4, 2) := by decide +kernel
theorem dX10_step_82 : decode cX10_step 82 = .ok (.getfield 156, 3) := by decide +kernel
theorem dX10_step_85 : decode cX10_step 85 = .ok (.ifCond .ne 16, 3) := by decide +kernel
theorem dX10_step_88 : decode cX10_step 88 = .ok (.aload 4, 2) := by decide +kernel
theorem dX10_step_90 : decode cX10_step 90 = .ok (.getfield 245, 3) := by decide +kernel
theorem dX10_step_93 : decode cX10_step 93 = .ok (.iload_n 2, 1) := by decide +kernel
theorem dX10_step_94 : decode cX10_step 94 = .ok (.aaload, 1) := by decide +kernel
theorem dX10_step_95 : decode cX10_step 95 = .ok (.getfield 249, 3) := by decide +kernel
theorem dX10_step_98 : decode cX10_step 98 = .ok (.goto 9, 3) := by decide +kernel
theorem dX10_step_101 : decode cX10_step 101 = .ok (.aload 4, 2) := by decide +kernel
theorem dX10_step_103 : decode cX10_step 103 = .ok (.iload_n 2, 1) := by decide +kernel
theorem dX10_step_104 : decode cX10_step 104 = .ok (.invokevirtual 254, 3) := by decide +kernel
theorem dX10_step_107 : decode cX10_step 107 = .ok (.ireturn, 1) := by decide +kernel
theorem dX10_step_108 : decode cX10_step 108 = .ok (.aload 4, 2) := by decide +kernel
theorem dX10_step_110 : decode cX10_step 110 = .ok (.getfield 245, 3) := by decide +kernel
theorem dX10_step_113 : decode cX10_step 113 = .ok (.iload_n 2, 1) := by decide +kernel
theorem dX10_step_114 : decode cX10_step 114 = .ok (.aaload, 1) := by decide +kernel
theorem dX10_step_115 : decode cX10_step 115 = .ok (.getfield 257, 3) := by decide +kernel
theorem dX10_step_118 : decode cX10_step 118 = .ok (.ireturn, 1) := by decide +kernel
theorem dX10_step_119 : decode cX10_step 119 = .ok (.aload 4, 2) := by decide +kernel
theorem dX10_step_121 : decode cX10_step 121 = .ok (.getfield 245, 3) := by decide +kernel
theorem dX10_step_124 : decode cX10_step 124 = .ok (.iload_n 2, 1) := by decide +kernel
theorem dX10_step_125 : decode cX10_step 125 = .ok (.aaload, 1) := by decide +kernel
theorem dX10_step_126 : decode cX10_step 126 = .ok (.getfield 260, 3) := by decide +kernel
theorem dX10_step_129 : decode cX10_step 129 = .ok (.ireturn, 1) := by decide +kernel
theorem dX10_step_130 : decode cX10_step 130 = .ok (.aload 4, 2) := by decide +kernel
theorem dX10_step_132 : decode cX10_step 132 = .ok (.getfield 245, 3) := by decide +kernel
theorem dX10_step_135 : decode cX10_step 135 = .ok (.iload_n 2, 1) := by decide +kernel
theorem dX10_step_136 : decode cX10_step 136 = .ok (.aaload, 1) := by decide +kernel
theorem dX10_step_137 : decode cX10_step 137 = .ok (.getfield 263, 3) := by decide +kernel
theorem dX10_step_140 : decode cX10_step 140 = .ok (.invokestatic 97, 3) := by decide +kernel
theorem dX10_step_143 : decode cX10_step 143 = .ok (.ireturn, 1) := by decide +kernel
theorem dX10_step_144 : decode cX10_step 144 = .ok (.aload 4, 2) := by decide +kernel
theorem dX10_step_146 : decode cX10_step 146 = .ok (.getfield 156, 3) := by decide +kernel
theorem dX10_step_149 : decode cX10_step 149 = .ok (.ifCond .ne 8, 3) := by decide +kernel
theorem dX10_step_152 : decode cX10_step 152 = .ok (.bipush (-6), 2) := by decide +kernel
theorem dX10_step_154 : decode cX10_step 154 = .ok (.goto 9, 3) := by decide +kernel
theorem dX10_step_157 : decode cX10_step 157 = .ok (.aload_n 0, 1) := by decide +kernel
theorem dX10_step_158 : decode cX10_step 158 = .ok (.iload_n 1, 1) := by decide +kernel
theorem dX10_step_159 : decode cX10_step 159 = .ok (.iload_n 2, 1) := by decide +kernel
theorem dX10_step_160 : decode cX10_step 160 = .ok (.invokevirtual 266, 3) := by decide +kernel
theorem dX10_step_163 : decode cX10_step 163 = .ok (.ireturn, 1) := by decide +kernel
theorem dX10_step_164 : decode cX10_step 164 = .ok (.aload 4, 2) := by decide +kernel
theorem dX10_step_166 : decode cX10_step 166 = .ok (.getfield 156, 3) := by decide +kernel
theorem dX10_step_169 : decode cX10_step 169 = .ok (.ifCond .ne 8, 3) := by decide +kernel
theorem dX10_step_172 : decode cX10_step 172 = .ok (.bipush (-6), 2) := by decide +kernel
theorem dX10_step_174 : decode cX10_step 174 = .ok (.goto 9, 3) := by decide +kernel
theorem dX10_step_177 : decode cX10_step 177 = .ok (.aload_n 0, 1) := by decide +kernel
theorem dX10_step_178 : decode cX10_step 178 = .ok (.iload_n 1, 1) := by decide +kernel
theorem dX10_step_179 : decode cX10_step 179 = .ok (.iload_n 2, 1) := by decide +kernel
theorem dX10_step_180 : decode cX10_step 180 = .ok (.invokevirtual 270, 3) := by decide +kernel
theorem dX10_step_183 : decode cX10_step 183 = .ok (.ireturn, 1) := by decide +kernel
theorem dX10_step_184 : decode cX10_step 184 = .ok (.bipush (-2), 2) := by decide +kernel
theorem dX10_step_186 : decode cX10_step 186 = .ok (.ireturn, 1) := by decide +kernel
theorem dX10_ofRecipe_0 : decode cX10_ofRecipe 0 = .ok (.aload_n 0, 1) := by decide +kernel
theorem dX10_ofRecipe_1 : decode cX10_ofRecipe 1 = .ok (.getfield 12, 3) := by decide +kernel
theorem dX10_ofRecipe_4 : decode cX10_ofRecipe 4 = .ok (.iload_n 1, 1) := by decide +kernel
theorem dX10_ofRecipe_5 : decode cX10_ofRecipe 5 = .ok (.invokevirtual 149, 3) := by decide +kernel
theorem dX10_ofRecipe_8 : decode cX10_ofRecipe 8 = .ok (.ifCond .ne 5, 3) := by decide +kernel
theorem dX10_ofRecipe_11 : decode cX10_ofRecipe 11 = .ok (.iconst (-1), 1) := by decide +kernel
theorem dX10_ofRecipe_12 : decode cX10_ofRecipe 12 = .ok (.ireturn, 1) := by decide +kernel
theorem dX10_ofRecipe_13 : decode cX10_ofRecipe 13 = .ok (.aload_n 0, 1) := by decide +kernel
theorem dX10_ofRecipe_14 : decode cX10_ofRecipe 14 = .ok (.getfield 12, 3) := by decide +kernel
theorem dX10_ofRecipe_17 : decode cX10_ofRecipe 17 = .ok (.getfield 136, 3) := by decide +kernel
theorem dX10_ofRecipe_20 : decode cX10_ofRecipe 20 = .ok (.iload_n 1, 1) := by decide +kernel
theorem dX10_ofRecipe_21 : decode cX10_ofRecipe 21 = .ok (.aaload, 1) := by decide +kernel
theorem dX10_ofRecipe_22 : decode cX10_ofRecipe 22 = .ok (.astore_n 3, 1) := by decide +kernel
theorem dX10_ofRecipe_23 : decode cX10_ofRecipe 23 = .ok (.iload_n 2, 1) := by decide +kernel
theorem dX10_ofRecipe_24 : decode cX10_ofRecipe 24 = .ok (.tableswitch 43 0 2 #[28, 33, 38], 28) := by decide +kernel
theorem dX10_ofRecipe_52 : decode cX10_ofRecipe 52 = .ok (.aload_n 3, 1) := by decide +kernel
theorem dX10_ofRecipe_53 : decode cX10_ofRecipe 53 = .ok (.getfield 273, 3) := by decide +kernel
theorem dX10_ofRecipe_56 : decode cX10_ofRecipe 56 = .ok (.ireturn, 1) := by decide +kernel
theorem dX10_ofRecipe_57 : decode cX10_ofRecipe 57 = .ok (.aload_n 3, 1) := by decide +kernel
theorem dX10_ofRecipe_58 : decode cX10_ofRecipe 58 = .ok (.getfield 276, 3) := by decide +kernel
theorem dX10_ofRecipe_61 : decode cX10_ofRecipe 61 = .ok (.ireturn, 1) := by decide +kernel
theorem dX10_ofRecipe_62 : decode cX10_ofRecipe 62 = .ok (.aload_n 3, 1) := by decide +kernel
theorem dX10_ofRecipe_63 : decode cX10_ofRecipe 63 = .ok (.getfield 156, 3) := by decide +kernel
theorem dX10_ofRecipe_66 : decode cX10_ofRecipe 66 = .ok (.ireturn, 1) := by decide +kernel
theorem dX10_ofRecipe_67 : decode cX10_ofRecipe 67 = .ok (.iload_n 2, 1) := by decide +kernel
theorem dX10_ofRecipe_68 : decode cX10_ofRecipe 68 = .ok (.iconst 3, 1) := by decide +kernel
theorem dX10_ofRecipe_69 : decode cX10_ofRecipe 69 = .ok (.isub, 1) := by decide +kernel
theorem dX10_ofRecipe_70 : decode cX10_ofRecipe 70 = .ok (.iconst 0, 1) := by decide +kernel
theorem dX10_ofRecipe_71 : decode cX10_ofRecipe 71 = .ok (.bipush 7, 2) := by decide +kernel
theorem dX10_ofRecipe_73 : decode cX10_ofRecipe 73 = .ok (.invokestatic 57, 3) := by decide +kernel
theorem dX10_ofRecipe_76 : decode cX10_ofRecipe 76 = .ok (.ifCond .eq 14, 3) := by decide +kernel
theorem dX10_ofRecipe_79 : decode cX10_ofRecipe 79 = .ok (.aload_n 3, 1) := by decide +kernel
theorem dX10_ofRecipe_80 : decode cX10_ofRecipe 80 = .ok (.getfield 152, 3) := by decide +kernel
theorem dX10_ofRecipe_83 : decode cX10_ofRecipe 83 = .ok (.iload_n 2, 1) := by decide +kernel
theorem dX10_ofRecipe_84 : decode cX10_ofRecipe 84 = .ok (.iconst 3, 1) := by decide +kernel
theorem dX10_ofRecipe_85 : decode cX10_ofRecipe 85 = .ok (.isub, 1) := by decide +kernel
theorem dX10_ofRecipe_86 : decode cX10_ofRecipe 86 = .ok (.iaload, 1) := by decide +kernel
theorem dX10_ofRecipe_87 : decode cX10_ofRecipe 87 = .ok (.goto 5, 3) := by decide +kernel
theorem dX10_ofRecipe_90 : decode cX10_ofRecipe 90 = .ok (.bipush (-2), 2) := by decide +kernel
theorem dX10_ofRecipe_92 : decode cX10_ofRecipe 92 = .ok (.ireturn, 1) := by decide +kernel
theorem dX10_count_0 : decode cX10_count 0 = .ok (.iload_n 1, 1) := by decide +kernel
theorem dX10_count_1 : decode cX10_count 1 = .ok (.tableswitch 173 0 14 #[75, 83, 91, 99, 107, 107, 107, 107, 124, 124, 124, 141, 149, 157, 165], 75) := by decide +kernel
theorem dX10_count_76 : decode cX10_count 76 = .ok (.aload_n 0, 1) := by decide +kernel
theorem dX10_count_77 : decode cX10_count 77 = .ok (.getfield 12, 3) := by decide +kernel
theorem dX10_count_80 : decode cX10_count 80 = .ok (.getfield 112, 3) := by decide +kernel
theorem dX10_count_83 : decode cX10_count 83 = .ok (.ireturn, 1) := by decide +kernel
theorem dX10_count_84 : decode cX10_count 84 = .ok (.aload_n 0, 1) := by decide +kernel
theorem dX10_count_85 : decode cX10_count 85 = .ok (.getfield 12, 3) := by decide +kernel
theorem dX10_count_88 : decode cX10_count 88 = .ok (.getfield 61, 3) := by decide +kernel
theorem dX10_count_91 : decode cX10_count 91 = .ok (.ireturn, 1) := by decide +kernel
theorem dX10_count_92 : decode cX10_count 92 = .ok (.aload_n 0, 1) := by decide +kernel
theorem dX10_count_93 : decode cX10_count 93 = .ok (.getfield 12, 3) := by decide +kernel
theorem dX10_count_96 : decode cX10_count 96 = .ok (.getfield 124, 3) := by decide +kernel
theorem dX10_count_99 : decode cX10_count 99 = .ok (.ireturn, 1) := by decide +kernel
theorem dX10_count_100 : decode cX10_count 100 = .ok (.aload_n 0, 1) := by decide +kernel
theorem dX10_count_101 : decode cX10_count 101 = .ok (.getfield 12, 3) := by decide +kernel
theorem dX10_count_104 : decode cX10_count 104 = .ok (.getfield 159, 3) := by decide +kernel
theorem dX10_count_107 : decode cX10_count 107 = .ok (.ireturn, 1) := by decide +kernel
theorem dX10_count_108 : decode cX10_count 108 = .ok (.aload_n 0, 1) := by decide +kernel
theorem dX10_count_109 : decode cX10_count 109 = .ok (.getfield 46, 3) := by decide +kernel
theorem dX10_count_112 : decode cX10_count 112 = .ok (.aload_n 0, 1) := by decide +kernel
theorem dX10_count_113 : decode cX10_count 113 = .ok (.getfield 12, 3) := by decide +kernel
theorem dX10_count_116 : decode cX10_count 116 = .ok (.invokevirtual 162, 3) := by decide +kernel
theorem dX10_count_119 : decode cX10_count 119 = .ok (.aload_n 0, 1) := by decide +kernel
theorem dX10_count_120 : decode cX10_count 120 = .ok (.iload_n 1, 1) := by decide +kernel
theorem dX10_count_121 : decode cX10_count 121 = .ok (.invokevirtual 279, 3) := by decide +kernel
theorem dX10_count_124 : decode cX10_count 124 = .ok (.ireturn, 1) := by decide +kernel
theorem dX10_count_125 : decode cX10_count 125 = .ok (.aload_n 0, 1) := by decide +kernel
theorem dX10_count_126 : decode cX10_count 126 = .ok (.getfield 53, 3) := by decide +kernel
theorem dX10_count_129 : decode cX10_count 129 = .ok (.aload_n 0, 1) := by decide +kernel
theorem dX10_count_130 : decode cX10_count 130 = .ok (.getfield 12, 3) := by decide +kernel
theorem dX10_count_133 : decode cX10_count 133 = .ok (.invokevirtual 282, 3) := by decide +kernel
theorem dX10_count_136 : decode cX10_count 136 = .ok (.aload_n 0, 1) := by decide +kernel
theorem dX10_count_137 : decode cX10_count 137 = .ok (.iload_n 1, 1) := by decide +kernel
theorem dX10_count_138 : decode cX10_count 138 = .ok (.invokevirtual 285, 3) := by decide +kernel
theorem dX10_count_141 : decode cX10_count 141 = .ok (.ireturn, 1) := by decide +kernel
theorem dX10_count_142 : decode cX10_count 142 = .ok (.aload_n 0, 1) := by decide +kernel
theorem dX10_count_143 : decode cX10_count 143 = .ok (.getfield 12, 3) := by decide +kernel
theorem dX10_count_146 : decode cX10_count 146 = .ok (.getfield 175, 3) := by decide +kernel
theorem dX10_count_149 : decode cX10_count 149 = .ok (.ireturn, 1) := by decide +kernel
theorem dX10_count_150 : decode cX10_count 150 = .ok (.aload_n 0, 1) := by decide +kernel
theorem dX10_count_151 : decode cX10_count 151 = .ok (.getfield 12, 3) := by decide +kernel
theorem dX10_count_154 : decode cX10_count 154 = .ok (.getfield 178, 3) := by decide +kernel
theorem dX10_count_157 : decode cX10_count 157 = .ok (.ireturn, 1) := by decide +kernel
theorem dX10_count_158 : decode cX10_count 158 = .ok (.aload_n 0, 1) := by decide +kernel
theorem dX10_count_159 : decode cX10_count 159 = .ok (.getfield 42, 3) := by decide +kernel
theorem dX10_count_162 : decode cX10_count 162 = .ok (.getfield 144, 3) := by decide +kernel
theorem dX10_count_165 : decode cX10_count 165 = .ok (.ireturn, 1) := by decide +kernel
theorem dX10_count_166 : decode cX10_count 166 = .ok (.aload_n 0, 1) := by decide +kernel
theorem dX10_count_167 : decode cX10_count 167 = .ok (.getfield 19, 3) := by decide +kernel
theorem dX10_count_170 : decode cX10_count 170 = .ok (.getfield 288, 3) := by decide +kernel
theorem dX10_count_173 : decode cX10_count 173 = .ok (.ireturn, 1) := by decide +kernel
theorem dX10_count_174 : decode cX10_count 174 = .ok (.bipush (-2), 2) := by decide +kernel
theorem dX10_count_176 : decode cX10_count 176 = .ok (.ireturn, 1) := by decide +kernel
theorem dX10_bestPortions_0 : decode cX10_bestPortions 0 = .ok (.aload_n 0, 1) := by decide +kernel
theorem dX10_bestPortions_1 : decode cX10_bestPortions 1 = .ok (.getfield 12, 3) := by decide +kernel
theorem dX10_bestPortions_4 : decode cX10_bestPortions 4 = .ok (.iload_n 1, 1) := by decide +kernel
theorem dX10_bestPortions_5 : decode cX10_bestPortions 5 = .ok (.invokevirtual 149, 3) := by decide +kernel
theorem dX10_bestPortions_8 : decode cX10_bestPortions 8 = .ok (.ifCond .ne 5, 3) := by decide +kernel
theorem dX10_bestPortions_11 : decode cX10_bestPortions 11 = .ok (.iconst (-1), 1) := by decide +kernel
theorem dX10_bestPortions_12 : decode cX10_bestPortions 12 = .ok (.ireturn, 1) := by decide +kernel
theorem dX10_bestPortions_13 : decode cX10_bestPortions 13 = .ok (.iload_n 2, 1) := by decide +kernel
theorem dX10_bestPortions_14 : decode cX10_bestPortions 14 = .ok (.iconst 1, 1) := by decide +kernel
theorem dX10_bestPortions_15 : decode cX10_bestPortions 15 = .ok (.bipush 20, 2) := by decide +kernel
theorem dX10_bestPortions_17 : decode cX10_bestPortions 17 = .ok (.invokestatic 57, 3) := by decide +kernel
theorem dX10_bestPortions_20 : decode cX10_bestPortions 20 = .ok (.ifCond .eq 13, 3) := by decide +kernel
theorem dX10_bestPortions_23 : decode cX10_bestPortions 23 = .ok (.iload_n 3, 1) := by decide +kernel
theorem dX10_bestPortions_24 : decode cX10_bestPortions 24 = .ok (.iload_n 2, 1) := by decide +kernel
theorem dX10_bestPortions_25 : decode cX10_bestPortions 25 = .ok (.bipush 20, 2) := by decide +kernel
theorem dX10_bestPortions_27 : decode cX10_bestPortions 27 = .ok (.invokestatic 57, 3) := by decide +kernel
theorem dX10_bestPortions_30 : decode cX10_bestPortions 30 = .ok (.ifCond .ne 6, 3) := by decide +kernel
theorem dX10_bestPortions_33 : decode cX10_bestPortions 33 = .ok (.bipush (-2), 2) := by decide +kernel
theorem dX10_bestPortions_35 : decode cX10_bestPortions 35 = .ok (.ireturn, 1) := by decide +kernel
theorem dX10_bestPortions_36 : decode cX10_bestPortions 36 = .ok (.aload_n 0, 1) := by decide +kernel
theorem dX10_bestPortions_37 : decode cX10_bestPortions 37 = .ok (.getfield 12, 3) := by decide +kernel
theorem dX10_bestPortions_40 : decode cX10_bestPortions 40 = .ok (.getfield 136, 3) := by decide +kernel
theorem dX10_bestPortions_43 : decode cX10_bestPortions 43 = .ok (.iload_n 1, 1) := by decide +kernel
theorem dX10_bestPortions_44 : decode cX10_bestPortions 44 = .ok (.aaload, 1) := by decide +kernel
theorem dX10_bestPortions_45 : decode cX10_bestPortions 45 = .ok (.astore 4, 2) := by decide +kernel
theorem dX10_bestPortions_47 : decode cX10_bestPortions 47 = .ok (.aload 4, 2) := by decide +kernel
theorem dX10_bestPortions_49 : decode cX10_bestPortions 49 = .ok (.getfield 156, 3) := by decide +kernel
theorem dX10_bestPortions_52 : decode cX10_bestPortions 52 = .ok (.istore 5, 2) := by decide +kernel
theorem dX10_bestPortions_54 : decode cX10_bestPortions 54 = .ok (.bipush (-6), 2) := by decide +kernel
theorem dX10_bestPortions_56 : decode cX10_bestPortions 56 = .ok (.istore 6, 2) := by decide +kernel
theorem dX10_bestPortions_58 : decode cX10_bestPortions 58 = .ok (.iconst 0, 1) := by decide +kernel
theorem dX10_bestPortions_59 : decode cX10_bestPortions 59 = .ok (.istore 7, 2) := by decide +kernel
theorem dX10_bestPortions_61 : decode cX10_bestPortions 61 = .ok (.iload_n 2, 1) := by decide +kernel
theorem dX10_bestPortions_62 : decode cX10_bestPortions 62 = .ok (.istore 8, 2) := by decide +kernel
theorem dX10_bestPortions_64 : decode cX10_bestPortions 64 = .ok (.iload 8, 2) := by decide +kernel
theorem dX10_bestPortions_66 : decode cX10_bestPortions 66 = .ok (.iload_n 3, 1) := by decide +kernel
theorem dX10_bestPortions_67 : decode cX10_bestPortions 67 = .ok (.if_icmp .gt 68, 3) := by decide +kernel
theorem dX10_bestPortions_70 : decode cX10_bestPortions 70 = .ok (.aload 4, 2) := by decide +kernel
theorem dX10_bestPortions_72 : decode cX10_bestPortions 72 = .ok (.iload 8, 2) := by decide +kernel
theorem dX10_bestPortions_74 : decode cX10_bestPortions 74 = .ok (.putfield 156, 3) := by decide +kernel
theorem dX10_bestPortions_77 : decode cX10_bestPortions 77 = .ok (.aload_n 0, 1) := by decide +kernel
theorem dX10_bestPortions_78 : decode cX10_bestPortions 78 = .ok (.getfield 46, 3) := by decide +kernel
theorem dX10_bestPortions_81 : decode cX10_bestPortions 81 = .ok (.aload_n 0, 1) := by decide +kernel
theorem dX10_bestPortions_82 : decode cX10_bestPortions 82 = .ok (.getfield 12, 3) := by decide +kernel
theorem dX10_bestPortions_85 : decode cX10_bestPortions 85 = .ok (.invokevirtual 162, 3) := by decide +kernel
theorem dX10_bestPortions_88 : decode cX10_bestPortions 88 = .ok (.aload_n 0, 1) := by decide +kernel
theorem dX10_bestPortions_89 : decode cX10_bestPortions 89 = .ok (.getfield 46, 3) := by decide +kernel
theorem dX10_bestPortions_92 : decode cX10_bestPortions 92 = .ok (.invokevirtual 291, 3) := by decide +kernel
theorem dX10_bestPortions_95 : decode cX10_bestPortions 95 = .ok (.istore 9, 2) := by decide +kernel
theorem dX10_bestPortions_97 : decode cX10_bestPortions 97 = .ok (.aload_n 0, 1) := by decide +kernel
theorem dX10_bestPortions_98 : decode cX10_bestPortions 98 = .ok (.getfield 46, 3) := by decide +kernel
theorem dX10_bestPortions_101 : decode cX10_bestPortions 101 = .ok (.invokevirtual 294, 3) := by decide +kernel
theorem dX10_bestPortions_104 : decode cX10_bestPortions 104 = .ok (.ifCond .ne 25, 3) := by decide +kernel
theorem dX10_bestPortions_107 : decode cX10_bestPortions 107 = .ok (.iload 6, 2) := by decide +kernel
theorem dX10_bestPortions_109 : decode cX10_bestPortions 109 = .ok (.bipush (-6), 2) := by decide +kernel
theorem dX10_bestPortions_111 : decode cX10_bestPortions 111 = .ok (.if_icmp .eq 10, 3) := by decide +kernel
theorem dX10_bestPortions_114 : decode cX10_bestPortions 114 = .ok (.iload 9, 2) := by decide +kernel
theorem dX10_bestPortions_116 : decode cX10_bestPortions 116 = .ok (.iload 7, 2) := by decide +kernel
theorem dX10_bestPortions_118 : decode cX10_bestPortions 118 = .ok (.if_icmp .gt 11, 3) := by decide +kernel
theorem dX10_bestPortions_121 : decode cX10_bestPortions 121 = .ok (.iload 8, 2) := by decide +kernel
theorem dX10_bestPortions_123 : decode cX10_bestPortions 123 = .ok (.istore 6, 2) := by decide +kernel
theorem dX10_bestPortions_125 : decode cX10_bestPortions 125 = .ok (.iload 9, 2) := by decide +kernel
theorem dX10_bestPortions_127 : decode cX10_bestPortions 127 = .ok (.istore 7, 2) := by decide +kernel
theorem dX10_bestPortions_129 : decode cX10_bestPortions 129 = .ok (.iinc 8 1, 3) := by decide +kernel
theorem dX10_bestPortions_132 : decode cX10_bestPortions 132 = .ok (.goto (-68), 3) := by decide +kernel
theorem dX10_bestPortions_135 : decode cX10_bestPortions 135 = .ok (.aload 4, 2) := by decide +kernel
theorem dX10_bestPortions_137 : decode cX10_bestPortions 137 = .ok (.iload 5, 2) := by decide +kernel
theorem dX10_bestPortions_139 : decode cX10_bestPortions 139 = .ok (.putfield 156, 3) := by decide +kernel
theorem dX10_bestPortions_142 : decode cX10_bestPortions 142 = .ok (.iload 6, 2) := by decide +kernel
theorem dX10_bestPortions_144 : decode cX10_bestPortions 144 = .ok (.ireturn, 1) := by decide +kernel
theorem dX10_fewestHands_0 : decode cX10_fewestHands 0 = .ok (.iload_n 1, 1) := by decide +kernel
theorem dX10_fewestHands_1 : decode cX10_fewestHands 1 = .ok (.iconst 0, 1) := by decide +kernel
theorem dX10_fewestHands_2 : decode cX10_fewestHands 2 = .ok (.sipush 5000, 3) := by decide +kernel
theorem dX10_fewestHands_5 : decode cX10_fewestHands 5 = .ok (.invokestatic 57, 3) := by decide +kernel
theorem dX10_fewestHands_8 : decode cX10_fewestHands 8 = .ok (.ifCond .ne 6, 3) := by decide +kernel
theorem dX10_fewestHands_11 : decode cX10_fewestHands 11 = .ok (.bipush (-2), 2) := by decide +kernel
theorem dX10_fewestHands_13 : decode cX10_fewestHands 13 = .ok (.ireturn, 1) := by decide +kernel
theorem dX10_fewestHands_14 : decode cX10_fewestHands 14 = .ok (.aload_n 0, 1) := by decide +kernel
theorem dX10_fewestHands_15 : decode cX10_fewestHands 15 = .ok (.getfield 53, 3) := by decide +kernel
theorem dX10_fewestHands_18 : decode cX10_fewestHands 18 = .ok (.aload_n 0, 1) := by decide +kernel
theorem dX10_fewestHands_19 : decode cX10_fewestHands 19 = .ok (.getfield 12, 3) := by decide +kernel
theorem dX10_fewestHands_22 : decode cX10_fewestHands 22 = .ok (.invokevirtual 282, 3) := by decide +kernel
theorem dX10_fewestHands_25 : decode cX10_fewestHands 25 = .ok (.iconst 1, 1) := by decide +kernel
theorem dX10_fewestHands_26 : decode cX10_fewestHands 26 = .ok (.istore_n 2, 1) := by decide +kernel
theorem dX10_fewestHands_27 : decode cX10_fewestHands 27 = .ok (.iload_n 2, 1) := by decide +kernel
theorem dX10_fewestHands_28 : decode cX10_fewestHands 28 = .ok (.bipush 6, 2) := by decide +kernel
theorem dX10_fewestHands_30 : decode cX10_fewestHands 30 = .ok (.if_icmp .gt 38, 3) := by decide +kernel
theorem dX10_fewestHands_33 : decode cX10_fewestHands 33 = .ok (.aload_n 0, 1) := by decide +kernel
theorem dX10_fewestHands_34 : decode cX10_fewestHands 34 = .ok (.getfield 53, 3) := by decide +kernel
theorem dX10_fewestHands_37 : decode cX10_fewestHands 37 = .ok (.iload_n 2, 1) := by decide +kernel
theorem dX10_fewestHands_38 : decode cX10_fewestHands 38 = .ok (.invokevirtual 297, 3) := by decide +kernel
theorem dX10_fewestHands_41 : decode cX10_fewestHands 41 = .ok (.aload_n 0, 1) := by decide +kernel
theorem dX10_fewestHands_42 : decode cX10_fewestHands 42 = .ok (.getfield 53, 3) := by decide +kernel
theorem dX10_fewestHands_45 : decode cX10_fewestHands 45 = .ok (.invokevirtual 300, 3) := by decide +kernel
theorem dX10_fewestHands_48 : decode cX10_fewestHands 48 = .ok (.istore_n 3, 1) := by decide +kernel
theorem dX10_fewestHands_49 : decode cX10_fewestHands 49 = .ok (.iload_n 3, 1) := by decide +kernel
theorem dX10_fewestHands_50 : decode cX10_fewestHands 50 = .ok (.bipush (-6), 2) := by decide +kernel
theorem dX10_fewestHands_52 : decode cX10_fewestHands 52 = .ok (.if_icmp .eq 10, 3) := by decide +kernel
theorem dX10_fewestHands_55 : decode cX10_fewestHands 55 = .ok (.iload_n 3, 1) := by decide +kernel
theorem dX10_fewestHands_56 : decode cX10_fewestHands 56 = .ok (.iload_n 1, 1) := by decide +kernel
theorem dX10_fewestHands_57 : decode cX10_fewestHands 57 = .ok (.if_icmp .gt 5, 3) := by decide +kernel
theorem dX10_fewestHands_60 : decode cX10_fewestHands 60 = .ok (.iload_n 2, 1) := by decide +kernel
theorem dX10_fewestHands_61 : decode cX10_fewestHands 61 = .ok (.ireturn, 1) := by decide +kernel
theorem dX10_fewestHands_62 : decode cX10_fewestHands 62 = .ok (.iinc 2 1, 3) := by decide +kernel
theorem dX10_fewestHands_65 : decode cX10_fewestHands 65 = .ok (.goto (-38), 3) := by decide +kernel
theorem dX10_fewestHands_68 : decode cX10_fewestHands 68 = .ok (.bipush (-6), 2) := by decide +kernel
theorem dX10_fewestHands_70 : decode cX10_fewestHands 70 = .ok (.ireturn, 1) := by decide +kernel
theorem dX10_ifBuyable_0 : decode cX10_ifBuyable 0 = .ok (.aload_n 0, 1) := by decide +kernel
theorem dX10_ifBuyable_1 : decode cX10_ifBuyable 1 = .ok (.getfield 12, 3) := by decide +kernel
theorem dX10_ifBuyable_4 : decode cX10_ifBuyable 4 = .ok (.iload_n 1, 1) := by decide +kernel
theorem dX10_ifBuyable_5 : decode cX10_ifBuyable 5 = .ok (.invokevirtual 79, 3) := by decide +kernel
theorem dX10_ifBuyable_8 : decode cX10_ifBuyable 8 = .ok (.ifCond .ne 5, 3) := by decide +kernel
theorem dX10_ifBuyable_11 : decode cX10_ifBuyable 11 = .ok (.iconst (-1), 1) := by decide +kernel
theorem dX10_ifBuyable_12 : decode cX10_ifBuyable 12 = .ok (.ireturn, 1) := by decide +kernel
theorem dX10_ifBuyable_13 : decode cX10_ifBuyable 13 = .ok (.iload_n 2, 1) := by decide +kernel
theorem dX10_ifBuyable_14 : decode cX10_ifBuyable 14 = .ok (.iconst 0, 1) := by decide +kernel
theorem dX10_ifBuyable_15 : decode cX10_ifBuyable 15 = .ok (.iconst 1, 1) := by decide +kernel
theorem dX10_ifBuyable_16 : decode cX10_ifBuyable 16 = .ok (.invokestatic 57, 3) := by decide +kernel
theorem dX10_ifBuyable_19 : decode cX10_ifBuyable 19 = .ok (.ifCond .ne 6, 3) := by decide +kernel
theorem dX10_ifBuyable_22 : decode cX10_ifBuyable 22 = .ok (.bipush (-2), 2) := by decide +kernel
theorem dX10_ifBuyable_24 : decode cX10_ifBuyable 24 = .ok (.ireturn, 1) := by decide +kernel
theorem dX10_ifBuyable_25 : decode cX10_ifBuyable 25 = .ok (.aload_n 0, 1) := by decide +kernel
theorem dX10_ifBuyable_26 : decode cX10_ifBuyable 26 = .ok (.getfield 12, 3) := by decide +kernel
theorem dX10_ifBuyable_29 : decode cX10_ifBuyable 29 = .ok (.getfield 69, 3) := by decide +kernel
theorem dX10_ifBuyable_32 : decode cX10_ifBuyable 32 = .ok (.iload_n 1, 1) := by decide +kernel
theorem dX10_ifBuyable_33 : decode cX10_ifBuyable 33 = .ok (.aaload, 1) := by decide +kernel
theorem dX10_ifBuyable_34 : decode cX10_ifBuyable 34 = .ok (.astore_n 3, 1) := by decide +kernel
theorem dX10_ifBuyable_35 : decode cX10_ifBuyable 35 = .ok (.aload_n 3, 1) := by decide +kernel
theorem dX10_ifBuyable_36 : decode cX10_ifBuyable 36 = .ok (.getfield 93, 3) := by decide +kernel
theorem dX10_ifBuyable_39 : decode cX10_ifBuyable 39 = .ok (.istore 4, 2) := by decide +kernel
theorem dX10_ifBuyable_41 : decode cX10_ifBuyable 41 = .ok (.aload_n 3, 1) := by decide +kernel
theorem dX10_ifBuyable_42 : decode cX10_ifBuyable 42 = .ok (.iload_n 2, 1) := by decide +kernel
theorem dX10_ifBuyable_43 : decode cX10_ifBuyable 43 = .ok (.iconst 1, 1) := by decide +kernel
theorem dX10_ifBuyable_44 : decode cX10_ifBuyable 44 = .ok (.if_icmp .ne 7, 3) := by decide +kernel
theorem dX10_ifBuyable_47 : decode cX10_ifBuyable 47 = .ok (.iconst 1, 1) := by decide +kernel
theorem dX10_ifBuyable_48 : decode cX10_ifBuyable 48 = .ok (.goto 4, 3) := by decide +kernel
theorem dX10_ifBuyable_51 : decode cX10_ifBuyable 51 = .ok (.iconst 0, 1) := by decide +kernel
theorem dX10_ifBuyable_52 : decode cX10_ifBuyable 52 = .ok (.putfield 93, 3) := by decide +kernel
theorem dX10_ifBuyable_55 : decode cX10_ifBuyable 55 = .ok (.aload_n 0, 1) := by decide +kernel
theorem dX10_ifBuyable_56 : decode cX10_ifBuyable 56 = .ok (.getfield 46, 3) := by decide +kernel
theorem dX10_ifBuyable_59 : decode cX10_ifBuyable 59 = .ok (.aload_n 0, 1) := by decide +kernel
theorem dX10_ifBuyable_60 : decode cX10_ifBuyable 60 = .ok (.getfield 12, 3) := by decide +kernel
theorem dX10_ifBuyable_63 : decode cX10_ifBuyable 63 = .ok (.invokevirtual 162, 3) := by decide +kernel
theorem dX10_ifBuyable_66 : decode cX10_ifBuyable 66 = .ok (.aload_n 3, 1) := by decide +kernel
theorem dX10_ifBuyable_67 : decode cX10_ifBuyable 67 = .ok (.iload 4, 2) := by decide +kernel
theorem dX10_ifBuyable_69 : decode cX10_ifBuyable 69 = .ok (.putfield 93, 3) := by decide +kernel
theorem dX10_ifBuyable_72 : decode cX10_ifBuyable 72 = .ok (.aload_n 0, 1) := by decide +kernel
theorem dX10_ifBuyable_73 : decode cX10_ifBuyable 73 = .ok (.getfield 46, 3) := by decide +kernel
theorem dX10_ifBuyable_76 : decode cX10_ifBuyable 76 = .ok (.invokevirtual 294, 3) := by decide +kernel
theorem dX10_ifBuyable_79 : decode cX10_ifBuyable 79 = .ok (.ifCond .ne 13, 3) := by decide +kernel
theorem dX10_ifBuyable_82 : decode cX10_ifBuyable 82 = .ok (.aload_n 0, 1) := by decide +kernel
theorem dX10_ifBuyable_83 : decode cX10_ifBuyable 83 = .ok (.getfield 46, 3) := by decide +kernel
theorem dX10_ifBuyable_86 : decode cX10_ifBuyable 86 = .ok (.invokevirtual 172, 3) := by decide +kernel
theorem dX10_ifBuyable_89 : decode cX10_ifBuyable 89 = .ok (.goto 5, 3) := by decide +kernel
theorem dX10_ifBuyable_92 : decode cX10_ifBuyable 92 = .ok (.bipush (-6), 2) := by decide +kernel
theorem dX10_ifBuyable_94 : decode cX10_ifBuyable 94 = .ok (.ireturn, 1) := by decide +kernel
theorem dX10_put_0 : decode cX10_put 0 = .ok (.lload_n 1, 1) := by decide +kernel
theorem dX10_put_1 : decode cX10_put 1 = .ok (.invokestatic 303, 3) := by decide +kernel
theorem dX10_put_4 : decode cX10_put 4 = .ok (.istore_n 3, 1) := by decide +kernel
theorem dX10_put_5 : decode cX10_put 5 = .ok (.iload_n 3, 1) := by decide +kernel
theorem dX10_put_6 : decode cX10_put 6 = .ok (.ifCond .ne 6, 3) := by decide +kernel
theorem dX10_put_9 : decode cX10_put 9 = .ok (.bipush (-2), 2) := by decide +kernel
theorem dX10_put_11 : decode cX10_put 11 = .ok (.ireturn, 1) := by decide +kernel
theorem dX10_put_12 : decode cX10_put 12 = .ok (.aload_n 0, 1) := by decide +kernel
theorem dX10_put_13 : decode cX10_put 13 = .ok (.getfield 42, 3) := by decide +kernel
theorem dX10_put_16 : decode cX10_put 16 = .ok (.getfield 144, 3) := by decide +kernel
theorem dX10_put_19 : decode cX10_put 19 = .ok (.iload_n 3, 1) := by decide +kernel
theorem dX10_put_20 : decode cX10_put 20 = .ok (.iadd, 1) := by decide +kernel
theorem dX10_put_21 : decode cX10_put 21 = .ok (.bipush 80, 2) := by decide +kernel
theorem dX10_put_23 : decode cX10_put 23 = .ok (.if_icmp .le 6, 3) := by decide +kernel
theorem dX10_put_26 : decode cX10_put 26 = .ok (.bipush (-4), 2) := by decide +kernel
theorem dX10_put_28 : decode cX10_put 28 = .ok (.ireturn, 1) := by decide +kernel
theorem dX10_put_29 : decode cX10_put 29 = .ok (.aload_n 0, 1) := by decide +kernel
theorem dX10_put_30 : decode cX10_put 30 = .ok (.getfield 42, 3) := by decide +kernel
theorem dX10_put_33 : decode cX10_put 33 = .ok (.lload_n 1, 1) := by decide +kernel
theorem dX10_put_34 : decode cX10_put 34 = .ok (.iload_n 3, 1) := by decide +kernel
theorem dX10_put_35 : decode cX10_put 35 = .ok (.invokevirtual 307, 3) := by decide +kernel
theorem dX10_put_38 : decode cX10_put 38 = .ok (.aload_n 0, 1) := by decide +kernel
theorem dX10_put_39 : decode cX10_put 39 = .ok (.getfield 42, 3) := by decide +kernel
theorem dX10_put_42 : decode cX10_put 42 = .ok (.getfield 144, 3) := by decide +kernel
theorem dX10_put_45 : decode cX10_put 45 = .ok (.ireturn, 1) := by decide +kernel
theorem dX10_fault_0 : decode cX10_fault 0 = .ok (.aload_n 0, 1) := by decide +kernel
theorem dX10_fault_1 : decode cX10_fault 1 = .ok (.getfield 34, 3) := by decide +kernel
theorem dX10_fault_4 : decode cX10_fault 4 = .ok (.invokevirtual 121, 3) := by decide +kernel
theorem dX10_fault_7 : decode cX10_fault 7 = .ok (.ireturn, 1) := by decide +kernel
theorem dX10_undo_0 : decode cX10_undo 0 = .ok (.aload_n 0, 1) := by decide +kernel
theorem dX10_undo_1 : decode cX10_undo 1 = .ok (.getfield 19, 3) := by decide +kernel
theorem dX10_undo_4 : decode cX10_undo 4 = .ok (.getfield 288, 3) := by decide +kernel
theorem dX10_undo_7 : decode cX10_undo 7 = .ok (.ifCond .ne 6, 3) := by decide +kernel
theorem dX10_undo_10 : decode cX10_undo 10 = .ok (.bipush (-5), 2) := by decide +kernel
theorem dX10_undo_12 : decode cX10_undo 12 = .ok (.ireturn, 1) := by decide +kernel
theorem dX10_undo_13 : decode cX10_undo 13 = .ok (.aload_n 0, 1) := by decide +kernel
theorem dX10_undo_14 : decode cX10_undo 14 = .ok (.getfield 19, 3) := by decide +kernel
theorem dX10_undo_17 : decode cX10_undo 17 = .ok (.aload_n 0, 1) := by decide +kernel
theorem dX10_undo_18 : decode cX10_undo 18 = .ok (.getfield 12, 3) := by decide +kernel
theorem dX10_undo_21 : decode cX10_undo 21 = .ok (.invokevirtual 311, 3) := by decide +kernel
theorem dX10_undo_24 : decode cX10_undo 24 = .ok (.aload_n 0, 1) := by decide +kernel
theorem dX10_undo_25 : decode cX10_undo 25 = .ok (.getfield 19, 3) := by decide +kernel
theorem dX10_undo_28 : decode cX10_undo 28 = .ok (.getfield 288, 3) := by decide +kernel
theorem dX10_undo_31 : decode cX10_undo 31 = .ok (.ireturn, 1) := by decide +kernel
theorem dX10_save_0 : decode cX10_save 0 = .ok (.iload_n 1, 1) := by decide +kernel
theorem dX10_save_1 : decode cX10_save 1 = .ok (.iconst 0, 1) := by decide +kernel
theorem dX10_save_2 : decode cX10_save 2 = .ok (.iconst 1, 1) := by decide +kernel
theorem dX10_save_3 : decode cX10_save 3 = .ok (.invokestatic 57, 3) := by decide +kernel
theorem dX10_save_6 : decode cX10_save 6 = .ok (.ifCond .ne 6, 3) := by decide +kernel
theorem dX10_save_9 : decode cX10_save 9 = .ok (.bipush (-2), 2) := by decide +kernel
theorem dX10_save_11 : decode cX10_save 11 = .ok (.ireturn, 1) := by decide +kernel
theorem dX10_save_12 : decode cX10_save 12 = .ok (.aload_n 0, 1) := by decide +kernel
theorem dX10_save_13 : decode cX10_save 13 = .ok (.getfield 23, 3) := by decide +kernel
theorem dX10_save_16 : decode cX10_save 16 = .ok (.iload_n 1, 1) := by decide +kernel
theorem dX10_save_17 : decode cX10_save 17 = .ok (.aaload, 1) := by decide +kernel
theorem dX10_save_18 : decode cX10_save 18 = .ok (.aload_n 0, 1) := by decide +kernel
theorem dX10_save_19 : decode cX10_save 19 = .ok (.getfield 12, 3) := by decide +kernel
theorem dX10_save_22 : decode cX10_save 22 = .ok (.invokevirtual 314, 3) := by decide +kernel
theorem dX10_save_25 : decode cX10_save 25 = .ok (.aload_n 0, 1) := by decide +kernel
theorem dX10_save_26 : decode cX10_save 26 = .ok (.getfield 27, 3) := by decide +kernel
theorem dX10_save_29 : decode cX10_save 29 = .ok (.iload_n 1, 1) := by decide +kernel
theorem dX10_save_30 : decode cX10_save 30 = .ok (.iconst 1, 1) := by decide +kernel
theorem dX10_save_31 : decode cX10_save 31 = .ok (.bastore, 1) := by decide +kernel
theorem dX10_save_32 : decode cX10_save 32 = .ok (.aload_n 0, 1) := by decide +kernel
theorem dX10_save_33 : decode cX10_save 33 = .ok (.getfield 12, 3) := by decide +kernel
theorem dX10_save_36 : decode cX10_save 36 = .ok (.getfield 112, 3) := by decide +kernel
theorem dX10_save_39 : decode cX10_save 39 = .ok (.ireturn, 1) := by decide +kernel
theorem dX10_restore_0 : decode cX10_restore 0 = .ok (.iload_n 1, 1) := by decide +kernel
theorem dX10_restore_1 : decode cX10_restore 1 = .ok (.iconst 0, 1) := by decide +kernel
theorem dX10_restore_2 : decode cX10_restore 2 = .ok (.iconst 1, 1) := by decide +kernel
theorem dX10_restore_3 : decode cX10_restore 3 = .ok (.invokestatic 57, 3) := by decide +kernel
theorem dX10_restore_6 : decode cX10_restore 6 = .ok (.ifCond .ne 6, 3) := by decide +kernel
theorem dX10_restore_9 : decode cX10_restore 9 = .ok (.bipush (-2), 2) := by decide +kernel
theorem dX10_restore_11 : decode cX10_restore 11 = .ok (.ireturn, 1) := by decide +kernel
theorem dX10_restore_12 : decode cX10_restore 12 = .ok (.aload_n 0, 1) := by decide +kernel
theorem dX10_restore_13 : decode cX10_restore 13 = .ok (.getfield 27, 3) := by decide +kernel
theorem dX10_restore_16 : decode cX10_restore 16 = .ok (.iload_n 1, 1) := by decide +kernel
theorem dX10_restore_17 : decode cX10_restore 17 = .ok (.baload, 1) := by decide +kernel
theorem dX10_restore_18 : decode cX10_restore 18 = .ok (.ifCond .ne 6, 3) := by decide +kernel
theorem dX10_restore_21 : decode cX10_restore 21 = .ok (.bipush (-5), 2) := by decide +kernel
theorem dX10_restore_23 : decode cX10_restore 23 = .ok (.ireturn, 1) := by decide +kernel
theorem dX10_restore_24 : decode cX10_restore 24 = .ok (.aload_n 0, 1) := by decide +kernel
theorem dX10_restore_25 : decode cX10_restore 25 = .ok (.getfield 19, 3) := by decide +kernel
theorem dX10_restore_28 : decode cX10_restore 28 = .ok (.aload_n 0, 1) := by decide +kernel
theorem dX10_restore_29 : decode cX10_restore 29 = .ok (.getfield 12, 3) := by decide +kernel
theorem dX10_restore_32 : decode cX10_restore 32 = .ok (.invokevirtual 65, 3) := by decide +kernel
theorem dX10_restore_35 : decode cX10_restore 35 = .ok (.aload_n 0, 1) := by decide +kernel
theorem dX10_restore_36 : decode cX10_restore 36 = .ok (.getfield 12, 3) := by decide +kernel
theorem dX10_restore_39 : decode cX10_restore 39 = .ok (.aload_n 0, 1) := by decide +kernel
theorem dX10_restore_40 : decode cX10_restore 40 = .ok (.getfield 23, 3) := by decide +kernel
theorem dX10_restore_43 : decode cX10_restore 43 = .ok (.iload_n 1, 1) := by decide +kernel
theorem dX10_restore_44 : decode cX10_restore 44 = .ok (.aaload, 1) := by decide +kernel
theorem dX10_restore_45 : decode cX10_restore 45 = .ok (.invokevirtual 314, 3) := by decide +kernel
theorem dX10_restore_48 : decode cX10_restore 48 = .ok (.aload_n 0, 1) := by decide +kernel
theorem dX10_restore_49 : decode cX10_restore 49 = .ok (.getfield 12, 3) := by decide +kernel
theorem dX10_restore_52 : decode cX10_restore 52 = .ok (.getfield 112, 3) := by decide +kernel
theorem dX10_restore_55 : decode cX10_restore 55 = .ok (.ireturn, 1) := by decide +kernel
theorem dX10_canBeCooked_0 : decode cX10_canBeCooked 0 = .ok (.aload_n 0, 1) := by decide +kernel
theorem dX10_canBeCooked_1 : decode cX10_canBeCooked 1 = .ok (.getfield 46, 3) := by decide +kernel
theorem dX10_canBeCooked_4 : decode cX10_canBeCooked 4 = .ok (.invokevirtual 294, 3) := by decide +kernel
theorem dX10_canBeCooked_7 : decode cX10_canBeCooked 7 = .ok (.ifCond .ne 17, 3) := by decide +kernel
theorem dX10_canBeCooked_10 : decode cX10_canBeCooked 10 = .ok (.aload_n 0, 1) := by decide +kernel
theorem dX10_canBeCooked_11 : decode cX10_canBeCooked 11 = .ok (.getfield 12, 3) := by decide +kernel
theorem dX10_canBeCooked_14 : decode cX10_canBeCooked 14 = .ok (.invokevirtual 316, 3) := by decide +kernel
theorem dX10_canBeCooked_17 : decode cX10_canBeCooked 17 = .ok (.ifCond .eq 7, 3) := by decide +kernel
theorem dX10_canBeCooked_20 : decode cX10_canBeCooked 20 = .ok (.iconst 1, 1) := by decide +kernel
theorem dX10_canBeCooked_21 : decode cX10_canBeCooked 21 = .ok (.goto 4, 3) := by decide +kernel
theorem dX10_canBeCooked_24 : decode cX10_canBeCooked 24 = .ok (.iconst 0, 1) := by decide +kernel
theorem dX10_canBeCooked_25 : decode cX10_canBeCooked 25 = .ok (.ireturn, 1) := by decide +kernel
theorem dX10_tailInMenu_0 : decode cX10_tailInMenu 0 = .ok (.aload_n 0, 1) := by decide +kernel
theorem dX10_tailInMenu_1 : decode cX10_tailInMenu 1 = .ok (.getfield 53, 3) := by decide +kernel
theorem dX10_tailInMenu_4 : decode cX10_tailInMenu 4 = .ok (.aload_n 0, 1) := by decide +kernel
theorem dX10_tailInMenu_5 : decode cX10_tailInMenu 5 = .ok (.getfield 12, 3) := by decide +kernel
theorem dX10_tailInMenu_8 : decode cX10_tailInMenu 8 = .ok (.invokevirtual 282, 3) := by decide +kernel
theorem dX10_tailInMenu_11 : decode cX10_tailInMenu 11 = .ok (.aload_n 0, 1) := by decide +kernel
theorem dX10_tailInMenu_12 : decode cX10_tailInMenu 12 = .ok (.getfield 53, 3) := by decide +kernel
theorem dX10_tailInMenu_15 : decode cX10_tailInMenu 15 = .ok (.getfield 319, 3) := by decide +kernel
theorem dX10_tailInMenu_18 : decode cX10_tailInMenu 18 = .ok (.iload_n 1, 1) := by decide +kernel
theorem dX10_tailInMenu_19 : decode cX10_tailInMenu 19 = .ok (.bipush 8, 2) := by decide +kernel
theorem dX10_tailInMenu_21 : decode cX10_tailInMenu 21 = .ok (.imul, 1) := by decide +kernel
theorem dX10_tailInMenu_22 : decode cX10_tailInMenu 22 = .ok (.iload_n 2, 1) := by decide +kernel
theorem dX10_tailInMenu_23 : decode cX10_tailInMenu 23 = .ok (.iadd, 1) := by decide +kernel
theorem dX10_tailInMenu_24 : decode cX10_tailInMenu 24 = .ok (.iaload, 1) := by decide +kernel
theorem dX10_tailInMenu_25 : decode cX10_tailInMenu 25 = .ok (.ireturn, 1) := by decide +kernel
theorem dX10_beginInMenu_0 : decode cX10_beginInMenu 0 = .ok (.aload_n 0, 1) := by decide +kernel
theorem dX10_beginInMenu_1 : decode cX10_beginInMenu 1 = .ok (.getfield 53, 3) := by decide +kernel
theorem dX10_beginInMenu_4 : decode cX10_beginInMenu 4 = .ok (.aload_n 0, 1) := by decide +kernel
theorem dX10_beginInMenu_5 : decode cX10_beginInMenu 5 = .ok (.getfield 12, 3) := by decide +kernel
theorem dX10_beginInMenu_8 : decode cX10_beginInMenu 8 = .ok (.invokevirtual 282, 3) := by decide +kernel
theorem dX10_beginInMenu_11 : decode cX10_beginInMenu 11 = .ok (.aload_n 0, 1) := by decide +kernel
theorem dX10_beginInMenu_12 : decode cX10_beginInMenu 12 = .ok (.getfield 53, 3) := by decide +kernel
theorem dX10_beginInMenu_15 : decode cX10_beginInMenu 15 = .ok (.aload_n 0, 1) := by decide +kernel
theorem dX10_beginInMenu_16 : decode cX10_beginInMenu 16 = .ok (.getfield 12, 3) := by decide +kernel
theorem dX10_beginInMenu_19 : decode cX10_beginInMenu 19 = .ok (.getfield 159, 3) := by decide +kernel
theorem dX10_beginInMenu_22 : decode cX10_beginInMenu 22 = .ok (.invokevirtual 297, 3) := by decide +kernel
theorem dX10_beginInMenu_25 : decode cX10_beginInMenu 25 = .ok (.aload_n 0, 1) := by decide +kernel
theorem dX10_beginInMenu_26 : decode cX10_beginInMenu 26 = .ok (.getfield 53, 3) := by decide +kernel
theorem dX10_beginInMenu_29 : decode cX10_beginInMenu 29 = .ok (.getfield 322, 3) := by decide +kernel
theorem dX10_beginInMenu_32 : decode cX10_beginInMenu 32 = .ok (.iload_n 1, 1) := by decide +kernel
theorem dX10_beginInMenu_33 : decode cX10_beginInMenu 33 = .ok (.bipush 8, 2) := by decide +kernel
theorem dX10_beginInMenu_35 : decode cX10_beginInMenu 35 = .ok (.imul, 1) := by decide +kernel
theorem dX10_beginInMenu_36 : decode cX10_beginInMenu 36 = .ok (.iload_n 2, 1) := by decide +kernel
theorem dX10_beginInMenu_37 : decode cX10_beginInMenu 37 = .ok (.iadd, 1) := by decide +kernel
theorem dX10_beginInMenu_38 : decode cX10_beginInMenu 38 = .ok (.iaload, 1) := by decide +kernel
theorem dX10_beginInMenu_39 : decode cX10_beginInMenu 39 = .ok (.ireturn, 1) := by decide +kernel
theorem dX10_ofShopping_0 : decode cX10_ofShopping 0 = .ok (.iload_n 1, 1) := by decide +kernel
theorem dX10_ofShopping_1 : decode cX10_ofShopping 1 = .ok (.tableswitch 51 4 6 #[27, 35, 43], 27) := by decide +kernel
theorem dX10_ofShopping_28 : decode cX10_ofShopping 28 = .ok (.aload_n 0, 1) := by decide +kernel
theorem dX10_ofShopping_29 : decode cX10_ofShopping 29 = .ok (.getfield 46, 3) := by decide +kernel
theorem dX10_ofShopping_32 : decode cX10_ofShopping 32 = .ok (.invokevirtual 172, 3) := by decide +kernel
theorem dX10_ofShopping_35 : decode cX10_ofShopping 35 = .ok (.ireturn, 1) := by decide +kernel
theorem dX10_ofShopping_36 : decode cX10_ofShopping 36 = .ok (.aload_n 0, 1) := by decide +kernel
theorem dX10_ofShopping_37 : decode cX10_ofShopping 37 = .ok (.getfield 46, 3) := by decide +kernel
theorem dX10_ofShopping_40 : decode cX10_ofShopping 40 = .ok (.invokevirtual 291, 3) := by decide +kernel
theorem dX10_ofShopping_43 : decode cX10_ofShopping 43 = .ok (.ireturn, 1) := by decide +kernel
theorem dX10_ofShopping_44 : decode cX10_ofShopping 44 = .ok (.aload_n 0, 1) := by decide +kernel
theorem dX10_ofShopping_45 : decode cX10_ofShopping 45 = .ok (.getfield 46, 3) := by decide +kernel
theorem dX10_ofShopping_48 : decode cX10_ofShopping 48 = .ok (.invokevirtual 294, 3) := by decide +kernel
theorem dX10_ofShopping_51 : decode cX10_ofShopping 51 = .ok (.ireturn, 1) := by decide +kernel
theorem dX10_ofShopping_52 : decode cX10_ofShopping 52 = .ok (.aload_n 0, 1) := by decide +kernel
theorem dX10_ofShopping_53 : decode cX10_ofShopping 53 = .ok (.invokevirtual 165, 3) := by decide +kernel
theorem dX10_ofShopping_56 : decode cX10_ofShopping 56 = .ok (.invokestatic 97, 3) := by decide +kernel
theorem dX10_ofShopping_59 : decode cX10_ofShopping 59 = .ok (.ireturn, 1) := by decide +kernel
theorem dX10_ofSchedule_0 : decode cX10_ofSchedule 0 = .ok (.iload_n 1, 1) := by decide +kernel
theorem dX10_ofSchedule_1 : decode cX10_ofSchedule 1 = .ok (.lookupswitch 64 #[(8, 27), (9, 49)], 27) := by decide +kernel
theorem dX10_ofSchedule_28 : decode cX10_ofSchedule 28 = .ok (.aload_n 0, 1) := by decide +kernel
theorem dX10_ofSchedule_29 : decode cX10_ofSchedule 29 = .ok (.getfield 53, 3) := by decide +kernel
theorem dX10_ofSchedule_32 : decode cX10_ofSchedule 32 = .ok (.aload_n 0, 1) := by decide +kernel
theorem dX10_ofSchedule_33 : decode cX10_ofSchedule 33 = .ok (.getfield 12, 3) := by decide +kernel
theorem dX10_ofSchedule_36 : decode cX10_ofSchedule 36 = .ok (.getfield 159, 3) := by decide +kernel
theorem dX10_ofSchedule_39 : decode cX10_ofSchedule 39 = .ok (.invokevirtual 297, 3) := by decide +kernel
theorem dX10_ofSchedule_42 : decode cX10_ofSchedule 42 = .ok (.aload_n 0, 1) := by decide +kernel
theorem dX10_ofSchedule_43 : decode cX10_ofSchedule 43 = .ok (.getfield 53, 3) := by decide +kernel
theorem dX10_ofSchedule_46 : decode cX10_ofSchedule 46 = .ok (.invokevirtual 300, 3) := by decide +kernel
theorem dX10_ofSchedule_49 : decode cX10_ofSchedule 49 = .ok (.ireturn, 1) := by decide +kernel
theorem dX10_ofSchedule_50 : decode cX10_ofSchedule 50 = .ok (.aload_n 0, 1) := by decide +kernel
theorem dX10_ofSchedule_51 : decode cX10_ofSchedule 51 = .ok (.getfield 53, 3) := by decide +kernel
theorem dX10_ofSchedule_54 : decode cX10_ofSchedule 54 = .ok (.aload_n 0, 1) := by decide +kernel
theorem dX10_ofSchedule_55 : decode cX10_ofSchedule 55 = .ok (.getfield 12, 3) := by decide +kernel
theorem dX10_ofSchedule_58 : decode cX10_ofSchedule 58 = .ok (.getfield 159, 3) := by decide +kernel
theorem dX10_ofSchedule_61 : decode cX10_ofSchedule 61 = .ok (.invokevirtual 325, 3) := by decide +kernel
theorem dX10_ofSchedule_64 : decode cX10_ofSchedule 64 = .ok (.ireturn, 1) := by decide +kernel
theorem dX10_ofSchedule_65 : decode cX10_ofSchedule 65 = .ok (.aload_n 0, 1) := by decide +kernel
theorem dX10_ofSchedule_66 : decode cX10_ofSchedule 66 = .ok (.getfield 53, 3) := by decide +kernel
theorem dX10_ofSchedule_69 : decode cX10_ofSchedule 69 = .ok (.getfield 328, 3) := by decide +kernel
theorem dX10_ofSchedule_72 : decode cX10_ofSchedule 72 = .ok (.ireturn, 1) := by decide +kernel
theorem dX10_lengthOf_0 : decode cX10_lengthOf 0 = .ok (.lload_n 0, 1) := by decide +kernel
theorem dX10_lengthOf_1 : decode cX10_lengthOf 1 = .ok (.lstore_n 2, 1) := by decide +kernel
theorem dX10_lengthOf_2 : decode cX10_lengthOf 2 = .ok (.iconst 0, 1) := by decide +kernel
theorem dX10_lengthOf_3 : decode cX10_lengthOf 3 = .ok (.istore 4, 2) := by decide +kernel
theorem dX10_lengthOf_5 : decode cX10_lengthOf 5 = .ok (.iload 4, 2) := by decide +kernel
theorem dX10_lengthOf_7 : decode cX10_lengthOf 7 = .ok (.bipush 8, 2) := by decide +kernel
theorem dX10_lengthOf_9 : decode cX10_lengthOf 9 = .ok (.if_icmp .ge 38, 3) := by decide +kernel
theorem dX10_lengthOf_12 : decode cX10_lengthOf 12 = .ok (.lload_n 2, 1) := by decide +kernel
theorem dX10_lengthOf_13 : decode cX10_lengthOf 13 = .ok (.lconst 0, 1) := by decide +kernel
theorem dX10_lengthOf_14 : decode cX10_lengthOf 14 = .ok (.lcmp, 1) := by decide +kernel
theorem dX10_lengthOf_15 : decode cX10_lengthOf 15 = .ok (.ifCond .eq 32, 3) := by decide +kernel
theorem dX10_lengthOf_18 : decode cX10_lengthOf 18 = .ok (.lload_n 2, 1) := by decide +kernel
theorem dX10_lengthOf_19 : decode cX10_lengthOf 19 = .ok (.ldc2_w 331, 3) := by decide +kernel
theorem dX10_lengthOf_22 : decode cX10_lengthOf 22 = .ok (.land, 1) := by decide +kernel
theorem dX10_lengthOf_23 : decode cX10_lengthOf 23 = .ok (.l2i, 1) := by decide +kernel
theorem dX10_lengthOf_24 : decode cX10_lengthOf 24 = .ok (.bipush 33, 2) := by decide +kernel
theorem dX10_lengthOf_26 : decode cX10_lengthOf 26 = .ok (.bipush 126, 2) := by decide +kernel
theorem dX10_lengthOf_28 : decode cX10_lengthOf 28 = .ok (.invokestatic 57, 3) := by decide +kernel
theorem dX10_lengthOf_31 : decode cX10_lengthOf 31 = .ok (.ifCond .ne 5, 3) := by decide +kernel
theorem dX10_lengthOf_34 : decode cX10_lengthOf 34 = .ok (.iconst 0, 1) := by decide +kernel
theorem dX10_lengthOf_35 : decode cX10_lengthOf 35 = .ok (.ireturn, 1) := by decide +kernel
theorem dX10_lengthOf_36 : decode cX10_lengthOf 36 = .ok (.lload_n 2, 1) := by decide +kernel
theorem dX10_lengthOf_37 : decode cX10_lengthOf 37 = .ok (.bipush 8, 2) := by decide +kernel
theorem dX10_lengthOf_39 : decode cX10_lengthOf 39 = .ok (.lushr, 1) := by decide +kernel
theorem dX10_lengthOf_40 : decode cX10_lengthOf 40 = .ok (.lstore_n 2, 1) := by decide +kernel
theorem dX10_lengthOf_41 : decode cX10_lengthOf 41 = .ok (.iinc 4 1, 3) := by decide +kernel
theorem dX10_lengthOf_44 : decode cX10_lengthOf 44 = .ok (.goto (-39), 3) := by decide +kernel
theorem dX10_lengthOf_47 : decode cX10_lengthOf 47 = .ok (.iload 4, 2) := by decide +kernel
theorem dX10_lengthOf_49 : decode cX10_lengthOf 49 = .ok (.ireturn, 1) := by decide +kernel
theorem dX10_isWithin_0 : decode cX10_isWithin 0 = .ok (.iload_n 0, 1) := by decide +kernel
theorem dX10_isWithin_1 : decode cX10_isWithin 1 = .ok (.iload_n 1, 1) := by decide +kernel
theorem dX10_isWithin_2 : decode cX10_isWithin 2 = .ok (.if_icmp .lt 12, 3) := by decide +kernel
theorem dX10_isWithin_5 : decode cX10_isWithin 5 = .ok (.iload_n 0, 1) := by decide +kernel
theorem dX10_isWithin_6 : decode cX10_isWithin 6 = .ok (.iload_n 2, 1) := by decide +kernel
theorem dX10_isWithin_7 : decode cX10_isWithin 7 = .ok (.if_icmp .gt 7, 3) := by decide +kernel
theorem dX10_isWithin_10 : decode cX10_isWithin 10 = .ok (.iconst 1, 1) := by decide +kernel
theorem dX10_isWithin_11 : decode cX10_isWithin 11 = .ok (.goto 4, 3) := by decide +kernel
theorem dX10_isWithin_14 : decode cX10_isWithin 14 = .ok (.iconst 0, 1) := by decide +kernel
theorem dX10_isWithin_15 : decode cX10_isWithin 15 = .ok (.ireturn, 1) := by decide +kernel
theorem dX10_asNumber_0 : decode cX10_asNumber 0 = .ok (.iload_n 0, 1) := by decide +kernel
theorem dX10_asNumber_1 : decode cX10_asNumber 1 = .ok (.ifCond .eq 7, 3) := by decide +kernel
theorem dX10_asNumber_4 : decode cX10_asNumber 4 = .ok (.iconst 1, 1) := by decide +kernel
theorem dX10_asNumber_5 : decode cX10_asNumber 5 = .ok (.goto 4, 3) := by decide +kernel
theorem dX10_asNumber_8 : decode cX10_asNumber 8 = .ok (.iconst 0, 1) := by decide +kernel
theorem dX10_asNumber_9 : decode cX10_asNumber 9 = .ok (.ireturn, 1) := by decide +kernel
theorem dX10_roundedUp_0 : decode cX10_roundedUp 0 = .ok (.iload_n 1, 1) := by decide +kernel
theorem dX10_roundedUp_1 : decode cX10_roundedUp 1 = .ok (.ifCond .gt 7, 3) := by decide +kernel
theorem dX10_roundedUp_4 : decode cX10_roundedUp 4 = .ok (.iconst 0, 1) := by decide +kernel
theorem dX10_roundedUp_5 : decode cX10_roundedUp 5 = .ok (.goto 10, 3) := by decide +kernel
theorem dX10_roundedUp_8 : decode cX10_roundedUp 8 = .ok (.iload_n 0, 1) := by decide +kernel
theorem dX10_roundedUp_9 : decode cX10_roundedUp 9 = .ok (.iload_n 1, 1) := by decide +kernel
theorem dX10_roundedUp_10 : decode cX10_roundedUp 10 = .ok (.iadd, 1) := by decide +kernel
theorem dX10_roundedUp_11 : decode cX10_roundedUp 11 = .ok (.iconst 1, 1) := by decide +kernel
theorem dX10_roundedUp_12 : decode cX10_roundedUp 12 = .ok (.isub, 1) := by decide +kernel
theorem dX10_roundedUp_13 : decode cX10_roundedUp 13 = .ok (.iload_n 1, 1) := by decide +kernel
theorem dX10_roundedUp_14 : decode cX10_roundedUp 14 = .ok (.idiv, 1) := by decide +kernel
theorem dX10_roundedUp_15 : decode cX10_roundedUp 15 = .ok (.ireturn, 1) := by decide +kernel
