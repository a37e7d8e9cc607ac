theorem dX6_init_0 : decode cX6_init 0 = .ok (.aload_n 0, 1) := by decide +kernel
theorem dX6_init_1 : decode cX6_init 1 = .ok (.invokespecial 3, 3) := by decide +kernel
theorem dX6_init_4 : decode cX6_init 4 = .ok (.aload_n 0, 1) := by decide +kernel
theorem dX6_init_5 : decode cX6_init 5 = .ok (.bipush 8, 2) := by decide +kernel
theorem dX6_init_7 : decode cX6_init 7 = .ok (.newarray .int, 2) := by decide +kernel
theorem dX6_init_9 : decode cX6_init 9 = .ok (.putfield 9, 3) := by decide +kernel
theorem dX6_init_12 : decode cX6_init 12 = .ok (.aload_n 0, 1) := by decide +kernel
theorem dX6_init_13 : decode cX6_init 13 = .ok (.bipush 8, 2) := by decide +kernel
theorem dX6_init_15 : decode cX6_init 15 = .ok (.newarray .int, 2) := by decide +kernel
theorem dX6_init_17 : decode cX6_init 17 = .ok (.putfield 15, 3) := by decide +kernel
theorem dX6_init_20 : decode cX6_init 20 = .ok (.aload_n 0, 1) := by decide +kernel
theorem dX6_init_21 : decode cX6_init 21 = .ok (.bipush 8, 2) := by decide +kernel
theorem dX6_init_23 : decode cX6_init 23 = .ok (.newarray .int, 2) := by decide +kernel
theorem dX6_init_25 : decode cX6_init 25 = .ok (.putfield 18, 3) := by decide +kernel
theorem dX6_init_28 : decode cX6_init 28 = .ok (.aload_n 0, 1) := by decide +kernel
theorem dX6_init_29 : decode cX6_init 29 = .ok (.bipush 8, 2) := by decide +kernel
theorem dX6_init_31 : decode cX6_init 31 = .ok (.newarray .int, 2) := by decide +kernel
theorem dX6_init_33 : decode cX6_init 33 = .ok (.putfield 21, 3) := by decide +kernel
theorem dX6_init_36 : decode cX6_init 36 = .ok (.aload_n 0, 1) := by decide +kernel
theorem dX6_init_37 : decode cX6_init 37 = .ok (.bipush 8, 2) := by decide +kernel
theorem dX6_init_39 : decode cX6_init 39 = .ok (.newarray .int, 2) := by decide +kernel
theorem dX6_init_41 : decode cX6_init 41 = .ok (.putfield 24, 3) := by decide +kernel
theorem dX6_init_44 : decode cX6_init 44 = .ok (.aload_n 0, 1) := by decide +kernel
theorem dX6_init_45 : decode cX6_init 45 = .ok (.bipush 8, 2) := by decide +kernel
theorem dX6_init_47 : decode cX6_init 47 = .ok (.newarray .int, 2) := by decide +kernel
theorem dX6_init_49 : decode cX6_init 49 = .ok (.putfield 27, 3) := by decide +kernel
theorem dX6_init_52 : decode cX6_init 52 = .ok (.aload_n 0, 1) := by decide +kernel
theorem dX6_init_53 : decode cX6_init 53 = .ok (.bipush 8, 2) := by decide +kernel
theorem dX6_init_55 : decode cX6_init 55 = .ok (.newarray .int, 2) := by decide +kernel
theorem dX6_init_57 : decode cX6_init 57 = .ok (.putfield 30, 3) := by decide +kernel
theorem dX6_init_60 : decode cX6_init 60 = .ok (.aload_n 0, 1) := by decide +kernel
theorem dX6_init_61 : decode cX6_init 61 = .ok (.bipush 8, 2) := by decide +kernel
theorem dX6_init_63 : decode cX6_init 63 = .ok (.newarray .int, 2) := by decide +kernel
theorem dX6_init_65 : decode cX6_init 65 = .ok (.putfield 33, 3) := by decide +kernel
theorem dX6_init_68 : decode cX6_init 68 = .ok (.aload_n 0, 1) := by decide +kernel
theorem dX6_init_69 : decode cX6_init 69 = .ok (.bipush 8, 2) := by decide +kernel
theorem dX6_init_71 : decode cX6_init 71 = .ok (.iconst 3, 1) := by decide +kernel
theorem dX6_init_72 : decode cX6_init 72 = .ok (.multianewarray 36 2, 4) := by decide +kernel
theorem dX6_init_76 : decode cX6_init 76 = .ok (.putfield 38, 3) := by decide +kernel
theorem dX6_init_79 : decode cX6_init 79 = .ok (.aload_n 0, 1) := by decide +kernel
theorem dX6_init_80 : decode cX6_init 80 = .ok (.new 41, 3) := by decide +kernel
theorem dX6_init_83 : decode cX6_init 83 = .ok (.dup, 1) := by decide +kernel
theorem dX6_init_84 : decode cX6_init 84 = .ok (.invokespecial 43, 3) := by decide +kernel
theorem dX6_init_87 : decode cX6_init 87 = .ok (.putfield 44, 3) := by decide +kernel
theorem dX6_init_90 : decode cX6_init 90 = .ok (.return_, 1) := by decide +kernel
theorem dX6_plan_0 : decode cX6_plan 0 = .ok (.iconst 0, 1) := by decide +kernel
theorem dX6_plan_1 : decode cX6_plan 1 = .ok (.istore_n 2, 1) := by decide +kernel
theorem dX6_plan_2 : decode cX6_plan 2 = .ok (.iload_n 2, 1) := by decide +kernel
theorem dX6_plan_3 : decode cX6_plan 3 = .ok (.bipush 8, 2) := by decide +kernel
theorem dX6_plan_5 : decode cX6_plan 5 = .ok (.if_icmp .ge 25, 3) := by decide +kernel
theorem dX6_plan_8 : decode cX6_plan 8 = .ok (.aload_n 0, 1) := by decide +kernel
theorem dX6_plan_9 : decode cX6_plan 9 = .ok (.iload_n 2, 1) := by decide +kernel
theorem dX6_plan_10 : decode cX6_plan 10 = .ok (.invokevirtual 48, 3) := by decide +kernel
theorem dX6_plan_13 : decode cX6_plan 13 = .ok (.aload_n 0, 1) := by decide +kernel
theorem dX6_plan_14 : decode cX6_plan 14 = .ok (.getfield 9, 3) := by decide +kernel
theorem dX6_plan_17 : decode cX6_plan 17 = .ok (.iload_n 2, 1) := by decide +kernel
theorem dX6_plan_18 : decode cX6_plan 18 = .ok (.aload_n 1, 1) := by decide +kernel
theorem dX6_plan_19 : decode cX6_plan 19 = .ok (.iload_n 2, 1) := by decide +kernel
theorem dX6_plan_20 : decode cX6_plan 20 = .ok (.invokevirtual 52, 3) := by decide +kernel
theorem dX6_plan_23 : decode cX6_plan 23 = .ok (.iastore, 1) := by decide +kernel
theorem dX6_plan_24 : decode cX6_plan 24 = .ok (.iinc 2 1, 3) := by decide +kernel
theorem dX6_plan_27 : decode cX6_plan 27 = .ok (.goto (-25), 3) := by decide +kernel
theorem dX6_plan_30 : decode cX6_plan 30 = .ok (.iconst 0, 1) := by decide +kernel
theorem dX6_plan_31 : decode cX6_plan 31 = .ok (.istore_n 2, 1) := by decide +kernel
theorem dX6_plan_32 : decode cX6_plan 32 = .ok (.iload_n 2, 1) := by decide +kernel
theorem dX6_plan_33 : decode cX6_plan 33 = .ok (.bipush 8, 2) := by decide +kernel
theorem dX6_plan_35 : decode cX6_plan 35 = .ok (.if_icmp .ge 15, 3) := by decide +kernel
theorem dX6_plan_38 : decode cX6_plan 38 = .ok (.aload_n 0, 1) := by decide +kernel
theorem dX6_plan_39 : decode cX6_plan 39 = .ok (.aload_n 1, 1) := by decide +kernel
theorem dX6_plan_40 : decode cX6_plan 40 = .ok (.iload_n 2, 1) := by decide +kernel
theorem dX6_plan_41 : decode cX6_plan 41 = .ok (.invokevirtual 58, 3) := by decide +kernel
theorem dX6_plan_44 : decode cX6_plan 44 = .ok (.iinc 2 1, 3) := by decide +kernel
theorem dX6_plan_47 : decode cX6_plan 47 = .ok (.goto (-15), 3) := by decide +kernel
theorem dX6_plan_50 : decode cX6_plan 50 = .ok (.return_, 1) := by decide +kernel
theorem dX6_clear_0 : decode cX6_clear 0 = .ok (.aload_n 0, 1) := by decide +kernel
theorem dX6_clear_1 : decode cX6_clear 1 = .ok (.getfield 15, 3) := by decide +kernel
theorem dX6_clear_4 : decode cX6_clear 4 = .ok (.iload_n 1, 1) := by decide +kernel
theorem dX6_clear_5 : decode cX6_clear 5 = .ok (.iconst 0, 1) := by decide +kernel
theorem dX6_clear_6 : decode cX6_clear 6 = .ok (.iastore, 1) := by decide +kernel
theorem dX6_clear_7 : decode cX6_clear 7 = .ok (.aload_n 0, 1) := by decide +kernel
theorem dX6_clear_8 : decode cX6_clear 8 = .ok (.getfield 18, 3) := by decide +kernel
theorem dX6_clear_11 : decode cX6_clear 11 = .ok (.iload_n 1, 1) := by decide +kernel
theorem dX6_clear_12 : decode cX6_clear 12 = .ok (.iconst 0, 1) := by decide +kernel
theorem dX6_clear_13 : decode cX6_clear 13 = .ok (.iastore, 1) := by decide +kernel
theorem dX6_clear_14 : decode cX6_clear 14 = .ok (.aload_n 0, 1) := by decide +kernel
theorem dX6_clear_15 : decode cX6_clear 15 = .ok (.getfield 21, 3) := by decide +kernel
theorem dX6_clear_18 : decode cX6_clear 18 = .ok (.iload_n 1, 1) := by decide +kernel
theorem dX6_clear_19 : decode cX6_clear 19 = .ok (.iconst 0, 1) := by decide +kernel
theorem dX6_clear_20 : decode cX6_clear 20 = .ok (.iastore, 1) := by decide +kernel
theorem dX6_clear_21 : decode cX6_clear 21 = .ok (.aload_n 0, 1) := by decide +kernel
theorem dX6_clear_22 : decode cX6_clear 22 = .ok (.getfield 24, 3) := by decide +kernel
theorem dX6_clear_25 : decode cX6_clear 25 = .ok (.iload_n 1, 1) := by decide +kernel
theorem dX6_clear_26 : decode cX6_clear 26 = .ok (.iconst 0, 1) := by decide +kernel
theorem dX6_clear_27 : decode cX6_clear 27 = .ok (.iastore, 1) := by decide +kernel
theorem dX6_clear_28 : decode cX6_clear 28 = .ok (.aload_n 0, 1) := by decide +kernel
theorem dX6_clear_29 : decode cX6_clear 29 = .ok (.getfield 27, 3) := by decide +kernel
theorem dX6_clear_32 : decode cX6_clear 32 = .ok (.iload_n 1, 1) := by decide +kernel
theorem dX6_clear_33 : decode cX6_clear 33 = .ok (.iconst 0, 1) := by decide +kernel
theorem dX6_clear_34 : decode cX6_clear 34 = .ok (.iastore, 1) := by decide +kernel
theorem dX6_clear_35 : decode cX6_clear 35 = .ok (.aload_n 0, 1) := by decide +kernel
theorem dX6_clear_36 : decode cX6_clear 36 = .ok (.getfield 30, 3) := by decide +kernel
theorem dX6_clear_39 : decode cX6_clear 39 = .ok (.iload_n 1, 1) := by decide +kernel
theorem dX6_clear_40 : decode cX6_clear 40 = .ok (.iconst 0, 1) := by decide +kernel
theorem dX6_clear_41 : decode cX6_clear 41 = .ok (.iastore, 1) := by decide +kernel
theorem dX6_clear_42 : decode cX6_clear 42 = .ok (.aload_n 0, 1) := by decide +kernel
theorem dX6_clear_43 : decode cX6_clear 43 = .ok (.getfield 33, 3) := by decide +kernel
theorem dX6_clear_46 : decode cX6_clear 46 = .ok (.iload_n 1, 1) := by decide +kernel
theorem dX6_clear_47 : decode cX6_clear 47 = .ok (.iconst 0, 1) := by decide +kernel
theorem dX6_clear_48 : decode cX6_clear 48 = .ok (.iastore, 1) := by decide +kernel
theorem dX6_clear_49 : decode cX6_clear 49 = .ok (.iconst 0, 1) := by decide +kernel
theorem dX6_clear_50 : decode cX6_clear 50 = .ok (.istore_n 2, 1) := by decide +kernel
theorem dX6_clear_51 : decode cX6_clear 51 = .ok (.iload_n 2, 1) := by decide +kernel
theorem dX6_clear_52 : decode cX6_clear 52 = .ok (.iconst 3, 1) := by decide +kernel
theorem dX6_clear_53 : decode cX6_clear 53 = .ok (.if_icmp .ge 18, 3) := by decide +kernel
theorem dX6_clear_56 : decode cX6_clear 56 = .ok (.aload_n 0, 1) := by decide +kernel
theorem dX6_clear_57 : decode cX6_clear 57 = .ok (.getfield 38, 3) := by decide +kernel
theorem dX6_clear_60 : decode cX6_clear 60 = .ok (.iload_n 1, 1) := by decide +kernel
theorem dX6_clear_61 : decode cX6_clear 61 = .ok (.aaload, 1) := by decide +kernel
theorem dX6_clear_62 : decode cX6_clear 62 = .ok (.iload_n 2, 1) := by decide +kernel
theorem dX6_clear_63 : decode cX6_clear 63 = .ok (.iconst 0, 1) := by decide +kernel
theorem dX6_clear_64 : decode cX6_clear 64 = .ok (.iastore, 1) := by decide +kernel
theorem dX6_clear_65 : decode cX6_clear 65 = .ok (.iinc 2 1, 3) := by decide +kernel
theorem dX6_clear_68 : decode cX6_clear 68 = .ok (.goto (-17), 3) := by decide +kernel
theorem dX6_clear_71 : decode cX6_clear 71 = .ok (.return_, 1) := by decide +kernel
theorem dX6_planOne_0 : decode cX6_planOne 0 = .ok (.aload_n 1, 1) := by decide +kernel
theorem dX6_planOne_1 : decode cX6_planOne 1 = .ok (.getfield 62, 3) := by decide +kernel
theorem dX6_planOne_4 : decode cX6_planOne 4 = .ok (.iload_n 2, 1) := by decide +kernel
theorem dX6_planOne_5 : decode cX6_planOne 5 = .ok (.aaload, 1) := by decide +kernel
theorem dX6_planOne_6 : decode cX6_planOne 6 = .ok (.astore_n 3, 1) := by decide +kernel
theorem dX6_planOne_7 : decode cX6_planOne 7 = .ok (.aload_n 0, 1) := by decide +kernel
theorem dX6_planOne_8 : decode cX6_planOne 8 = .ok (.getfield 18, 3) := by decide +kernel
theorem dX6_planOne_11 : decode cX6_planOne 11 = .ok (.iload_n 2, 1) := by decide +kernel
theorem dX6_planOne_12 : decode cX6_planOne 12 = .ok (.aload_n 0, 1) := by decide +kernel
theorem dX6_planOne_13 : decode cX6_planOne 13 = .ok (.getfield 9, 3) := by decide +kernel
theorem dX6_planOne_16 : decode cX6_planOne 16 = .ok (.iload_n 2, 1) := by decide +kernel
theorem dX6_planOne_17 : decode cX6_planOne 17 = .ok (.iaload, 1) := by decide +kernel
theorem dX6_planOne_18 : decode cX6_planOne 18 = .ok (.aload_n 3, 1) := by decide +kernel
theorem dX6_planOne_19 : decode cX6_planOne 19 = .ok (.invokevirtual 66, 3) := by decide +kernel
theorem dX6_planOne_22 : decode cX6_planOne 22 = .ok (.invokestatic 72, 3) := by decide +kernel
theorem dX6_planOne_25 : decode cX6_planOne 25 = .ok (.iastore, 1) := by decide +kernel
theorem dX6_planOne_26 : decode cX6_planOne 26 = .ok (.aload_n 0, 1) := by decide +kernel
theorem dX6_planOne_27 : decode cX6_planOne 27 = .ok (.getfield 9, 3) := by decide +kernel
theorem dX6_planOne_30 : decode cX6_planOne 30 = .ok (.iload_n 2, 1) := by decide +kernel
theorem dX6_planOne_31 : decode cX6_planOne 31 = .ok (.iaload, 1) := by decide +kernel
theorem dX6_planOne_32 : decode cX6_planOne 32 = .ok (.aload_n 0, 1) := by decide +kernel
theorem dX6_planOne_33 : decode cX6_planOne 33 = .ok (.getfield 18, 3) := by decide +kernel
theorem dX6_planOne_36 : decode cX6_planOne 36 = .ok (.iload_n 2, 1) := by decide +kernel
theorem dX6_planOne_37 : decode cX6_planOne 37 = .ok (.iaload, 1) := by decide +kernel
theorem dX6_planOne_38 : decode cX6_planOne 38 = .ok (.isub, 1) := by decide +kernel
theorem dX6_planOne_39 : decode cX6_planOne 39 = .ok (.istore 4, 2) := by decide +kernel
theorem dX6_planOne_41 : decode cX6_planOne 41 = .ok (.iload 4, 2) := by decide +kernel
theorem dX6_planOne_43 : decode cX6_planOne 43 = .ok (.ifCond .gt 4, 3) := by decide +kernel
theorem dX6_planOne_46 : decode cX6_planOne 46 = .ok (.return_, 1) := by decide +kernel
theorem dX6_planOne_47 : decode cX6_planOne 47 = .ok (.aload_n 3, 1) := by decide +kernel
theorem dX6_planOne_48 : decode cX6_planOne 48 = .ok (.getfield 78, 3) := by decide +kernel
theorem dX6_planOne_51 : decode cX6_planOne 51 = .ok (.ifCond .eq 21, 3) := by decide +kernel
theorem dX6_planOne_54 : decode cX6_planOne 54 = .ok (.aload_n 3, 1) := by decide +kernel
theorem dX6_planOne_55 : decode cX6_planOne 55 = .ok (.getfield 82, 3) := by decide +kernel
theorem dX6_planOne_58 : decode cX6_planOne 58 = .ok (.ifCond .le 14, 3) := by decide +kernel
theorem dX6_planOne_61 : decode cX6_planOne 61 = .ok (.aload_n 0, 1) := by decide +kernel
theorem dX6_planOne_62 : decode cX6_planOne 62 = .ok (.aload_n 3, 1) := by decide +kernel
theorem dX6_planOne_63 : decode cX6_planOne 63 = .ok (.iload_n 2, 1) := by decide +kernel
theorem dX6_planOne_64 : decode cX6_planOne 64 = .ok (.iload 4, 2) := by decide +kernel
theorem dX6_planOne_66 : decode cX6_planOne 66 = .ok (.invokevirtual 86, 3) := by decide +kernel
theorem dX6_planOne_69 : decode cX6_planOne 69 = .ok (.goto 22, 3) := by decide +kernel
theorem dX6_planOne_72 : decode cX6_planOne 72 = .ok (.aload_n 0, 1) := by decide +kernel
theorem dX6_planOne_73 : decode cX6_planOne 73 = .ok (.aload_n 1, 1) := by decide +kernel
theorem dX6_planOne_74 : decode cX6_planOne 74 = .ok (.iload_n 2, 1) := by decide +kernel
theorem dX6_planOne_75 : decode cX6_planOne 75 = .ok (.iload 4, 2) := by decide +kernel
theorem dX6_planOne_77 : decode cX6_planOne 77 = .ok (.invokevirtual 90, 3) := by decide +kernel
theorem dX6_planOne_80 : decode cX6_planOne 80 = .ok (.ifCond .ne 11, 3) := by decide +kernel
theorem dX6_planOne_83 : decode cX6_planOne 83 = .ok (.aload_n 0, 1) := by decide +kernel
theorem dX6_planOne_84 : decode cX6_planOne 84 = .ok (.getfield 30, 3) := by decide +kernel
theorem dX6_planOne_87 : decode cX6_planOne 87 = .ok (.iload_n 2, 1) := by decide +kernel
theorem dX6_planOne_88 : decode cX6_planOne 88 = .ok (.iload 4, 2) := by decide +kernel
theorem dX6_planOne_90 : decode cX6_planOne 90 = .ok (.iastore, 1) := by decide +kernel
theorem dX6_planOne_91 : decode cX6_planOne 91 = .ok (.return_, 1) := by decide +kernel
theorem dX6_buy_0 : decode cX6_buy 0 = .ok (.aload_n 0, 1) := by decide +kernel
theorem dX6_buy_1 : decode cX6_buy 1 = .ok (.getfield 44, 3) := by decide +kernel
theorem dX6_buy_4 : decode cX6_buy 4 = .ok (.aload_n 1, 1) := by decide +kernel
theorem dX6_buy_5 : decode cX6_buy 5 = .ok (.invokevirtual 94, 3) := by decide +kernel
theorem dX6_buy_8 : decode cX6_buy 8 = .ok (.aload_n 0, 1) := by decide +kernel
theorem dX6_buy_9 : decode cX6_buy 9 = .ok (.getfield 44, 3) := by decide +kernel
theorem dX6_buy_12 : decode cX6_buy 12 = .ok (.iload_n 3, 1) := by decide +kernel
theorem dX6_buy_13 : decode cX6_buy 13 = .ok (.invokevirtual 98, 3) := by decide +kernel
theorem dX6_buy_16 : decode cX6_buy 16 = .ok (.aload_n 0, 1) := by decide +kernel
theorem dX6_buy_17 : decode cX6_buy 17 = .ok (.getfield 21, 3) := by decide +kernel
theorem dX6_buy_20 : decode cX6_buy 20 = .ok (.iload_n 2, 1) := by decide +kernel
theorem dX6_buy_21 : decode cX6_buy 21 = .ok (.aload_n 0, 1) := by decide +kernel
theorem dX6_buy_22 : decode cX6_buy 22 = .ok (.getfield 44, 3) := by decide +kernel
theorem dX6_buy_25 : decode cX6_buy 25 = .ok (.getfield 101, 3) := by decide +kernel
theorem dX6_buy_28 : decode cX6_buy 28 = .ok (.iastore, 1) := by decide +kernel
theorem dX6_buy_29 : decode cX6_buy 29 = .ok (.aload_n 0, 1) := by decide +kernel
theorem dX6_buy_30 : decode cX6_buy 30 = .ok (.getfield 24, 3) := by decide +kernel
theorem dX6_buy_33 : decode cX6_buy 33 = .ok (.iload_n 2, 1) := by decide +kernel
theorem dX6_buy_34 : decode cX6_buy 34 = .ok (.aload_n 0, 1) := by decide +kernel
theorem dX6_buy_35 : decode cX6_buy 35 = .ok (.getfield 44, 3) := by decide +kernel
theorem dX6_buy_38 : decode cX6_buy 38 = .ok (.getfield 101, 3) := by decide +kernel
theorem dX6_buy_41 : decode cX6_buy 41 = .ok (.iload_n 3, 1) := by decide +kernel
theorem dX6_buy_42 : decode cX6_buy 42 = .ok (.isub, 1) := by decide +kernel
theorem dX6_buy_43 : decode cX6_buy 43 = .ok (.iastore, 1) := by decide +kernel
theorem dX6_buy_44 : decode cX6_buy 44 = .ok (.aload_n 0, 1) := by decide +kernel
theorem dX6_buy_45 : decode cX6_buy 45 = .ok (.getfield 33, 3) := by decide +kernel
theorem dX6_buy_48 : decode cX6_buy 48 = .ok (.iload_n 2, 1) := by decide +kernel
theorem dX6_buy_49 : decode cX6_buy 49 = .ok (.aload_n 0, 1) := by decide +kernel
theorem dX6_buy_50 : decode cX6_buy 50 = .ok (.getfield 44, 3) := by decide +kernel
theorem dX6_buy_53 : decode cX6_buy 53 = .ok (.getfield 104, 3) := by decide +kernel
theorem dX6_buy_56 : decode cX6_buy 56 = .ok (.iastore, 1) := by decide +kernel
theorem dX6_buy_57 : decode cX6_buy 57 = .ok (.iconst 0, 1) := by decide +kernel
theorem dX6_buy_58 : decode cX6_buy 58 = .ok (.istore 4, 2) := by decide +kernel
theorem dX6_buy_60 : decode cX6_buy 60 = .ok (.iload 4, 2) := by decide +kernel
theorem dX6_buy_62 : decode cX6_buy 62 = .ok (.iconst 3, 1) := by decide +kernel
theorem dX6_buy_63 : decode cX6_buy 63 = .ok (.if_icmp .ge 28, 3) := by decide +kernel
theorem dX6_buy_66 : decode cX6_buy 66 = .ok (.aload_n 0, 1) := by decide +kernel
theorem dX6_buy_67 : decode cX6_buy 67 = .ok (.getfield 38, 3) := by decide +kernel
theorem dX6_buy_70 : decode cX6_buy 70 = .ok (.iload_n 2, 1) := by decide +kernel
theorem dX6_buy_71 : decode cX6_buy 71 = .ok (.aaload, 1) := by decide +kernel
theorem dX6_buy_72 : decode cX6_buy 72 = .ok (.iload 4, 2) := by decide +kernel
theorem dX6_buy_74 : decode cX6_buy 74 = .ok (.aload_n 0, 1) := by decide +kernel
theorem dX6_buy_75 : decode cX6_buy 75 = .ok (.getfield 44, 3) := by decide +kernel
theorem dX6_buy_78 : decode cX6_buy 78 = .ok (.getfield 107, 3) := by decide +kernel
theorem dX6_buy_81 : decode cX6_buy 81 = .ok (.iload 4, 2) := by decide +kernel
theorem dX6_buy_83 : decode cX6_buy 83 = .ok (.iaload, 1) := by decide +kernel
theorem dX6_buy_84 : decode cX6_buy 84 = .ok (.iastore, 1) := by decide +kernel
theorem dX6_buy_85 : decode cX6_buy 85 = .ok (.iinc 4 1, 3) := by decide +kernel
theorem dX6_buy_88 : decode cX6_buy 88 = .ok (.goto (-28), 3) := by decide +kernel
theorem dX6_buy_91 : decode cX6_buy 91 = .ok (.return_, 1) := by decide +kernel
theorem dX6_replace_0 : decode cX6_replace 0 = .ok (.aload_n 1, 1) := by decide +kernel
theorem dX6_replace_1 : decode cX6_replace 1 = .ok (.getfield 62, 3) := by decide +kernel
theorem dX6_replace_4 : decode cX6_replace 4 = .ok (.iload_n 2, 1) := by decide +kernel
theorem dX6_replace_5 : decode cX6_replace 5 = .ok (.aaload, 1) := by decide +kernel
theorem dX6_replace_6 : decode cX6_replace 6 = .ok (.getfield 110, 3) := by decide +kernel
theorem dX6_replace_9 : decode cX6_replace 9 = .ok (.istore 4, 2) := by decide +kernel
theorem dX6_replace_11 : decode cX6_replace 11 = .ok (.aload_n 1, 1) := by decide +kernel
theorem dX6_replace_12 : decode cX6_replace 12 = .ok (.iload 4, 2) := by decide +kernel
theorem dX6_replace_14 : decode cX6_replace 14 = .ok (.invokevirtual 113, 3) := by decide +kernel
theorem dX6_replace_17 : decode cX6_replace 17 = .ok (.ifCond .ne 5, 3) := by decide +kernel
theorem dX6_replace_20 : decode cX6_replace 20 = .ok (.iconst 0, 1) := by decide +kernel
theorem dX6_replace_21 : decode cX6_replace 21 = .ok (.ireturn, 1) := by decide +kernel
theorem dX6_replace_22 : decode cX6_replace 22 = .ok (.iload_n 3, 1) := by decide +kernel
theorem dX6_replace_23 : decode cX6_replace 23 = .ok (.aload_n 1, 1) := by decide +kernel
theorem dX6_replace_24 : decode cX6_replace 24 = .ok (.getfield 62, 3) := by decide +kernel
theorem dX6_replace_27 : decode cX6_replace 27 = .ok (.iload_n 2, 1) := by decide +kernel
theorem dX6_replace_28 : decode cX6_replace 28 = .ok (.aaload, 1) := by decide +kernel
theorem dX6_replace_29 : decode cX6_replace 29 = .ok (.getfield 117, 3) := by decide +kernel
theorem dX6_replace_32 : decode cX6_replace 32 = .ok (.imul, 1) := by decide +kernel
theorem dX6_replace_33 : decode cX6_replace 33 = .ok (.bipush 100, 2) := by decide +kernel
theorem dX6_replace_35 : decode cX6_replace 35 = .ok (.invokestatic 120, 3) := by decide +kernel
theorem dX6_replace_38 : decode cX6_replace 38 = .ok (.istore 5, 2) := by decide +kernel
theorem dX6_replace_40 : decode cX6_replace 40 = .ok (.aload_n 0, 1) := by decide +kernel
theorem dX6_replace_41 : decode cX6_replace 41 = .ok (.getfield 9, 3) := by decide +kernel
theorem dX6_replace_44 : decode cX6_replace 44 = .ok (.iload 4, 2) := by decide +kernel
theorem dX6_replace_46 : decode cX6_replace 46 = .ok (.iaload, 1) := by decide +kernel
theorem dX6_replace_47 : decode cX6_replace 47 = .ok (.iload 5, 2) := by decide +kernel
theorem dX6_replace_49 : decode cX6_replace 49 = .ok (.iadd, 1) := by decide +kernel
theorem dX6_replace_50 : decode cX6_replace 50 = .ok (.ldc 123, 2) := by decide +kernel
theorem dX6_replace_52 : decode cX6_replace 52 = .ok (.if_icmp .le 5, 3) := by decide +kernel
theorem dX6_replace_55 : decode cX6_replace 55 = .ok (.iconst 0, 1) := by decide +kernel
theorem dX6_replace_56 : decode cX6_replace 56 = .ok (.ireturn, 1) := by decide +kernel
theorem dX6_replace_57 : decode cX6_replace 57 = .ok (.aload_n 0, 1) := by decide +kernel
theorem dX6_replace_58 : decode cX6_replace 58 = .ok (.getfield 27, 3) := by decide +kernel
theorem dX6_replace_61 : decode cX6_replace 61 = .ok (.iload_n 2, 1) := by decide +kernel
theorem dX6_replace_62 : decode cX6_replace 62 = .ok (.iload_n 3, 1) := by decide +kernel
theorem dX6_replace_63 : decode cX6_replace 63 = .ok (.iastore, 1) := by decide +kernel
theorem dX6_replace_64 : decode cX6_replace 64 = .ok (.aload_n 0, 1) := by decide +kernel
theorem dX6_replace_65 : decode cX6_replace 65 = .ok (.getfield 15, 3) := by decide +kernel
theorem dX6_replace_68 : decode cX6_replace 68 = .ok (.iload 4, 2) := by decide +kernel
theorem dX6_replace_70 : decode cX6_replace 70 = .ok (.dup2, 1) := by decide +kernel
theorem dX6_replace_71 : decode cX6_replace 71 = .ok (.iaload, 1) := by decide +kernel
theorem dX6_replace_72 : decode cX6_replace 72 = .ok (.iload 5, 2) := by decide +kernel
theorem dX6_replace_74 : decode cX6_replace 74 = .ok (.iadd, 1) := by decide +kernel
theorem dX6_replace_75 : decode cX6_replace 75 = .ok (.iastore, 1) := by decide +kernel
theorem dX6_replace_76 : decode cX6_replace 76 = .ok (.aload_n 0, 1) := by decide +kernel
theorem dX6_replace_77 : decode cX6_replace 77 = .ok (.getfield 9, 3) := by decide +kernel
theorem dX6_replace_80 : decode cX6_replace 80 = .ok (.iload 4, 2) := by decide +kernel
theorem dX6_replace_82 : decode cX6_replace 82 = .ok (.dup2, 1) := by decide +kernel
theorem dX6_replace_83 : decode cX6_replace 83 = .ok (.iaload, 1) := by decide +kernel
theorem dX6_replace_84 : decode cX6_replace 84 = .ok (.iload 5, 2) := by decide +kernel
theorem dX6_replace_86 : decode cX6_replace 86 = .ok (.iadd, 1) := by decide +kernel
theorem dX6_replace_87 : decode cX6_replace 87 = .ok (.iastore, 1) := by decide +kernel
theorem dX6_replace_88 : decode cX6_replace 88 = .ok (.iconst 1, 1) := by decide +kernel
theorem dX6_replace_89 : decode cX6_replace 89 = .ok (.ireturn, 1) := by decide +kernel
theorem dX6_carryOut_0 : decode cX6_carryOut 0 = .ok (.iconst 0, 1) := by decide +kernel
theorem dX6_carryOut_1 : decode cX6_carryOut 1 = .ok (.istore_n 2, 1) := by decide +kernel
theorem dX6_carryOut_2 : decode cX6_carryOut 2 = .ok (.iload_n 2, 1) := by decide +kernel
theorem dX6_carryOut_3 : decode cX6_carryOut 3 = .ok (.bipush 8, 2) := by decide +kernel
theorem dX6_carryOut_5 : decode cX6_carryOut 5 = .ok (.if_icmp .ge 88, 3) := by decide +kernel
theorem dX6_carryOut_8 : decode cX6_carryOut 8 = .ok (.aload_n 1, 1) := by decide +kernel
theorem dX6_carryOut_9 : decode cX6_carryOut 9 = .ok (.getfield 62, 3) := by decide +kernel
theorem dX6_carryOut_12 : decode cX6_carryOut 12 = .ok (.iload_n 2, 1) := by decide +kernel
theorem dX6_carryOut_13 : decode cX6_carryOut 13 = .ok (.aaload, 1) := by decide +kernel
theorem dX6_carryOut_14 : decode cX6_carryOut 14 = .ok (.astore_n 3, 1) := by decide +kernel
theorem dX6_carryOut_15 : decode cX6_carryOut 15 = .ok (.aload_n 3, 1) := by decide +kernel
theorem dX6_carryOut_16 : decode cX6_carryOut 16 = .ok (.aload_n 1, 1) := by decide +kernel
theorem dX6_carryOut_17 : decode cX6_carryOut 17 = .ok (.getfield 124, 3) := by decide +kernel
theorem dX6_carryOut_20 : decode cX6_carryOut 20 = .ok (.aload_n 0, 1) := by decide +kernel
theorem dX6_carryOut_21 : decode cX6_carryOut 21 = .ok (.getfield 18, 3) := by decide +kernel
theorem dX6_carryOut_24 : decode cX6_carryOut 24 = .ok (.iload_n 2, 1) := by decide +kernel
theorem dX6_carryOut_25 : decode cX6_carryOut 25 = .ok (.iaload, 1) := by decide +kernel
theorem dX6_carryOut_26 : decode cX6_carryOut 26 = .ok (.invokevirtual 127, 3) := by decide +kernel
theorem dX6_carryOut_29 : decode cX6_carryOut 29 = .ok (.aload_n 3, 1) := by decide +kernel
theorem dX6_carryOut_30 : decode cX6_carryOut 30 = .ok (.aload_n 1, 1) := by decide +kernel
theorem dX6_carryOut_31 : decode cX6_carryOut 31 = .ok (.getfield 124, 3) := by decide +kernel
theorem dX6_carryOut_34 : decode cX6_carryOut 34 = .ok (.aload_n 0, 1) := by decide +kernel
theorem dX6_carryOut_35 : decode cX6_carryOut 35 = .ok (.getfield 24, 3) := by decide +kernel
theorem dX6_carryOut_38 : decode cX6_carryOut 38 = .ok (.iload_n 2, 1) := by decide +kernel
theorem dX6_carryOut_39 : decode cX6_carryOut 39 = .ok (.iaload, 1) := by decide +kernel
theorem dX6_carryOut_40 : decode cX6_carryOut 40 = .ok (.invokevirtual 131, 3) := by decide +kernel
theorem dX6_carryOut_43 : decode cX6_carryOut 43 = .ok (.aload_n 3, 1) := by decide +kernel
theorem dX6_carryOut_44 : decode cX6_carryOut 44 = .ok (.dup, 1) := by decide +kernel
theorem dX6_carryOut_45 : decode cX6_carryOut 45 = .ok (.getfield 134, 3) := by decide +kernel
theorem dX6_carryOut_48 : decode cX6_carryOut 48 = .ok (.aload_n 0, 1) := by decide +kernel
theorem dX6_carryOut_49 : decode cX6_carryOut 49 = .ok (.getfield 21, 3) := by decide +kernel
theorem dX6_carryOut_52 : decode cX6_carryOut 52 = .ok (.iload_n 2, 1) := by decide +kernel
theorem dX6_carryOut_53 : decode cX6_carryOut 53 = .ok (.iaload, 1) := by decide +kernel
theorem dX6_carryOut_54 : decode cX6_carryOut 54 = .ok (.iadd, 1) := by decide +kernel
theorem dX6_carryOut_55 : decode cX6_carryOut 55 = .ok (.putfield 134, 3) := by decide +kernel
theorem dX6_carryOut_58 : decode cX6_carryOut 58 = .ok (.aload_n 3, 1) := by decide +kernel
theorem dX6_carryOut_59 : decode cX6_carryOut 59 = .ok (.dup, 1) := by decide +kernel
theorem dX6_carryOut_60 : decode cX6_carryOut 60 = .ok (.getfield 136, 3) := by decide +kernel
theorem dX6_carryOut_63 : decode cX6_carryOut 63 = .ok (.aload_n 0, 1) := by decide +kernel
theorem dX6_carryOut_64 : decode cX6_carryOut 64 = .ok (.getfield 18, 3) := by decide +kernel
theorem dX6_carryOut_67 : decode cX6_carryOut 67 = .ok (.iload_n 2, 1) := by decide +kernel
theorem dX6_carryOut_68 : decode cX6_carryOut 68 = .ok (.iaload, 1) := by decide +kernel
theorem dX6_carryOut_69 : decode cX6_carryOut 69 = .ok (.aload_n 0, 1) := by decide +kernel
theorem dX6_carryOut_70 : decode cX6_carryOut 70 = .ok (.getfield 21, 3) := by decide +kernel
theorem dX6_carryOut_73 : decode cX6_carryOut 73 = .ok (.iload_n 2, 1) := by decide +kernel
theorem dX6_carryOut_74 : decode cX6_carryOut 74 = .ok (.iaload, 1) := by decide +kernel
theorem dX6_carryOut_75 : decode cX6_carryOut 75 = .ok (.iadd, 1) := by decide +kernel
theorem dX6_carryOut_76 : decode cX6_carryOut 76 = .ok (.aload_n 0, 1) := by decide +kernel
theorem dX6_carryOut_77 : decode cX6_carryOut 77 = .ok (.getfield 24, 3) := by decide +kernel
theorem dX6_carryOut_80 : decode cX6_carryOut 80 = .ok (.iload_n 2, 1) := by decide +kernel
theorem dX6_carryOut_81 : decode cX6_carryOut 81 = .ok (.iaload, 1) := by decide +kernel
theorem dX6_carryOut_82 : decode cX6_carryOut 82 = .ok (.isub, 1) := by decide +kernel
theorem dX6_carryOut_83 : decode cX6_carryOut 83 = .ok (.iadd, 1) := by decide +kernel
theorem dX6_carryOut_84 : decode cX6_carryOut 84 = .ok (.putfield 136, 3) := by decide +kernel
theorem dX6_carryOut_87 : decode cX6_carryOut 87 = .ok (.iinc 2 1, 3) := by decide +kernel
theorem dX6_carryOut_90 : decode cX6_carryOut 90 = .ok (.goto (-88), 3) := by decide +kernel
theorem dX6_carryOut_93 : decode cX6_carryOut 93 = .ok (.return_, 1) := by decide +kernel
theorem dX6_allPrices_0 : decode cX6_allPrices 0 = .ok (.aload_n 0, 1) := by decide +kernel
theorem dX6_allPrices_1 : decode cX6_allPrices 1 = .ok (.getfield 33, 3) := by decide +kernel
theorem dX6_allPrices_4 : decode cX6_allPrices 4 = .ok (.invokestatic 139, 3) := by decide +kernel
theorem dX6_allPrices_7 : decode cX6_allPrices 7 = .ok (.ireturn, 1) := by decide +kernel
theorem dX6_allLeftOver_0 : decode cX6_allLeftOver 0 = .ok (.aload_n 0, 1) := by decide +kernel
theorem dX6_allLeftOver_1 : decode cX6_allLeftOver 1 = .ok (.getfield 24, 3) := by decide +kernel
theorem dX6_allLeftOver_4 : decode cX6_allLeftOver 4 = .ok (.invokestatic 139, 3) := by decide +kernel
theorem dX6_allLeftOver_7 : decode cX6_allLeftOver 7 = .ok (.ireturn, 1) := by decide +kernel
theorem dX6_missingSet_0 : decode cX6_missingSet 0 = .ok (.iconst 0, 1) := by decide +kernel
theorem dX6_missingSet_1 : decode cX6_missingSet 1 = .ok (.istore_n 1, 1) := by decide +kernel
theorem dX6_missingSet_2 : decode cX6_missingSet 2 = .ok (.iconst 0, 1) := by decide +kernel
theorem dX6_missingSet_3 : decode cX6_missingSet 3 = .ok (.istore_n 2, 1) := by decide +kernel
theorem dX6_missingSet_4 : decode cX6_missingSet 4 = .ok (.iload_n 2, 1) := by decide +kernel
theorem dX6_missingSet_5 : decode cX6_missingSet 5 = .ok (.bipush 8, 2) := by decide +kernel
theorem dX6_missingSet_7 : decode cX6_missingSet 7 = .ok (.if_icmp .ge 24, 3) := by decide +kernel
theorem dX6_missingSet_10 : decode cX6_missingSet 10 = .ok (.aload_n 0, 1) := by decide +kernel
theorem dX6_missingSet_11 : decode cX6_missingSet 11 = .ok (.getfield 30, 3) := by decide +kernel
theorem dX6_missingSet_14 : decode cX6_missingSet 14 = .ok (.iload_n 2, 1) := by decide +kernel
theorem dX6_missingSet_15 : decode cX6_missingSet 15 = .ok (.iaload, 1) := by decide +kernel
theorem dX6_missingSet_16 : decode cX6_missingSet 16 = .ok (.ifCond .le 9, 3) := by decide +kernel
theorem dX6_missingSet_19 : decode cX6_missingSet 19 = .ok (.iload_n 1, 1) := by decide +kernel
theorem dX6_missingSet_20 : decode cX6_missingSet 20 = .ok (.iconst 1, 1) := by decide +kernel
theorem dX6_missingSet_21 : decode cX6_missingSet 21 = .ok (.iload_n 2, 1) := by decide +kernel
theorem dX6_missingSet_22 : decode cX6_missingSet 22 = .ok (.ishl, 1) := by decide +kernel
theorem dX6_missingSet_23 : decode cX6_missingSet 23 = .ok (.ior, 1) := by decide +kernel
theorem dX6_missingSet_24 : decode cX6_missingSet 24 = .ok (.istore_n 1, 1) := by decide +kernel
theorem dX6_missingSet_25 : decode cX6_missingSet 25 = .ok (.iinc 2 1, 3) := by decide +kernel
theorem dX6_missingSet_28 : decode cX6_missingSet 28 = .ok (.goto (-24), 3) := by decide +kernel
theorem dX6_missingSet_31 : decode cX6_missingSet 31 = .ok (.iload_n 1, 1) := by decide +kernel
theorem dX6_missingSet_32 : decode cX6_missingSet 32 = .ok (.ireturn, 1) := by decide +kernel
theorem dX6_sum_0 : decode cX6_sum 0 = .ok (.iconst 0, 1) := by decide +kernel
theorem dX6_sum_1 : decode cX6_sum 1 = .ok (.istore_n 1, 1) := by decide +kernel
theorem dX6_sum_2 : decode cX6_sum 2 = .ok (.aload_n 0, 1) := by decide +kernel
theorem dX6_sum_3 : decode cX6_sum 3 = .ok (.astore_n 2, 1) := by decide +kernel
theorem dX6_sum_4 : decode cX6_sum 4 = .ok (.aload_n 2, 1) := by decide +kernel
theorem dX6_sum_5 : decode cX6_sum 5 = .ok (.arraylength, 1) := by decide +kernel
theorem dX6_sum_6 : decode cX6_sum 6 = .ok (.istore_n 3, 1) := by decide +kernel
theorem dX6_sum_7 : decode cX6_sum 7 = .ok (.iconst 0, 1) := by decide +kernel
theorem dX6_sum_8 : decode cX6_sum 8 = .ok (.istore 4, 2) := by decide +kernel
theorem dX6_sum_10 : decode cX6_sum 10 = .ok (.iload 4, 2) := by decide +kernel
theorem dX6_sum_12 : decode cX6_sum 12 = .ok (.iload_n 3, 1) := by decide +kernel
theorem dX6_sum_13 : decode cX6_sum 13 = .ok (.if_icmp .ge 20, 3) := by decide +kernel
theorem dX6_sum_16 : decode cX6_sum 16 = .ok (.aload_n 2, 1) := by decide +kernel
theorem dX6_sum_17 : decode cX6_sum 17 = .ok (.iload 4, 2) := by decide +kernel
theorem dX6_sum_19 : decode cX6_sum 19 = .ok (.iaload, 1) := by decide +kernel
theorem dX6_sum_20 : decode cX6_sum 20 = .ok (.istore 5, 2) := by decide +kernel
theorem dX6_sum_22 : decode cX6_sum 22 = .ok (.iload_n 1, 1) := by decide +kernel
theorem dX6_sum_23 : decode cX6_sum 23 = .ok (.iload 5, 2) := by decide +kernel
theorem dX6_sum_25 : decode cX6_sum 25 = .ok (.iadd, 1) := by decide +kernel
theorem dX6_sum_26 : decode cX6_sum 26 = .ok (.istore_n 1, 1) := by decide +kernel
theorem dX6_sum_27 : decode cX6_sum 27 = .ok (.iinc 4 1, 3) := by decide +kernel
theorem dX6_sum_30 : decode cX6_sum 30 = .ok (.goto (-20), 3) := by decide +kernel
theorem dX6_sum_33 : decode cX6_sum 33 = .ok (.iload_n 1, 1) := by decide +kernel
theorem dX6_sum_34 : decode cX6_sum 34 = .ok (.ireturn, 1) := by decide +kernel
theorem dX7_init_0 : decode cX7_init 0 = .ok (.aload_n 0, 1) := by decide +kernel
theorem dX7_init_1 : decode cX7_init 1 = .ok (.invokespecial 3, 3) := by decide +kernel
theorem dX7_init_4 : decode cX7_init 4 = .ok (.aload_n 0, 1) := by decide +kernel
theorem dX7_init_5 : decode cX7_init 5 = .ok (.iconst 2, 1) := by decide +kernel
theorem dX7_init_6 : decode cX7_init 6 = .ok (.putfield 9, 3) := by decide +kernel
theorem dX7_init_9 : decode cX7_init 9 = .ok (.aload_n 0, 1) := by decide +kernel
theorem dX7_init_10 : decode cX7_init 10 = .ok (.bipush 8, 2) := by decide +kernel
theorem dX7_init_12 : decode cX7_init 12 = .ok (.anewarray 15, 3) := by decide +kernel
theorem dX7_init_15 : decode cX7_init 15 = .ok (.putfield 17, 3) := by decide +kernel
theorem dX7_init_18 : decode cX7_init 18 = .ok (.aload_n 0, 1) := by decide +kernel
theorem dX7_init_19 : decode cX7_init 19 = .ok (.iconst 4, 1) := by decide +kernel
theorem dX7_init_20 : decode cX7_init 20 = .ok (.anewarray 21, 3) := by decide +kernel
theorem dX7_init_23 : decode cX7_init 23 = .ok (.putfield 23, 3) := by decide +kernel
theorem dX7_init_26 : decode cX7_init 26 = .ok (.iconst 0, 1) := by decide +kernel
theorem dX7_init_27 : decode cX7_init 27 = .ok (.istore_n 1, 1) := by decide +kernel
theorem dX7_init_28 : decode cX7_init 28 = .ok (.iload_n 1, 1) := by decide +kernel
theorem dX7_init_29 : decode cX7_init 29 = .ok (.bipush 8, 2) := by decide +kernel
theorem dX7_init_31 : decode cX7_init 31 = .ok (.if_icmp .ge 22, 3) := by decide +kernel
theorem dX7_init_34 : decode cX7_init 34 = .ok (.aload_n 0, 1) := by decide +kernel
theorem dX7_init_35 : decode cX7_init 35 = .ok (.getfield 17, 3) := by decide +kernel
theorem dX7_init_38 : decode cX7_init 38 = .ok (.iload_n 1, 1) := by decide +kernel
theorem dX7_init_39 : decode cX7_init 39 = .ok (.new 15, 3) := by decide +kernel
theorem dX7_init_42 : decode cX7_init 42 = .ok (.dup, 1) := by decide +kernel
theorem dX7_init_43 : decode cX7_init 43 = .ok (.invokespecial 27, 3) := by decide +kernel
theorem dX7_init_46 : decode cX7_init 46 = .ok (.aastore, 1) := by decide +kernel
theorem dX7_init_47 : decode cX7_init 47 = .ok (.iinc 1 1, 3) := by decide +kernel
theorem dX7_init_50 : decode cX7_init 50 = .ok (.goto (-22), 3) := by decide +kernel
theorem dX7_init_53 : decode cX7_init 53 = .ok (.iconst 0, 1) := by decide +kernel
theorem dX7_init_54 : decode cX7_init 54 = .ok (.istore_n 1, 1) := by decide +kernel
theorem dX7_init_55 : decode cX7_init 55 = .ok (.iload_n 1, 1) := by decide +kernel
theorem dX7_init_56 : decode cX7_init 56 = .ok (.iconst 4, 1) := by decide +kernel
theorem dX7_init_57 : decode cX7_init 57 = .ok (.if_icmp .ge 22, 3) := by decide +kernel
theorem dX7_init_60 : decode cX7_init 60 = .ok (.aload_n 0, 1) := by decide +kernel
theorem dX7_init_61 : decode cX7_init 61 = .ok (.getfield 23, 3) := by decide +kernel
theorem dX7_init_64 : decode cX7_init 64 = .ok (.iload_n 1, 1) := by decide +kernel
theorem dX7_init_65 : decode cX7_init 65 = .ok (.new 21, 3) := by decide +kernel
theorem dX7_init_68 : decode cX7_init 68 = .ok (.dup, 1) := by decide +kernel
theorem dX7_init_69 : decode cX7_init 69 = .ok (.invokespecial 28, 3) := by decide +kernel
theorem dX7_init_72 : decode cX7_init 72 = .ok (.aastore, 1) := by decide +kernel
theorem dX7_init_73 : decode cX7_init 73 = .ok (.iinc 1 1, 3) := by decide +kernel
theorem dX7_init_76 : decode cX7_init 76 = .ok (.goto (-21), 3) := by decide +kernel
theorem dX7_init_79 : decode cX7_init 79 = .ok (.return_, 1) := by decide +kernel
theorem dX7_copyFrom_0 : decode cX7_copyFrom 0 = .ok (.aload_n 0, 1) := by decide +kernel
theorem dX7_copyFrom_1 : decode cX7_copyFrom 1 = .ok (.aload_n 1, 1) := by decide +kernel
theorem dX7_copyFrom_2 : decode cX7_copyFrom 2 = .ok (.getfield 29, 3) := by decide +kernel
theorem dX7_copyFrom_5 : decode cX7_copyFrom 5 = .ok (.putfield 29, 3) := by decide +kernel
theorem dX7_copyFrom_8 : decode cX7_copyFrom 8 = .ok (.aload_n 0, 1) := by decide +kernel
theorem dX7_copyFrom_9 : decode cX7_copyFrom 9 = .ok (.aload_n 1, 1) := by decide +kernel
theorem dX7_copyFrom_10 : decode cX7_copyFrom 10 = .ok (.getfield 9, 3) := by decide +kernel
theorem dX7_copyFrom_13 : decode cX7_copyFrom 13 = .ok (.putfield 9, 3) := by decide +kernel
theorem dX7_copyFrom_16 : decode cX7_copyFrom 16 = .ok (.aload_n 0, 1) := by decide +kernel
theorem dX7_copyFrom_17 : decode cX7_copyFrom 17 = .ok (.aload_n 1, 1) := by decide +kernel
theorem dX7_copyFrom_18 : decode cX7_copyFrom 18 = .ok (.getfield 32, 3) := by decide +kernel
theorem dX7_copyFrom_21 : decode cX7_copyFrom 21 = .ok (.putfield 32, 3) := by decide +kernel
theorem dX7_copyFrom_24 : decode cX7_copyFrom 24 = .ok (.aload_n 0, 1) := by decide +kernel
theorem dX7_copyFrom_25 : decode cX7_copyFrom 25 = .ok (.aload_n 1, 1) := by decide +kernel
theorem dX7_copyFrom_26 : decode cX7_copyFrom 26 = .ok (.getfield 35, 3) := by decide +kernel
theorem dX7_copyFrom_29 : decode cX7_copyFrom 29 = .ok (.putfield 35, 3) := by decide +kernel
theorem dX7_copyFrom_32 : decode cX7_copyFrom 32 = .ok (.aload_n 0, 1) := by decide +kernel
theorem dX7_copyFrom_33 : decode cX7_copyFrom 33 = .ok (.aload_n 1, 1) := by decide +kernel
theorem dX7_copyFrom_34 : decode cX7_copyFrom 34 = .ok (.getfield 38, 3) := by decide +kernel
theorem dX7_copyFrom_37 : decode cX7_copyFrom 37 = .ok (.putfield 38, 3) := by decide +kernel
theorem dX7_copyFrom_40 : decode cX7_copyFrom 40 = .ok (.aload_n 0, 1) := by decide +kernel
theorem dX7_copyFrom_41 : decode cX7_copyFrom 41 = .ok (.aload_n 1, 1) := by decide +kernel
theorem dX7_copyFrom_42 : decode cX7_copyFrom 42 = .ok (.getfield 41, 3) := by decide +kernel
theorem dX7_copyFrom_45 : decode cX7_copyFrom 45 = .ok (.putfield 41, 3) := by decide +kernel
theorem dX7_copyFrom_48 : decode cX7_copyFrom 48 = .ok (.iconst 0, 1) := by decide +kernel
theorem dX7_copyFrom_49 : decode cX7_copyFrom 49 = .ok (.istore_n 2, 1) := by decide +kernel
theorem dX7_copyFrom_50 : decode cX7_copyFrom 50 = .ok (.iload_n 2, 1) := by decide +kernel
theorem dX7_copyFrom_51 : decode cX7_copyFrom 51 = .ok (.bipush 8, 2) := by decide +kernel
theorem dX7_copyFrom_53 : decode cX7_copyFrom 53 = .ok (.if_icmp .ge 24, 3) := by decide +kernel
theorem dX7_copyFrom_56 : decode cX7_copyFrom 56 = .ok (.aload_n 0, 1) := by decide +kernel
theorem dX7_copyFrom_57 : decode cX7_copyFrom 57 = .ok (.getfield 17, 3) := by decide +kernel
theorem dX7_copyFrom_60 : decode cX7_copyFrom 60 = .ok (.iload_n 2, 1) := by decide +kernel
theorem dX7_copyFrom_61 : decode cX7_copyFrom 61 = .ok (.aaload, 1) := by decide +kernel
theorem dX7_copyFrom_62 : decode cX7_copyFrom 62 = .ok (.aload_n 1, 1) := by decide +kernel
theorem dX7_copyFrom_63 : decode cX7_copyFrom 63 = .ok (.getfield 17, 3) := by decide +kernel
theorem dX7_copyFrom_66 : decode cX7_copyFrom 66 = .ok (.iload_n 2, 1) := by decide +kernel
theorem dX7_copyFrom_67 : decode cX7_copyFrom 67 = .ok (.aaload, 1) := by decide +kernel
theorem dX7_copyFrom_68 : decode cX7_copyFrom 68 = .ok (.invokevirtual 44, 3) := by decide +kernel
theorem dX7_copyFrom_71 : decode cX7_copyFrom 71 = .ok (.iinc 2 1, 3) := by decide +kernel
theorem dX7_copyFrom_74 : decode cX7_copyFrom 74 = .ok (.goto (-24), 3) := by decide +kernel
theorem dX7_copyFrom_77 : decode cX7_copyFrom 77 = .ok (.iconst 0, 1) := by decide +kernel
theorem dX7_copyFrom_78 : decode cX7_copyFrom 78 = .ok (.istore_n 2, 1) := by decide +kernel
theorem dX7_copyFrom_79 : decode cX7_copyFrom 79 = .ok (.iload_n 2, 1) := by decide +kernel
theorem dX7_copyFrom_80 : decode cX7_copyFrom 80 = .ok (.iconst 4, 1) := by decide +kernel
theorem dX7_copyFrom_81 : decode cX7_copyFrom 81 = .ok (.if_icmp .ge 24, 3) := by decide +kernel
theorem dX7_copyFrom_84 : decode cX7_copyFrom 84 = .ok (.aload_n 0, 1) := by decide +kernel
theorem dX7_copyFrom_85 : decode cX7_copyFrom 85 = .ok (.getfield 23, 3) := by decide +kernel
theorem dX7_copyFrom_88 : decode cX7_copyFrom 88 = .ok (.iload_n 2, 1) := by decide +kernel
theorem dX7_copyFrom_89 : decode cX7_copyFrom 89 = .ok (.aaload, 1) := by decide +kernel
theorem dX7_copyFrom_90 : decode cX7_copyFrom 90 = .ok (.aload_n 1, 1) := by decide +kernel
theorem dX7_copyFrom_91 : decode cX7_copyFrom 91 = .ok (.getfield 23, 3) := by decide +kernel
theorem dX7_copyFrom_94 : decode cX7_copyFrom 94 = .ok (.iload_n 2, 1) := by decide +kernel
theorem dX7_copyFrom_95 : decode cX7_copyFrom 95 = .ok (.aaload, 1) := by decide +kernel
theorem dX7_copyFrom_96 : decode cX7_copyFrom 96 = .ok (.invokevirtual 48, 3) := by decide +kernel
theorem dX7_copyFrom_99 : decode cX7_copyFrom 99 = .ok (.iinc 2 1, 3) := by decide +kernel
theorem dX7_copyFrom_102 : decode cX7_copyFrom 102 = .ok (.goto (-23), 3) := by decide +kernel
theorem dX7_copyFrom_105 : decode cX7_copyFrom 105 = .ok (.return_, 1) := by decide +kernel
theorem dX7_hasIngredient_0 : decode cX7_hasIngredient 0 = .ok (.iload_n 1, 1) := by decide +kernel
theorem dX7_hasIngredient_1 : decode cX7_hasIngredient 1 = .ok (.ifCond .lt 21, 3) := by decide +kernel
theorem dX7_hasIngredient_4 : decode cX7_hasIngredient 4 = .ok (.iload_n 1, 1) := by decide +kernel
theorem dX7_hasIngredient_5 : decode cX7_hasIngredient 5 = .ok (.aload_n 0, 1) := by decide +kernel
theorem dX7_hasIngredient_6 : decode cX7_hasIngredient 6 = .ok (.getfield 38, 3) := by decide +kernel
theorem dX7_hasIngredient_9 : decode cX7_hasIngredient 9 = .ok (.if_icmp .ge 13, 3) := by decide +kernel
theorem dX7_hasIngredient_12 : decode cX7_hasIngredient 12 = .ok (.iload_n 1, 1) := by decide +kernel
theorem dX7_hasIngredient_13 : decode cX7_hasIngredient 13 = .ok (.bipush 8, 2) := by decide +kernel
theorem dX7_hasIngredient_15 : decode cX7_hasIngredient 15 = .ok (.if_icmp .ge 7, 3) := by decide +kernel
theorem dX7_hasIngredient_18 : decode cX7_hasIngredient 18 = .ok (.iconst 1, 1) := by decide +kernel
theorem dX7_hasIngredient_19 : decode cX7_hasIngredient 19 = .ok (.goto 4, 3) := by decide +kernel
theorem dX7_hasIngredient_22 : decode cX7_hasIngredient 22 = .ok (.iconst 0, 1) := by decide +kernel
theorem dX7_hasIngredient_23 : decode cX7_hasIngredient 23 = .ok (.ireturn, 1) := by decide +kernel
theorem dX7_hasRecipe_0 : decode cX7_hasRecipe 0 = .ok (.iload_n 1, 1) := by decide +kernel
theorem dX7_hasRecipe_1 : decode cX7_hasRecipe 1 = .ok (.ifCond .lt 20, 3) := by decide +kernel
theorem dX7_hasRecipe_4 : decode cX7_hasRecipe 4 = .ok (.iload_n 1, 1) := by decide +kernel
theorem dX7_hasRecipe_5 : decode cX7_hasRecipe 5 = .ok (.aload_n 0, 1) := by decide +kernel
theorem dX7_hasRecipe_6 : decode cX7_hasRecipe 6 = .ok (.getfield 41, 3) := by decide +kernel
theorem dX7_hasRecipe_9 : decode cX7_hasRecipe 9 = .ok (.if_icmp .ge 12, 3) := by decide +kernel
theorem dX7_hasRecipe_12 : decode cX7_hasRecipe 12 = .ok (.iload_n 1, 1) := by decide +kernel
theorem dX7_hasRecipe_13 : decode cX7_hasRecipe 13 = .ok (.iconst 4, 1) := by decide +kernel
theorem dX7_hasRecipe_14 : decode cX7_hasRecipe 14 = .ok (.if_icmp .ge 7, 3) := by decide +kernel
theorem dX7_hasRecipe_17 : decode cX7_hasRecipe 17 = .ok (.iconst 1, 1) := by decide +kernel
theorem dX7_hasRecipe_18 : decode cX7_hasRecipe 18 = .ok (.goto 4, 3) := by decide +kernel
theorem dX7_hasRecipe_21 : decode cX7_hasRecipe 21 = .ok (.iconst 0, 1) := by decide +kernel
theorem dX7_hasRecipe_22 : decode cX7_hasRecipe 22 = .ok (.ireturn, 1) := by decide +kernel
theorem dX7_hasPortions_0 : decode cX7_hasPortions 0 = .ok (.aload_n 0, 1) := by decide +kernel
theorem dX7_hasPortions_1 : decode cX7_hasPortions 1 = .ok (.getfield 23, 3) := by decide +kernel
theorem dX7_hasPortions_4 : decode cX7_hasPortions 4 = .ok (.astore_n 1, 1) := by decide +kernel
theorem dX7_hasPortions_5 : decode cX7_hasPortions 5 = .ok (.aload_n 1, 1) := by decide +kernel
theorem dX7_hasPortions_6 : decode cX7_hasPortions 6 = .ok (.arraylength, 1) := by decide +kernel
theorem dX7_hasPortions_7 : decode cX7_hasPortions 7 = .ok (.istore_n 2, 1) := by decide +kernel
theorem dX7_hasPortions_8 : decode cX7_hasPortions 8 = .ok (.iconst 0, 1) := by decide +kernel
theorem dX7_hasPortions_9 : decode cX7_hasPortions 9 = .ok (.istore_n 3, 1) := by decide +kernel
theorem dX7_hasPortions_10 : decode cX7_hasPortions 10 = .ok (.iload_n 3, 1) := by decide +kernel
theorem dX7_hasPortions_11 : decode cX7_hasPortions 11 = .ok (.iload_n 2, 1) := by decide +kernel
theorem dX7_hasPortions_12 : decode cX7_hasPortions 12 = .ok (.if_icmp .ge 24, 3) := by decide +kernel
theorem dX7_hasPortions_15 : decode cX7_hasPortions 15 = .ok (.aload_n 1, 1) := by decide +kernel
theorem dX7_hasPortions_16 : decode cX7_hasPortions 16 = .ok (.iload_n 3, 1) := by decide +kernel
theorem dX7_hasPortions_17 : decode cX7_hasPortions 17 = .ok (.aaload, 1) := by decide +kernel
theorem dX7_hasPortions_18 : decode cX7_hasPortions 18 = .ok (.astore 4, 2) := by decide +kernel
theorem dX7_hasPortions_20 : decode cX7_hasPortions 20 = .ok (.aload 4, 2) := by decide +kernel
theorem dX7_hasPortions_22 : decode cX7_hasPortions 22 = .ok (.getfield 51, 3) := by decide +kernel
theorem dX7_hasPortions_25 : decode cX7_hasPortions 25 = .ok (.ifCond .le 5, 3) := by decide +kernel
theorem dX7_hasPortions_28 : decode cX7_hasPortions 28 = .ok (.iconst 1, 1) := by decide +kernel
theorem dX7_hasPortions_29 : decode cX7_hasPortions 29 = .ok (.ireturn, 1) := by decide +kernel
theorem dX7_hasPortions_30 : decode cX7_hasPortions 30 = .ok (.iinc 3 1, 3) := by decide +kernel
theorem dX7_hasPortions_33 : decode cX7_hasPortions 33 = .ok (.goto (-23), 3) := by decide +kernel
theorem dX7_hasPortions_36 : decode cX7_hasPortions 36 = .ok (.iconst 0, 1) := by decide +kernel
theorem dX7_hasPortions_37 : decode cX7_hasPortions 37 = .ok (.ireturn, 1) := by decide +kernel
theorem dX7_neededByRecipes_0 : decode cX7_neededByRecipes 0 = .ok (.iconst 0, 1) := by decide +kernel
theorem dX7_neededByRecipes_1 : decode cX7_neededByRecipes 1 = .ok (.istore_n 2, 1) := by decide +kernel
theorem dX7_neededByRecipes_2 : decode cX7_neededByRecipes 2 = .ok (.aload_n 0, 1) := by decide +kernel
theorem dX7_neededByRecipes_3 : decode cX7_neededByRecipes 3 = .ok (.iload_n 1, 1) := by decide +kernel
theorem dX7_neededByRecipes_4 : decode cX7_neededByRecipes 4 = .ok (.invokevirtual 54, 3) := by decide +kernel
theorem dX7_neededByRecipes_7 : decode cX7_neededByRecipes 7 = .ok (.ifCond .eq 49, 3) := by decide +kernel
theorem dX7_neededByRecipes_10 : decode cX7_neededByRecipes 10 = .ok (.aload_n 0, 1) := by decide +kernel
theorem dX7_neededByRecipes_11 : decode cX7_neededByRecipes 11 = .ok (.getfield 23, 3) := by decide +kernel
theorem dX7_neededByRecipes_14 : decode cX7_neededByRecipes 14 = .ok (.astore_n 3, 1) := by decide +kernel
theorem dX7_neededByRecipes_15 : decode cX7_neededByRecipes 15 = .ok (.aload_n 3, 1) := by decide +kernel
theorem dX7_neededByRecipes_16 : decode cX7_neededByRecipes 16 = .ok (.arraylength, 1) := by decide +kernel
theorem dX7_neededByRecipes_17 : decode cX7_neededByRecipes 17 = .ok (.istore 4, 2) := by decide +kernel
theorem dX7_neededByRecipes_19 : decode cX7_neededByRecipes 19 = .ok (.iconst 0, 1) := by decide +kernel
theorem dX7_neededByRecipes_20 : decode cX7_neededByRecipes 20 = .ok (.istore 5, 2) := by decide +kernel
theorem dX7_neededByRecipes_22 : decode cX7_neededByRecipes 22 = .ok (.iload 5, 2) := by decide +kernel
theorem dX7_neededByRecipes_24 : decode cX7_neededByRecipes 24 = .ok (.iload 4, 2) := by decide +kernel
theorem dX7_neededByRecipes_26 : decode cX7_neededByRecipes 26 = .ok (.if_icmp .ge 30, 3) := by decide +kernel
theorem dX7_neededByRecipes_29 : decode cX7_neededByRecipes 29 = .ok (.aload_n 3, 1) := by decide +kernel
theorem dX7_neededByRecipes_30 : decode cX7_neededByRecipes 30 = .ok (.iload 5, 2) := by decide +kernel
theorem dX7_neededByRecipes_32 : decode cX7_neededByRecipes 32 = .ok (.aaload, 1) := by decide +kernel
theorem dX7_neededByRecipes_33 : decode cX7_neededByRecipes 33 = .ok (.astore 6, 2) := by decide +kernel
theorem dX7_neededByRecipes_35 : decode cX7_neededByRecipes 35 = .ok (.iload_n 2, 1) := by decide +kernel
theorem dX7_neededByRecipes_36 : decode cX7_neededByRecipes 36 = .ok (.aload 6, 2) := by decide +kernel
theorem dX7_neededByRecipes_38 : decode cX7_neededByRecipes 38 = .ok (.aload 6, 2) := by decide +kernel
theorem dX7_neededByRecipes_40 : decode cX7_neededByRecipes 40 = .ok (.getfield 58, 3) := by decide +kernel
theorem dX7_neededByRecipes_43 : decode cX7_neededByRecipes 43 = .ok (.iload_n 1, 1) := by decide +kernel
theorem dX7_neededByRecipes_44 : decode cX7_neededByRecipes 44 = .ok (.iaload, 1) := by decide +kernel
theorem dX7_neededByRecipes_45 : decode cX7_neededByRecipes 45 = .ok (.invokevirtual 62, 3) := by decide +kernel
theorem dX7_neededByRecipes_48 : decode cX7_neededByRecipes 48 = .ok (.iadd, 1) := by decide +kernel
theorem dX7_neededByRecipes_49 : decode cX7_neededByRecipes 49 = .ok (.istore_n 2, 1) := by decide +kernel
theorem dX7_neededByRecipes_50 : decode cX7_neededByRecipes 50 = .ok (.iinc 5 1, 3) := by decide +kernel
theorem dX7_neededByRecipes_53 : decode cX7_neededByRecipes 53 = .ok (.goto (-31), 3) := by decide +kernel
theorem dX7_neededByRecipes_56 : decode cX7_neededByRecipes 56 = .ok (.iload_n 2, 1) := by decide +kernel
theorem dX7_neededByRecipes_57 : decode cX7_neededByRecipes 57 = .ok (.ireturn, 1) := by decide +kernel
theorem dX7_emptyMenu_0 : decode cX7_emptyMenu 0 = .ok (.aload_n 0, 1) := by decide +kernel
theorem dX7_emptyMenu_1 : decode cX7_emptyMenu 1 = .ok (.getfield 23, 3) := by decide +kernel
theorem dX7_emptyMenu_4 : decode cX7_emptyMenu 4 = .ok (.astore_n 1, 1) := by decide +kernel
theorem dX7_emptyMenu_5 : decode cX7_emptyMenu 5 = .ok (.aload_n 1, 1) := by decide +kernel
theorem dX7_emptyMenu_6 : decode cX7_emptyMenu 6 = .ok (.arraylength, 1) := by decide +kernel
theorem dX7_emptyMenu_7 : decode cX7_emptyMenu 7 = .ok (.istore_n 2, 1) := by decide +kernel
theorem dX7_emptyMenu_8 : decode cX7_emptyMenu 8 = .ok (.iconst 0, 1) := by decide +kernel
theorem dX7_emptyMenu_9 : decode cX7_emptyMenu 9 = .ok (.istore_n 3, 1) := by decide +kernel
theorem dX7_emptyMenu_10 : decode cX7_emptyMenu 10 = .ok (.iload_n 3, 1) := by decide +kernel
theorem dX7_emptyMenu_11 : decode cX7_emptyMenu 11 = .ok (.iload_n 2, 1) := by decide +kernel
theorem dX7_emptyMenu_12 : decode cX7_emptyMenu 12 = .ok (.if_icmp .ge 20, 3) := by decide +kernel
theorem dX7_emptyMenu_15 : decode cX7_emptyMenu 15 = .ok (.aload_n 1, 1) := by decide +kernel
theorem dX7_emptyMenu_16 : decode cX7_emptyMenu 16 = .ok (.iload_n 3, 1) := by decide +kernel
theorem dX7_emptyMenu_17 : decode cX7_emptyMenu 17 = .ok (.aaload, 1) := by decide +kernel
theorem dX7_emptyMenu_18 : decode cX7_emptyMenu 18 = .ok (.astore 4, 2) := by decide +kernel
theorem dX7_emptyMenu_20 : decode cX7_emptyMenu 20 = .ok (.aload 4, 2) := by decide +kernel
theorem dX7_emptyMenu_22 : decode cX7_emptyMenu 22 = .ok (.iconst 0, 1) := by decide +kernel
theorem dX7_emptyMenu_23 : decode cX7_emptyMenu 23 = .ok (.putfield 51, 3) := by decide +kernel
theorem dX7_emptyMenu_26 : decode cX7_emptyMenu 26 = .ok (.iinc 3 1, 3) := by decide +kernel
theorem dX7_emptyMenu_29 : decode cX7_emptyMenu 29 = .ok (.goto (-19), 3) := by decide +kernel
theorem dX7_emptyMenu_32 : decode cX7_emptyMenu 32 = .ok (.return_, 1) := by decide +kernel
theorem dX7_letPass_0 : decode cX7_letPass 0 = .ok (.iconst 0, 1) := by decide +kernel
theorem dX7_letPass_1 : decode cX7_letPass 1 = .ok (.istore_n 2, 1) := by decide +kernel
theorem dX7_letPass_2 : decode cX7_letPass 2 = .ok (.iconst 0, 1) := by decide +kernel
theorem dX7_letPass_3 : decode cX7_letPass 3 = .ok (.istore_n 3, 1) := by decide +kernel
theorem dX7_letPass_4 : decode cX7_letPass 4 = .ok (.iload_n 3, 1) := by decide +kernel
theorem dX7_letPass_5 : decode cX7_letPass 5 = .ok (.iload_n 1, 1) := by decide +kernel
theorem dX7_letPass_6 : decode cX7_letPass 6 = .ok (.if_icmp .ge 65, 3) := by decide +kernel
theorem dX7_letPass_9 : decode cX7_letPass 9 = .ok (.aload_n 0, 1) := by decide +kernel
theorem dX7_letPass_10 : decode cX7_letPass 10 = .ok (.dup, 1) := by decide +kernel
theorem dX7_letPass_11 : decode cX7_letPass 11 = .ok (.getfield 29, 3) := by decide +kernel
theorem dX7_letPass_14 : decode cX7_letPass 14 = .ok (.iconst 1, 1) := by decide +kernel
theorem dX7_letPass_15 : decode cX7_letPass 15 = .ok (.iadd, 1) := by decide +kernel
theorem dX7_letPass_16 : decode cX7_letPass 16 = .ok (.putfield 29, 3) := by decide +kernel
theorem dX7_letPass_19 : decode cX7_letPass 19 = .ok (.aload_n 0, 1) := by decide +kernel
theorem dX7_letPass_20 : decode cX7_letPass 20 = .ok (.getfield 17, 3) := by decide +kernel
theorem dX7_letPass_23 : decode cX7_letPass 23 = .ok (.astore 4, 2) := by decide +kernel
theorem dX7_letPass_25 : decode cX7_letPass 25 = .ok (.aload 4, 2) := by decide +kernel
theorem dX7_letPass_27 : decode cX7_letPass 27 = .ok (.arraylength, 1) := by decide +kernel
theorem dX7_letPass_28 : decode cX7_letPass 28 = .ok (.istore 5, 2) := by decide +kernel
theorem dX7_letPass_30 : decode cX7_letPass 30 = .ok (.iconst 0, 1) := by decide +kernel
theorem dX7_letPass_31 : decode cX7_letPass 31 = .ok (.istore 6, 2) := by decide +kernel
theorem dX7_letPass_33 : decode cX7_letPass 33 = .ok (.iload 6, 2) := by decide +kernel
theorem dX7_letPass_35 : decode cX7_letPass 35 = .ok (.iload 5, 2) := by decide +kernel
theorem dX7_letPass_37 : decode cX7_letPass 37 = .ok (.if_icmp .ge 28, 3) := by decide +kernel
theorem dX7_letPass_40 : decode cX7_letPass 40 = .ok (.aload 4, 2) := by decide +kernel
theorem dX7_letPass_42 : decode cX7_letPass 42 = .ok (.iload 6, 2) := by decide +kernel
theorem dX7_letPass_44 : decode cX7_letPass 44 = .ok (.aaload, 1) := by decide +kernel
theorem dX7_letPass_45 : decode cX7_letPass 45 = .ok (.astore 7, 2) := by decide +kernel
theorem dX7_letPass_47 : decode cX7_letPass 47 = .ok (.iload_n 2, 1) := by decide +kernel
theorem dX7_letPass_48 : decode cX7_letPass 48 = .ok (.aload 7, 2) := by decide +kernel
theorem dX7_letPass_50 : decode cX7_letPass 50 = .ok (.aload_n 0, 1) := by decide +kernel
theorem dX7_letPass_51 : decode cX7_letPass 51 = .ok (.getfield 29, 3) := by decide +kernel
theorem dX7_letPass_54 : decode cX7_letPass 54 = .ok (.invokevirtual 66, 3) := by decide +kernel
theorem dX7_letPass_57 : decode cX7_letPass 57 = .ok (.iadd, 1) := by decide +kernel
theorem dX7_letPass_58 : decode cX7_letPass 58 = .ok (.istore_n 2, 1) := by decide +kernel
theorem dX7_letPass_59 : decode cX7_letPass 59 = .ok (.iinc 6 1, 3) := by decide +kernel
theorem dX7_letPass_62 : decode cX7_letPass 62 = .ok (.goto (-29), 3) := by decide +kernel
theorem dX7_letPass_65 : decode cX7_letPass 65 = .ok (.iinc 3 1, 3) := by decide +kernel
theorem dX7_letPass_68 : decode cX7_letPass 68 = .ok (.goto (-64), 3) := by decide +kernel
theorem dX7_letPass_71 : decode cX7_letPass 71 = .ok (.iload_n 2, 1) := by decide +kernel
theorem dX7_letPass_72 : decode cX7_letPass 72 = .ok (.ireturn, 1) := by decide +kernel
theorem dX8_init_0 : decode cX8_init 0 = .ok (.aload_n 0, 1) := by decide +kernel
theorem dX8_init_1 : decode cX8_init 1 = .ok (.invokespecial 1, 3) := by decide +kernel
theorem dX8_init_4 : decode cX8_init 4 = .ok (.return_, 1) := by decide +kernel
theorem dX8_copyFrom_0 : decode cX8_copyFrom 0 = .ok (.aload_n 0, 1) := by decide +kernel
theorem dX8_copyFrom_1 : decode cX8_copyFrom 1 = .ok (.aload_n 1, 1) := by decide +kernel
theorem dX8_copyFrom_2 : decode cX8_copyFrom 2 = .ok (.getfield 7, 3) := by decide +kernel
theorem dX8_copyFrom_5 : decode cX8_copyFrom 5 = .ok (.putfield 7, 3) := by decide +kernel
theorem dX8_copyFrom_8 : decode cX8_copyFrom 8 = .ok (.aload_n 0, 1) := by decide +kernel
theorem dX8_copyFrom_9 : decode cX8_copyFrom 9 = .ok (.aload_n 1, 1) := by decide +kernel
theorem dX8_copyFrom_10 : decode cX8_copyFrom 10 = .ok (.getfield 13, 3) := by decide +kernel
theorem dX8_copyFrom_13 : decode cX8_copyFrom 13 = .ok (.putfield 13, 3) := by decide +kernel
theorem dX8_copyFrom_16 : decode cX8_copyFrom 16 = .ok (.aload_n 0, 1) := by decide +kernel
theorem dX8_copyFrom_17 : decode cX8_copyFrom 17 = .ok (.aload_n 1, 1) := by decide +kernel
theorem dX8_copyFrom_18 : decode cX8_copyFrom 18 = .ok (.getfield 16, 3) := by decide +kernel
theorem dX8_copyFrom_21 : decode cX8_copyFrom 21 = .ok (.putfield 16, 3) := by decide +kernel
theorem dX8_copyFrom_24 : decode cX8_copyFrom 24 = .ok (.aload_n 0, 1) := by decide +kernel
theorem dX8_copyFrom_25 : decode cX8_copyFrom 25 = .ok (.aload_n 1, 1) := by decide +kernel
theorem dX8_copyFrom_26 : decode cX8_copyFrom 26 = .ok (.getfield 19, 3) := by decide +kernel
theorem dX8_copyFrom_29 : decode cX8_copyFrom 29 = .ok (.putfield 19, 3) := by decide +kernel
theorem dX8_copyFrom_32 : decode cX8_copyFrom 32 = .ok (.return_, 1) := by decide +kernel
theorem dX9_init_0 : decode cX9_init 0 = .ok (.aload_n 0, 1) := by decide +kernel
theorem dX9_init_1 : decode cX9_init 1 = .ok (.invokespecial 3, 3) := by decide +kernel
theorem dX9_init_4 : decode cX9_init 4 = .ok (.aload_n 0, 1) := by decide +kernel
theorem dX9_init_5 : decode cX9_init 5 = .ok (.iconst 3, 1) := by decide +kernel
theorem dX9_init_6 : decode cX9_init 6 = .ok (.newarray .int, 2) := by decide +kernel
theorem dX9_init_8 : decode cX9_init 8 = .ok (.putfield 9, 3) := by decide +kernel
theorem dX9_init_11 : decode cX9_init 11 = .ok (.aload_n 0, 1) := by decide +kernel
theorem dX9_init_12 : decode cX9_init 12 = .ok (.iconst 3, 1) := by decide +kernel
theorem dX9_init_13 : decode cX9_init 13 = .ok (.newarray .int, 2) := by decide +kernel
theorem dX9_init_15 : decode cX9_init 15 = .ok (.putfield 15, 3) := by decide +kernel
theorem dX9_init_18 : decode cX9_init 18 = .ok (.aload_n 0, 1) := by decide +kernel
theorem dX9_init_19 : decode cX9_init 19 = .ok (.iconst 3, 1) := by decide +kernel
theorem dX9_init_20 : decode cX9_init 20 = .ok (.newarray .int, 2) := by decide +kernel
theorem dX9_init_22 : decode cX9_init 22 = .ok (.putfield 18, 3) := by decide +kernel
theorem dX9_init_25 : decode cX9_init 25 = .ok (.aload_n 0, 1) := by decide +kernel
theorem dX9_init_26 : decode cX9_init 26 = .ok (.iconst 3, 1) := by decide +kernel
theorem dX9_init_27 : decode cX9_init 27 = .ok (.newarray .int, 2) := by decide +kernel
theorem dX9_init_29 : decode cX9_init 29 = .ok (.putfield 21, 3) := by decide +kernel
theorem dX9_init_32 : decode cX9_init 32 = .ok (.aload_n 0, 1) := by decide +kernel
theorem dX9_init_33 : decode cX9_init 33 = .ok (.iconst 3, 1) := by decide +kernel
theorem dX9_init_34 : decode cX9_init 34 = .ok (.newarray .int, 2) := by decide +kernel
theorem dX9_init_36 : decode cX9_init 36 = .ok (.putfield 24, 3) := by decide +kernel
theorem dX9_init_39 : decode cX9_init 39 = .ok (.aload_n 0, 1) := by decide +kernel
theorem dX9_init_40 : decode cX9_init 40 = .ok (.iconst 3, 1) := by decide +kernel
theorem dX9_init_41 : decode cX9_init 41 = .ok (.newarray .int, 2) := by decide +kernel
theorem dX9_init_43 : decode cX9_init 43 = .ok (.putfield 27, 3) := by decide +kernel
theorem dX9_init_46 : decode cX9_init 46 = .ok (.return_, 1) := by decide +kernel
theorem dX9_rank_0 : decode cX9_rank 0 = .ok (.iconst 0, 1) := by decide +kernel
theorem dX9_rank_1 : decode cX9_rank 1 = .ok (.istore_n 2, 1) := by decide +kernel
theorem dX9_rank_2 : decode cX9_rank 2 = .ok (.iload_n 2, 1) := by decide +kernel
theorem dX9_rank_3 : decode cX9_rank 3 = .ok (.iconst 3, 1) := by decide +kernel
theorem dX9_rank_4 : decode cX9_rank 4 = .ok (.if_icmp .ge 66, 3) := by decide +kernel
theorem dX9_rank_7 : decode cX9_rank 7 = .ok (.iload_n 2, 1) := by decide +kernel
theorem dX9_rank_8 : decode cX9_rank 8 = .ok (.istore_n 3, 1) := by decide +kernel
theorem dX9_rank_9 : decode cX9_rank 9 = .ok (.iload_n 3, 1) := by decide +kernel
theorem dX9_rank_10 : decode cX9_rank 10 = .ok (.ifCond .le 47, 3) := by decide +kernel
theorem dX9_rank_13 : decode cX9_rank 13 = .ok (.aload_n 1, 1) := by decide +kernel
theorem dX9_rank_14 : decode cX9_rank 14 = .ok (.iload_n 2, 1) := by decide +kernel
theorem dX9_rank_15 : decode cX9_rank 15 = .ok (.invokevirtual 30, 3) := by decide +kernel
theorem dX9_rank_18 : decode cX9_rank 18 = .ok (.ifCond .eq 39, 3) := by decide +kernel
theorem dX9_rank_21 : decode cX9_rank 21 = .ok (.aload_n 1, 1) := by decide +kernel
theorem dX9_rank_22 : decode cX9_rank 22 = .ok (.iload_n 2, 1) := by decide +kernel
theorem dX9_rank_23 : decode cX9_rank 23 = .ok (.aload_n 0, 1) := by decide +kernel
theorem dX9_rank_24 : decode cX9_rank 24 = .ok (.getfield 18, 3) := by decide +kernel
theorem dX9_rank_27 : decode cX9_rank 27 = .ok (.iload_n 3, 1) := by decide +kernel
theorem dX9_rank_28 : decode cX9_rank 28 = .ok (.iconst 1, 1) := by decide +kernel
theorem dX9_rank_29 : decode cX9_rank 29 = .ok (.isub, 1) := by decide +kernel
theorem dX9_rank_30 : decode cX9_rank 30 = .ok (.iaload, 1) := by decide +kernel
theorem dX9_rank_31 : decode cX9_rank 31 = .ok (.invokestatic 36, 3) := by decide +kernel
theorem dX9_rank_34 : decode cX9_rank 34 = .ok (.ifCond .eq 23, 3) := by decide +kernel
theorem dX9_rank_37 : decode cX9_rank 37 = .ok (.aload_n 0, 1) := by decide +kernel
theorem dX9_rank_38 : decode cX9_rank 38 = .ok (.getfield 18, 3) := by decide +kernel
theorem dX9_rank_41 : decode cX9_rank 41 = .ok (.iload_n 3, 1) := by decide +kernel
theorem dX9_rank_42 : decode cX9_rank 42 = .ok (.aload_n 0, 1) := by decide +kernel
theorem dX9_rank_43 : decode cX9_rank 43 = .ok (.getfield 18, 3) := by decide +kernel
theorem dX9_rank_46 : decode cX9_rank 46 = .ok (.iload_n 3, 1) := by decide +kernel
theorem dX9_rank_47 : decode cX9_rank 47 = .ok (.iconst 1, 1) := by decide +kernel
theorem dX9_rank_48 : decode cX9_rank 48 = .ok (.isub, 1) := by decide +kernel
theorem dX9_rank_49 : decode cX9_rank 49 = .ok (.iaload, 1) := by decide +kernel
theorem dX9_rank_50 : decode cX9_rank 50 = .ok (.iastore, 1) := by decide +kernel
theorem dX9_rank_51 : decode cX9_rank 51 = .ok (.iinc 3 (-1), 3) := by decide +kernel
theorem dX9_rank_54 : decode cX9_rank 54 = .ok (.goto (-45), 3) := by decide +kernel
theorem dX9_rank_57 : decode cX9_rank 57 = .ok (.aload_n 0, 1) := by decide +kernel
theorem dX9_rank_58 : decode cX9_rank 58 = .ok (.getfield 18, 3) := by decide +kernel
theorem dX9_rank_61 : decode cX9_rank 61 = .ok (.iload_n 3, 1) := by decide +kernel
theorem dX9_rank_62 : decode cX9_rank 62 = .ok (.iload_n 2, 1) := by decide +kernel
theorem dX9_rank_63 : decode cX9_rank 63 = .ok (.iastore, 1) := by decide +kernel
theorem dX9_rank_64 : decode cX9_rank 64 = .ok (.iinc 2 1, 3) := by decide +kernel
theorem dX9_rank_67 : decode cX9_rank 67 = .ok (.goto (-65), 3) := by decide +kernel
theorem dX9_rank_70 : decode cX9_rank 70 = .ok (.iconst 0, 1) := by decide +kernel
theorem dX9_rank_71 : decode cX9_rank 71 = .ok (.istore_n 2, 1) := by decide +kernel
theorem dX9_rank_72 : decode cX9_rank 72 = .ok (.iload_n 2, 1) := by decide +kernel
theorem dX9_rank_73 : decode cX9_rank 73 = .ok (.iconst 3, 1) := by decide +kernel
theorem dX9_rank_74 : decode cX9_rank 74 = .ok (.if_icmp .ge 89, 3) := by decide +kernel
theorem dX9_rank_77 : decode cX9_rank 77 = .ok (.aload_n 1, 1) := by decide +kernel
theorem dX9_rank_78 : decode cX9_rank 78 = .ok (.aload_n 0, 1) := by decide +kernel
theorem dX9_rank_79 : decode cX9_rank 79 = .ok (.getfield 18, 3) := by decide +kernel
theorem dX9_rank_82 : decode cX9_rank 82 = .ok (.iload_n 2, 1) := by decide +kernel
theorem dX9_rank_83 : decode cX9_rank 83 = .ok (.iaload, 1) := by decide +kernel
theorem dX9_rank_84 : decode cX9_rank 84 = .ok (.invokevirtual 30, 3) := by decide +kernel
theorem dX9_rank_87 : decode cX9_rank 87 = .ok (.istore_n 3, 1) := by decide +kernel
theorem dX9_rank_88 : decode cX9_rank 88 = .ok (.aload_n 0, 1) := by decide +kernel
theorem dX9_rank_89 : decode cX9_rank 89 = .ok (.getfield 21, 3) := by decide +kernel
theorem dX9_rank_92 : decode cX9_rank 92 = .ok (.iload_n 2, 1) := by decide +kernel
theorem dX9_rank_93 : decode cX9_rank 93 = .ok (.iload_n 3, 1) := by decide +kernel
theorem dX9_rank_94 : decode cX9_rank 94 = .ok (.ifCond .eq 17, 3) := by decide +kernel
theorem dX9_rank_97 : decode cX9_rank 97 = .ok (.aload_n 1, 1) := by decide +kernel
theorem dX9_rank_98 : decode cX9_rank 98 = .ok (.getfield 40, 3) := by decide +kernel
theorem dX9_rank_101 : decode cX9_rank 101 = .ok (.aload_n 0, 1) := by decide +kernel
theorem dX9_rank_102 : decode cX9_rank 102 = .ok (.getfield 18, 3) := by decide +kernel
theorem dX9_rank_105 : decode cX9_rank 105 = .ok (.iload_n 2, 1) := by decide +kernel
theorem dX9_rank_106 : decode cX9_rank 106 = .ok (.iaload, 1) := by decide +kernel
theorem dX9_rank_107 : decode cX9_rank 107 = .ok (.iaload, 1) := by decide +kernel
theorem dX9_rank_108 : decode cX9_rank 108 = .ok (.goto 4, 3) := by decide +kernel
theorem dX9_rank_111 : decode cX9_rank 111 = .ok (.iconst 0, 1) := by decide +kernel
theorem dX9_rank_112 : decode cX9_rank 112 = .ok (.iastore, 1) := by decide +kernel
theorem dX9_rank_113 : decode cX9_rank 113 = .ok (.aload_n 0, 1) := by decide +kernel
theorem dX9_rank_114 : decode cX9_rank 114 = .ok (.getfield 24, 3) := by decide +kernel
theorem dX9_rank_117 : decode cX9_rank 117 = .ok (.iload_n 2, 1) := by decide +kernel
theorem dX9_rank_118 : decode cX9_rank 118 = .ok (.iload_n 3, 1) := by decide +kernel
theorem dX9_rank_119 : decode cX9_rank 119 = .ok (.ifCond .eq 17, 3) := by decide +kernel
theorem dX9_rank_122 : decode cX9_rank 122 = .ok (.aload_n 1, 1) := by decide +kernel
theorem dX9_rank_123 : decode cX9_rank 123 = .ok (.getfield 43, 3) := by decide +kernel
theorem dX9_rank_126 : decode cX9_rank 126 = .ok (.aload_n 0, 1) := by decide +kernel
theorem dX9_rank_127 : decode cX9_rank 127 = .ok (.getfield 18, 3) := by decide +kernel
theorem dX9_rank_130 : decode cX9_rank 130 = .ok (.iload_n 2, 1) := by decide +kernel
theorem dX9_rank_131 : decode cX9_rank 131 = .ok (.iaload, 1) := by decide +kernel
theorem dX9_rank_132 : decode cX9_rank 132 = .ok (.iaload, 1) := by decide +kernel
theorem dX9_rank_133 : decode cX9_rank 133 = .ok (.goto 4, 3) := by decide +kernel
theorem dX9_rank_136 : decode cX9_rank 136 = .ok (.iconst 0, 1) := by decide +kernel
theorem dX9_rank_137 : decode cX9_rank 137 = .ok (.iastore, 1) := by decide +kernel
theorem dX9_rank_138 : decode cX9_rank 138 = .ok (.aload_n 0, 1) := by decide +kernel
theorem dX9_rank_139 : decode cX9_rank 139 = .ok (.getfield 27, 3) := by decide +kernel
theorem dX9_rank_142 : decode cX9_rank 142 = .ok (.iload_n 2, 1) := by decide +kernel
theorem dX9_rank_143 : decode cX9_rank 143 = .ok (.iload_n 3, 1) := by decide +kernel
theorem dX9_rank_144 : decode cX9_rank 144 = .ok (.ifCond .eq 11, 3) := by decide +kernel
theorem dX9_rank_147 : decode cX9_rank 147 = .ok (.aload_n 0, 1) := by decide +kernel
theorem dX9_rank_148 : decode cX9_rank 148 = .ok (.iload_n 2, 1) := by decide +kernel
theorem dX9_rank_149 : decode cX9_rank 149 = .ok (.invokevirtual 46, 3) := by decide +kernel
theorem dX9_rank_152 : decode cX9_rank 152 = .ok (.goto 4, 3) := by decide +kernel
theorem dX9_rank_155 : decode cX9_rank 155 = .ok (.iconst 0, 1) := by decide +kernel
theorem dX9_rank_156 : decode cX9_rank 156 = .ok (.iastore, 1) := by decide +kernel
theorem dX9_rank_157 : decode cX9_rank 157 = .ok (.iinc 2 1, 3) := by decide +kernel
theorem dX9_rank_160 : decode cX9_rank 160 = .ok (.goto (-88), 3) := by decide +kernel
theorem dX9_rank_163 : decode cX9_rank 163 = .ok (.return_, 1) := by decide +kernel
theorem dX9_find_0 : decode cX9_find 0 = .ok (.aload_n 0, 1) := by decide +kernel
theorem dX9_find_1 : decode cX9_find 1 = .ok (.iconst 0, 1) := by decide +kernel
theorem dX9_find_2 : decode cX9_find 2 = .ok (.putfield 50, 3) := by decide +kernel
theorem dX9_find_5 : decode cX9_find 5 = .ok (.iconst 0, 1) := by decide +kernel
theorem dX9_find_6 : decode cX9_find 6 = .ok (.istore_n 2, 1) := by decide +kernel
theorem dX9_find_7 : decode cX9_find 7 = .ok (.iload_n 2, 1) := by decide +kernel
theorem dX9_find_8 : decode cX9_find 8 = .ok (.aload_n 0, 1) := by decide +kernel
theorem dX9_find_9 : decode cX9_find 9 = .ok (.getfield 27, 3) := by decide +kernel
theorem dX9_find_12 : decode cX9_find 12 = .ok (.iconst 2, 1) := by decide +kernel
theorem dX9_find_13 : decode cX9_find 13 = .ok (.iaload, 1) := by decide +kernel
theorem dX9_find_14 : decode cX9_find 14 = .ok (.if_icmp .gt 60, 3) := by decide +kernel
theorem dX9_find_17 : decode cX9_find 17 = .ok (.aload_n 0, 1) := by decide +kernel
theorem dX9_find_18 : decode cX9_find 18 = .ok (.iconst 0, 1) := by decide +kernel
theorem dX9_find_19 : decode cX9_find 19 = .ok (.iload_n 2, 1) := by decide +kernel
theorem dX9_find_20 : decode cX9_find 20 = .ok (.iload_n 1, 1) := by decide +kernel
theorem dX9_find_21 : decode cX9_find 21 = .ok (.invokevirtual 54, 3) := by decide +kernel
theorem dX9_find_24 : decode cX9_find 24 = .ok (.ifCond .eq 6, 3) := by decide +kernel
theorem dX9_find_27 : decode cX9_find 27 = .ok (.goto 47, 3) := by decide +kernel
theorem dX9_find_30 : decode cX9_find 30 = .ok (.iconst 0, 1) := by decide +kernel
theorem dX9_find_31 : decode cX9_find 31 = .ok (.istore_n 3, 1) := by decide +kernel
theorem dX9_find_32 : decode cX9_find 32 = .ok (.iload_n 3, 1) := by decide +kernel
theorem dX9_find_33 : decode cX9_find 33 = .ok (.aload_n 0, 1) := by decide +kernel
theorem dX9_find_34 : decode cX9_find 34 = .ok (.getfield 27, 3) := by decide +kernel
theorem dX9_find_37 : decode cX9_find 37 = .ok (.iconst 1, 1) := by decide +kernel
theorem dX9_find_38 : decode cX9_find 38 = .ok (.iaload, 1) := by decide +kernel
theorem dX9_find_39 : decode cX9_find 39 = .ok (.if_icmp .gt 29, 3) := by decide +kernel
theorem dX9_find_42 : decode cX9_find 42 = .ok (.aload_n 0, 1) := by decide +kernel
theorem dX9_find_43 : decode cX9_find 43 = .ok (.iload_n 3, 1) := by decide +kernel
theorem dX9_find_44 : decode cX9_find 44 = .ok (.iload_n 2, 1) := by decide +kernel
theorem dX9_find_45 : decode cX9_find 45 = .ok (.iload_n 1, 1) := by decide +kernel
theorem dX9_find_46 : decode cX9_find 46 = .ok (.invokevirtual 54, 3) := by decide +kernel
theorem dX9_find_49 : decode cX9_find 49 = .ok (.ifCond .eq 6, 3) := by decide +kernel
theorem dX9_find_52 : decode cX9_find 52 = .ok (.goto 16, 3) := by decide +kernel
theorem dX9_find_55 : decode cX9_find 55 = .ok (.aload_n 0, 1) := by decide +kernel
theorem dX9_find_56 : decode cX9_find 56 = .ok (.iload_n 3, 1) := by decide +kernel
theorem dX9_find_57 : decode cX9_find 57 = .ok (.iload_n 2, 1) := by decide +kernel
theorem dX9_find_58 : decode cX9_find 58 = .ok (.iload_n 1, 1) := by decide +kernel
theorem dX9_find_59 : decode cX9_find 59 = .ok (.invokevirtual 58, 3) := by decide +kernel
theorem dX9_find_62 : decode cX9_find 62 = .ok (.iinc 3 1, 3) := by decide +kernel
theorem dX9_find_65 : decode cX9_find 65 = .ok (.goto (-33), 3) := by decide +kernel
theorem dX9_find_68 : decode cX9_find 68 = .ok (.iinc 2 1, 3) := by decide +kernel
theorem dX9_find_71 : decode cX9_find 71 = .ok (.goto (-64), 3) := by decide +kernel
theorem dX9_find_74 : decode cX9_find 74 = .ok (.return_, 1) := by decide +kernel
theorem dX9_isAhead_0 : decode cX9_isAhead 0 = .ok (.aload_n 0, 1) := by decide +kernel
theorem dX9_isAhead_1 : decode cX9_isAhead 1 = .ok (.iload_n 1, 1) := by decide +kernel
theorem dX9_isAhead_2 : decode cX9_isAhead 2 = .ok (.invokevirtual 30, 3) := by decide +kernel
theorem dX9_isAhead_5 : decode cX9_isAhead 5 = .ok (.ifCond .eq 11, 3) := by decide +kernel
theorem dX9_isAhead_8 : decode cX9_isAhead 8 = .ok (.aload_n 0, 1) := by decide +kernel
theorem dX9_isAhead_9 : decode cX9_isAhead 9 = .ok (.iload_n 2, 1) := by decide +kernel
theorem dX9_isAhead_10 : decode cX9_isAhead 10 = .ok (.invokevirtual 30, 3) := by decide +kernel
theorem dX9_isAhead_13 : decode cX9_isAhead 13 = .ok (.ifCond .ne 9, 3) := by decide +kernel
theorem dX9_isAhead_16 : decode cX9_isAhead 16 = .ok (.aload_n 0, 1) := by decide +kernel
theorem dX9_isAhead_17 : decode cX9_isAhead 17 = .ok (.iload_n 1, 1) := by decide +kernel
theorem dX9_isAhead_18 : decode cX9_isAhead 18 = .ok (.invokevirtual 30, 3) := by decide +kernel
theorem dX9_isAhead_21 : decode cX9_isAhead 21 = .ok (.ireturn, 1) := by decide +kernel
theorem dX9_isAhead_22 : decode cX9_isAhead 22 = .ok (.aload_n 0, 1) := by decide +kernel
theorem dX9_isAhead_23 : decode cX9_isAhead 23 = .ok (.getfield 43, 3) := by decide +kernel
theorem dX9_isAhead_26 : decode cX9_isAhead 26 = .ok (.iload_n 1, 1) := by decide +kernel
theorem dX9_isAhead_27 : decode cX9_isAhead 27 = .ok (.iaload, 1) := by decide +kernel
theorem dX9_isAhead_28 : decode cX9_isAhead 28 = .ok (.aload_n 0, 1) := by decide +kernel
theorem dX9_isAhead_29 : decode cX9_isAhead 29 = .ok (.getfield 40, 3) := by decide +kernel
theorem dX9_isAhead_32 : decode cX9_isAhead 32 = .ok (.iload_n 2, 1) := by decide +kernel
theorem dX9_isAhead_33 : decode cX9_isAhead 33 = .ok (.iaload, 1) := by decide +kernel
theorem dX9_isAhead_34 : decode cX9_isAhead 34 = .ok (.imul, 1) := by decide +kernel
theorem dX9_isAhead_35 : decode cX9_isAhead 35 = .ok (.istore_n 3, 1) := by decide +kernel
theorem dX9_isAhead_36 : decode cX9_isAhead 36 = .ok (.aload_n 0, 1) := by decide +kernel
theorem dX9_isAhead_37 : decode cX9_isAhead 37 = .ok (.getfield 43, 3) := by decide +kernel
theorem dX9_isAhead_40 : decode cX9_isAhead 40 = .ok (.iload_n 2, 1) := by decide +kernel
theorem dX9_isAhead_41 : decode cX9_isAhead 41 = .ok (.iaload, 1) := by decide +kernel
theorem dX9_isAhead_42 : decode cX9_isAhead 42 = .ok (.aload_n 0, 1) := by decide +kernel
theorem dX9_isAhead_43 : decode cX9_isAhead 43 = .ok (.getfield 40, 3) := by decide +kernel
theorem dX9_isAhead_46 : decode cX9_isAhead 46 = .ok (.iload_n 1, 1) := by decide +kernel
theorem dX9_isAhead_47 : decode cX9_isAhead 47 = .ok (.iaload, 1) := by decide +kernel
theorem dX9_isAhead_48 : decode cX9_isAhead 48 = .ok (.imul, 1) := by decide +kernel
theorem dX9_isAhead_49 : decode cX9_isAhead 49 = .ok (.istore 4, 2) := by decide +kernel
theorem dX9_isAhead_51 : decode cX9_isAhead 51 = .ok (.iload_n 3, 1) := by decide +kernel
theorem dX9_isAhead_52 : decode cX9_isAhead 52 = .ok (.iload 4, 2) := by decide +kernel
theorem dX9_isAhead_54 : decode cX9_isAhead 54 = .ok (.if_icmp .lt 24, 3) := by decide +kernel
theorem dX9_isAhead_57 : decode cX9_isAhead 57 = .ok (.iload_n 3, 1) := by decide +kernel
theorem dX9_isAhead_58 : decode cX9_isAhead 58 = .ok (.iload 4, 2) := by decide +kernel
theorem dX9_isAhead_60 : decode cX9_isAhead 60 = .ok (.if_icmp .ne 22, 3) := by decide +kernel
theorem dX9_isAhead_63 : decode cX9_isAhead 63 = .ok (.aload_n 0, 1) := by decide +kernel
theorem dX9_isAhead_64 : decode cX9_isAhead 64 = .ok (.getfield 40, 3) := by decide +kernel
theorem dX9_isAhead_67 : decode cX9_isAhead 67 = .ok (.iload_n 1, 1) := by decide +kernel
theorem dX9_isAhead_68 : decode cX9_isAhead 68 = .ok (.iaload, 1) := by decide +kernel
theorem dX9_isAhead_69 : decode cX9_isAhead 69 = .ok (.aload_n 0, 1) := by decide +kernel
theorem dX9_isAhead_70 : decode cX9_isAhead 70 = .ok (.getfield 40, 3) := by decide +kernel
theorem dX9_isAhead_73 : decode cX9_isAhead 73 = .ok (.iload_n 2, 1) := by decide +kernel
theorem dX9_isAhead_74 : decode cX9_isAhead 74 = .ok (.iaload, 1) := by decide +kernel
theorem dX9_isAhead_75 : decode cX9_isAhead 75 = .ok (.if_icmp .le 7, 3) := by decide +kernel
theorem dX9_isAhead_78 : decode cX9_isAhead 78 = .ok (.iconst 1, 1) := by decide +kernel
theorem dX9_isAhead_79 : decode cX9_isAhead 79 = .ok (.goto 4, 3) := by decide +kernel
theorem dX9_isAhead_82 : decode cX9_isAhead 82 = .ok (.iconst 0, 1) := by decide +kernel
theorem dX9_isAhead_83 : decode cX9_isAhead 83 = .ok (.ireturn, 1) := by decide +kernel
theorem dX9_mostOf_0 : decode cX9_mostOf 0 = .ok (.sipush 2000, 3) := by decide +kernel
theorem dX9_mostOf_3 : decode cX9_mostOf 3 = .ok (.istore_n 2, 1) := by decide +kernel
theorem dX9_mostOf_4 : decode cX9_mostOf 4 = .ok (.iconst 0, 1) := by decide +kernel
theorem dX9_mostOf_5 : decode cX9_mostOf 5 = .ok (.istore_n 3, 1) := by decide +kernel
theorem dX9_mostOf_6 : decode cX9_mostOf 6 = .ok (.iload_n 3, 1) := by decide +kernel
theorem dX9_mostOf_7 : decode cX9_mostOf 7 = .ok (.iload_n 1, 1) := by decide +kernel
theorem dX9_mostOf_8 : decode cX9_mostOf 8 = .ok (.if_icmp .ge 47, 3) := by decide +kernel
theorem dX9_mostOf_11 : decode cX9_mostOf 11 = .ok (.aload_n 0, 1) := by decide +kernel
theorem dX9_mostOf_12 : decode cX9_mostOf 12 = .ok (.getfield 21, 3) := by decide +kernel
theorem dX9_mostOf_15 : decode cX9_mostOf 15 = .ok (.iload_n 3, 1) := by decide +kernel
theorem dX9_mostOf_16 : decode cX9_mostOf 16 = .ok (.iaload, 1) := by decide +kernel
theorem dX9_mostOf_17 : decode cX9_mostOf 17 = .ok (.aload_n 0, 1) := by decide +kernel
theorem dX9_mostOf_18 : decode cX9_mostOf 18 = .ok (.getfield 21, 3) := by decide +kernel
theorem dX9_mostOf_21 : decode cX9_mostOf 21 = .ok (.iload_n 1, 1) := by decide +kernel
theorem dX9_mostOf_22 : decode cX9_mostOf 22 = .ok (.iaload, 1) := by decide +kernel
theorem dX9_mostOf_23 : decode cX9_mostOf 23 = .ok (.invokestatic 62, 3) := by decide +kernel
theorem dX9_mostOf_26 : decode cX9_mostOf 26 = .ok (.istore 4, 2) := by decide +kernel
theorem dX9_mostOf_28 : decode cX9_mostOf 28 = .ok (.iload 4, 2) := by decide +kernel
theorem dX9_mostOf_30 : decode cX9_mostOf 30 = .ok (.ifCond .le 19, 3) := by decide +kernel
theorem dX9_mostOf_33 : decode cX9_mostOf 33 = .ok (.iload_n 2, 1) := by decide +kernel
theorem dX9_mostOf_34 : decode cX9_mostOf 34 = .ok (.aload_n 0, 1) := by decide +kernel
theorem dX9_mostOf_35 : decode cX9_mostOf 35 = .ok (.getfield 21, 3) := by decide +kernel
theorem dX9_mostOf_38 : decode cX9_mostOf 38 = .ok (.iload_n 3, 1) := by decide +kernel
theorem dX9_mostOf_39 : decode cX9_mostOf 39 = .ok (.iaload, 1) := by decide +kernel
theorem dX9_mostOf_40 : decode cX9_mostOf 40 = .ok (.iload 4, 2) := by decide +kernel
theorem dX9_mostOf_42 : decode cX9_mostOf 42 = .ok (.idiv, 1) := by decide +kernel
theorem dX9_mostOf_43 : decode cX9_mostOf 43 = .ok (.iconst 1, 1) := by decide +kernel
theorem dX9_mostOf_44 : decode cX9_mostOf 44 = .ok (.isub, 1) := by decide +kernel
theorem dX9_mostOf_45 : decode cX9_mostOf 45 = .ok (.invokestatic 66, 3) := by decide +kernel
theorem dX9_mostOf_48 : decode cX9_mostOf 48 = .ok (.istore_n 2, 1) := by decide +kernel
theorem dX9_mostOf_49 : decode cX9_mostOf 49 = .ok (.iinc 3 1, 3) := by decide +kernel
theorem dX9_mostOf_52 : decode cX9_mostOf 52 = .ok (.goto (-46), 3) := by decide +kernel
theorem dX9_mostOf_55 : decode cX9_mostOf 55 = .ok (.iload_n 2, 1) := by decide +kernel
theorem dX9_mostOf_56 : decode cX9_mostOf 56 = .ok (.ireturn, 1) := by decide +kernel
theorem dX9_commonDivisor_0 : decode cX9_commonDivisor 0 = .ok (.iload_n 0, 1) := by decide +kernel
theorem dX9_commonDivisor_1 : decode cX9_commonDivisor 1 = .ok (.istore_n 2, 1) := by decide +kernel
theorem dX9_commonDivisor_2 : decode cX9_commonDivisor 2 = .ok (.iload_n 1, 1) := by decide +kernel
theorem dX9_commonDivisor_3 : decode cX9_commonDivisor 3 = .ok (.istore_n 3, 1) := by decide +kernel
theorem dX9_commonDivisor_4 : decode cX9_commonDivisor 4 = .ok (.iconst 0, 1) := by decide +kernel
theorem dX9_commonDivisor_5 : decode cX9_commonDivisor 5 = .ok (.istore 4, 2) := by decide +kernel
theorem dX9_commonDivisor_7 : decode cX9_commonDivisor 7 = .ok (.iload 4, 2) := by decide +kernel
theorem dX9_commonDivisor_9 : decode cX9_commonDivisor 9 = .ok (.sipush 2000, 3) := by decide +kernel
theorem dX9_commonDivisor_12 : decode cX9_commonDivisor 12 = .ok (.if_icmp .ge 23, 3) := by decide +kernel
theorem dX9_commonDivisor_15 : decode cX9_commonDivisor 15 = .ok (.iload_n 3, 1) := by decide +kernel
theorem dX9_commonDivisor_16 : decode cX9_commonDivisor 16 = .ok (.ifCond .le 19, 3) := by decide +kernel
theorem dX9_commonDivisor_19 : decode cX9_commonDivisor 19 = .ok (.iload_n 2, 1) := by decide +kernel
theorem dX9_commonDivisor_20 : decode cX9_commonDivisor 20 = .ok (.iload_n 3, 1) := by decide +kernel
theorem dX9_commonDivisor_21 : decode cX9_commonDivisor 21 = .ok (.irem, 1) := by decide +kernel
theorem dX9_commonDivisor_22 : decode cX9_commonDivisor 22 = .ok (.istore 5, 2) := by decide +kernel
theorem dX9_commonDivisor_24 : decode cX9_commonDivisor 24 = .ok (.iload_n 3, 1) := by decide +kernel
theorem dX9_commonDivisor_25 : decode cX9_commonDivisor 25 = .ok (.istore_n 2, 1) := by decide +kernel
theorem dX9_commonDivisor_26 : decode cX9_commonDivisor 26 = .ok (.iload 5, 2) := by decide +kernel
theorem dX9_commonDivisor_28 : decode cX9_commonDivisor 28 = .ok (.istore_n 3, 1) := by decide +kernel
theorem dX9_commonDivisor_29 : decode cX9_commonDivisor 29 = .ok (.iinc 4 1, 3) := by decide +kernel
theorem dX9_commonDivisor_32 : decode cX9_commonDivisor 32 = .ok (.goto (-25), 3) := by decide +kernel
theorem dX9_commonDivisor_35 : decode cX9_commonDivisor 35 = .ok (.iload_n 2, 1) := by decide +kernel
theorem dX9_commonDivisor_36 : decode cX9_commonDivisor 36 = .ok (.ireturn, 1) := by decide +kernel
theorem dX9_isTooDear_0 : decode cX9_isTooDear 0 = .ok (.aload_n 0, 1) := by decide +kernel
theorem dX9_isTooDear_1 : decode cX9_isTooDear 1 = .ok (.getfield 50, 3) := by decide +kernel
theorem dX9_isTooDear_4 : decode cX9_isTooDear 4 = .ok (.ifCond .ne 5, 3) := by decide +kernel
theorem dX9_isTooDear_7 : decode cX9_isTooDear 7 = .ok (.iconst 0, 1) := by decide +kernel
theorem dX9_isTooDear_8 : decode cX9_isTooDear 8 = .ok (.ireturn, 1) := by decide +kernel
theorem dX9_isTooDear_9 : decode cX9_isTooDear 9 = .ok (.iload_n 1, 1) := by decide +kernel
theorem dX9_isTooDear_10 : decode cX9_isTooDear 10 = .ok (.aload_n 0, 1) := by decide +kernel
theorem dX9_isTooDear_11 : decode cX9_isTooDear 11 = .ok (.getfield 24, 3) := by decide +kernel
theorem dX9_isTooDear_14 : decode cX9_isTooDear 14 = .ok (.iconst 1, 1) := by decide +kernel
theorem dX9_isTooDear_15 : decode cX9_isTooDear 15 = .ok (.iaload, 1) := by decide +kernel
theorem dX9_isTooDear_16 : decode cX9_isTooDear 16 = .ok (.imul, 1) := by decide +kernel
theorem dX9_isTooDear_17 : decode cX9_isTooDear 17 = .ok (.iload_n 2, 1) := by decide +kernel
theorem dX9_isTooDear_18 : decode cX9_isTooDear 18 = .ok (.aload_n 0, 1) := by decide +kernel
theorem dX9_isTooDear_19 : decode cX9_isTooDear 19 = .ok (.getfield 24, 3) := by decide +kernel
theorem dX9_isTooDear_22 : decode cX9_isTooDear 22 = .ok (.iconst 2, 1) := by decide +kernel
theorem dX9_isTooDear_23 : decode cX9_isTooDear 23 = .ok (.iaload, 1) := by decide +kernel
theorem dX9_isTooDear_24 : decode cX9_isTooDear 24 = .ok (.imul, 1) := by decide +kernel
theorem dX9_isTooDear_25 : decode cX9_isTooDear 25 = .ok (.iadd, 1) := by decide +kernel
theorem dX9_isTooDear_26 : decode cX9_isTooDear 26 = .ok (.i2l, 1) := by decide +kernel
theorem dX9_isTooDear_27 : decode cX9_isTooDear 27 = .ok (.lstore 4, 2) := by decide +kernel
theorem dX9_isTooDear_29 : decode cX9_isTooDear 29 = .ok (.iconst 0, 1) := by decide +kernel
theorem dX9_isTooDear_30 : decode cX9_isTooDear 30 = .ok (.iload_n 3, 1) := by decide +kernel
theorem dX9_isTooDear_31 : decode cX9_isTooDear 31 = .ok (.iload_n 1, 1) := by decide +kernel
theorem dX9_isTooDear_32 : decode cX9_isTooDear 32 = .ok (.aload_n 0, 1) := by decide +kernel
theorem dX9_isTooDear_33 : decode cX9_isTooDear 33 = .ok (.getfield 21, 3) := by decide +kernel
theorem dX9_isTooDear_36 : decode cX9_isTooDear 36 = .ok (.iconst 1, 1) := by decide +kernel
theorem dX9_isTooDear_37 : decode cX9_isTooDear 37 = .ok (.iaload, 1) := by decide +kernel
theorem dX9_isTooDear_38 : decode cX9_isTooDear 38 = .ok (.imul, 1) := by decide +kernel
theorem dX9_isTooDear_39 : decode cX9_isTooDear 39 = .ok (.isub, 1) := by decide +kernel
theorem dX9_isTooDear_40 : decode cX9_isTooDear 40 = .ok (.iload_n 2, 1) := by decide +kernel
theorem dX9_isTooDear_41 : decode cX9_isTooDear 41 = .ok (.aload_n 0, 1) := by decide +kernel
theorem dX9_isTooDear_42 : decode cX9_isTooDear 42 = .ok (.getfield 21, 3) := by decide +kernel
theorem dX9_isTooDear_45 : decode cX9_isTooDear 45 = .ok (.iconst 2, 1) := by decide +kernel
theorem dX9_isTooDear_46 : decode cX9_isTooDear 46 = .ok (.iaload, 1) := by decide +kernel
theorem dX9_isTooDear_47 : decode cX9_isTooDear 47 = .ok (.imul, 1) := by decide +kernel
theorem dX9_isTooDear_48 : decode cX9_isTooDear 48 = .ok (.isub, 1) := by decide +kernel
theorem dX9_isTooDear_49 : decode cX9_isTooDear 49 = .ok (.invokestatic 71, 3) := by decide +kernel
theorem dX9_isTooDear_52 : decode cX9_isTooDear 52 = .ok (.i2l, 1) := by decide +kernel
theorem dX9_isTooDear_53 : decode cX9_isTooDear 53 = .ok (.lstore 6, 2) := by decide +kernel
theorem dX9_isTooDear_55 : decode cX9_isTooDear 55 = .ok (.lload 4, 2) := by decide +kernel
theorem dX9_isTooDear_57 : decode cX9_isTooDear 57 = .ok (.aload_n 0, 1) := by decide +kernel
theorem dX9_isTooDear_58 : decode cX9_isTooDear 58 = .ok (.getfield 21, 3) := by decide +kernel
theorem dX9_isTooDear_61 : decode cX9_isTooDear 61 = .ok (.iconst 0, 1) := by decide +kernel
theorem dX9_isTooDear_62 : decode cX9_isTooDear 62 = .ok (.iaload, 1) := by decide +kernel
theorem dX9_isTooDear_63 : decode cX9_isTooDear 63 = .ok (.i2l, 1) := by decide +kernel
theorem dX9_isTooDear_64 : decode cX9_isTooDear 64 = .ok (.lmul, 1) := by decide +kernel
theorem dX9_isTooDear_65 : decode cX9_isTooDear 65 = .ok (.lload 6, 2) := by decide +kernel
theorem dX9_isTooDear_67 : decode cX9_isTooDear 67 = .ok (.aload_n 0, 1) := by decide +kernel
theorem dX9_isTooDear_68 : decode cX9_isTooDear 68 = .ok (.getfield 24, 3) := by decide +kernel
theorem dX9_isTooDear_71 : decode cX9_isTooDear 71 = .ok (.iconst 0, 1) := by decide +kernel
theorem dX9_isTooDear_72 : decode cX9_isTooDear 72 = .ok (.iaload, 1) := by decide +kernel
theorem dX9_isTooDear_73 : decode cX9_isTooDear 73 = .ok (.i2l, 1) := by decide +kernel
theorem dX9_isTooDear_74 : decode cX9_isTooDear 74 = .ok (.lmul, 1) := by decide +kernel
theorem dX9_isTooDear_75 : decode cX9_isTooDear 75 = .ok (.ladd, 1) := by decide +kernel
theorem dX9_isTooDear_76 : decode cX9_isTooDear 76 = .ok (.aload_n 0, 1) := by decide +kernel
theorem dX9_isTooDear_77 : decode cX9_isTooDear 77 = .ok (.getfield 74, 3) := by decide +kernel
theorem dX9_isTooDear_80 : decode cX9_isTooDear 80 = .ok (.i2l, 1) := by decide +kernel
theorem dX9_isTooDear_81 : decode cX9_isTooDear 81 = .ok (.aload_n 0, 1) := by decide +kernel
theorem dX9_isTooDear_82 : decode cX9_isTooDear 82 = .ok (.getfield 21, 3) := by decide +kernel
theorem dX9_isTooDear_85 : decode cX9_isTooDear 85 = .ok (.iconst 0, 1) := by decide +kernel
theorem dX9_isTooDear_86 : decode cX9_isTooDear 86 = .ok (.iaload, 1) := by decide +kernel
theorem dX9_isTooDear_87 : decode cX9_isTooDear 87 = .ok (.i2l, 1) := by decide +kernel
theorem dX9_isTooDear_88 : decode cX9_isTooDear 88 = .ok (.lmul, 1) := by decide +kernel
theorem dX9_isTooDear_89 : decode cX9_isTooDear 89 = .ok (.lcmp, 1) := by decide +kernel
theorem dX9_isTooDear_90 : decode cX9_isTooDear 90 = .ok (.ifCond .le 7, 3) := by decide +kernel
theorem dX9_isTooDear_93 : decode cX9_isTooDear 93 = .ok (.iconst 1, 1) := by decide +kernel
theorem dX9_isTooDear_94 : decode cX9_isTooDear 94 = .ok (.goto 4, 3) := by decide +kernel
theorem dX9_isTooDear_97 : decode cX9_isTooDear 97 = .ok (.iconst 0, 1) := by decide +kernel
theorem dX9_isTooDear_98 : decode cX9_isTooDear 98 = .ok (.ireturn, 1) := by decide +kernel
theorem dX9_offer_0 : decode cX9_offer 0 = .ok (.iconst 0, 1) := by decide +kernel
theorem dX9_offer_1 : decode cX9_offer 1 = .ok (.iload_n 3, 1) := by decide +kernel
theorem dX9_offer_2 : decode cX9_offer 2 = .ok (.iload_n 1, 1) := by decide +kernel
theorem dX9_offer_3 : decode cX9_offer 3 = .ok (.aload_n 0, 1) := by decide +kernel
theorem dX9_offer_4 : decode cX9_offer 4 = .ok (.getfield 21, 3) := by decide +kernel
theorem dX9_offer_7 : decode cX9_offer 7 = .ok (.iconst 1, 1) := by decide +kernel
theorem dX9_offer_8 : decode cX9_offer 8 = .ok (.iaload, 1) := by decide +kernel
theorem dX9_offer_9 : decode cX9_offer 9 = .ok (.imul, 1) := by decide +kernel
theorem dX9_offer_10 : decode cX9_offer 10 = .ok (.isub, 1) := by decide +kernel
theorem dX9_offer_11 : decode cX9_offer 11 = .ok (.iload_n 2, 1) := by decide +kernel
theorem dX9_offer_12 : decode cX9_offer 12 = .ok (.aload_n 0, 1) := by decide +kernel
theorem dX9_offer_13 : decode cX9_offer 13 = .ok (.getfield 21, 3) := by decide +kernel
theorem dX9_offer_16 : decode cX9_offer 16 = .ok (.iconst 2, 1) := by decide +kernel
theorem dX9_offer_17 : decode cX9_offer 17 = .ok (.iaload, 1) := by decide +kernel
theorem dX9_offer_18 : decode cX9_offer 18 = .ok (.imul, 1) := by decide +kernel
theorem dX9_offer_19 : decode cX9_offer 19 = .ok (.isub, 1) := by decide +kernel
theorem dX9_offer_20 : decode cX9_offer 20 = .ok (.invokestatic 71, 3) := by decide +kernel
theorem dX9_offer_23 : decode cX9_offer 23 = .ok (.istore 4, 2) := by decide +kernel
theorem dX9_offer_25 : decode cX9_offer 25 = .ok (.iload 4, 2) := by decide +kernel
theorem dX9_offer_27 : decode cX9_offer 27 = .ok (.aload_n 0, 1) := by decide +kernel
theorem dX9_offer_28 : decode cX9_offer 28 = .ok (.getfield 21, 3) := by decide +kernel
theorem dX9_offer_31 : decode cX9_offer 31 = .ok (.iconst 0, 1) := by decide +kernel
theorem dX9_offer_32 : decode cX9_offer 32 = .ok (.iaload, 1) := by decide +kernel
theorem dX9_offer_33 : decode cX9_offer 33 = .ok (.invokestatic 78, 3) := by decide +kernel
theorem dX9_offer_36 : decode cX9_offer 36 = .ok (.istore 5, 2) := by decide +kernel
theorem dX9_offer_38 : decode cX9_offer 38 = .ok (.aload_n 0, 1) := by decide +kernel
theorem dX9_offer_39 : decode cX9_offer 39 = .ok (.iconst 0, 1) := by decide +kernel
theorem dX9_offer_40 : decode cX9_offer 40 = .ok (.iload 5, 2) := by decide +kernel
theorem dX9_offer_42 : decode cX9_offer 42 = .ok (.invokevirtual 81, 3) := by decide +kernel
theorem dX9_offer_45 : decode cX9_offer 45 = .ok (.aload_n 0, 1) := by decide +kernel
theorem dX9_offer_46 : decode cX9_offer 46 = .ok (.iconst 1, 1) := by decide +kernel
theorem dX9_offer_47 : decode cX9_offer 47 = .ok (.iload_n 1, 1) := by decide +kernel
theorem dX9_offer_48 : decode cX9_offer 48 = .ok (.invokevirtual 81, 3) := by decide +kernel
theorem dX9_offer_51 : decode cX9_offer 51 = .ok (.aload_n 0, 1) := by decide +kernel
theorem dX9_offer_52 : decode cX9_offer 52 = .ok (.iconst 2, 1) := by decide +kernel
theorem dX9_offer_53 : decode cX9_offer 53 = .ok (.iload_n 2, 1) := by decide +kernel
theorem dX9_offer_54 : decode cX9_offer 54 = .ok (.invokevirtual 81, 3) := by decide +kernel
theorem dX9_offer_57 : decode cX9_offer 57 = .ok (.iload 5, 2) := by decide +kernel
theorem dX9_offer_59 : decode cX9_offer 59 = .ok (.aload_n 0, 1) := by decide +kernel
theorem dX9_offer_60 : decode cX9_offer 60 = .ok (.getfield 24, 3) := by decide +kernel
theorem dX9_offer_63 : decode cX9_offer 63 = .ok (.iconst 0, 1) := by decide +kernel
theorem dX9_offer_64 : decode cX9_offer 64 = .ok (.iaload, 1) := by decide +kernel
theorem dX9_offer_65 : decode cX9_offer 65 = .ok (.imul, 1) := by decide +kernel
theorem dX9_offer_66 : decode cX9_offer 66 = .ok (.iload_n 1, 1) := by decide +kernel
theorem dX9_offer_67 : decode cX9_offer 67 = .ok (.aload_n 0, 1) := by decide +kernel
theorem dX9_offer_68 : decode cX9_offer 68 = .ok (.getfield 24, 3) := by decide +kernel
theorem dX9_offer_71 : decode cX9_offer 71 = .ok (.iconst 1, 1) := by decide +kernel
theorem dX9_offer_72 : decode cX9_offer 72 = .ok (.iaload, 1) := by decide +kernel
theorem dX9_offer_73 : decode cX9_offer 73 = .ok (.imul, 1) := by decide +kernel
theorem dX9_offer_74 : decode cX9_offer 74 = .ok (.iadd, 1) := by decide +kernel
theorem dX9_offer_75 : decode cX9_offer 75 = .ok (.iload_n 2, 1) := by decide +kernel
theorem dX9_offer_76 : decode cX9_offer 76 = .ok (.aload_n 0, 1) := by decide +kernel
theorem dX9_offer_77 : decode cX9_offer 77 = .ok (.getfield 24, 3) := by decide +kernel
theorem dX9_offer_80 : decode cX9_offer 80 = .ok (.iconst 2, 1) := by decide +kernel
theorem dX9_offer_81 : decode cX9_offer 81 = .ok (.iaload, 1) := by decide +kernel
theorem dX9_offer_82 : decode cX9_offer 82 = .ok (.imul, 1) := by decide +kernel
theorem dX9_offer_83 : decode cX9_offer 83 = .ok (.iadd, 1) := by decide +kernel
theorem dX9_offer_84 : decode cX9_offer 84 = .ok (.istore 6, 2) := by decide +kernel
theorem dX9_offer_86 : decode cX9_offer 86 = .ok (.iload 5, 2) := by decide +kernel
theorem dX9_offer_88 : decode cX9_offer 88 = .ok (.aload_n 0, 1) := by decide +kernel
theorem dX9_offer_89 : decode cX9_offer 89 = .ok (.getfield 21, 3) := by decide +kernel
theorem dX9_offer_92 : decode cX9_offer 92 = .ok (.iconst 0, 1) := by decide +kernel
theorem dX9_offer_93 : decode cX9_offer 93 = .ok (.iaload, 1) := by decide +kernel
theorem dX9_offer_94 : decode cX9_offer 94 = .ok (.imul, 1) := by decide +kernel
theorem dX9_offer_95 : decode cX9_offer 95 = .ok (.iload_n 1, 1) := by decide +kernel
theorem dX9_offer_96 : decode cX9_offer 96 = .ok (.aload_n 0, 1) := by decide +kernel
theorem dX9_offer_97 : decode cX9_offer 97 = .ok (.getfield 21, 3) := by decide +kernel
theorem dX9_offer_100 : decode cX9_offer 100 = .ok (.iconst 1, 1) := by decide +kernel
theorem dX9_offer_101 : decode cX9_offer 101 = .ok (.iaload, 1) := by decide +kernel
theorem dX9_offer_102 : decode cX9_offer 102 = .ok (.imul, 1) := by decide +kernel
theorem dX9_offer_103 : decode cX9_offer 103 = .ok (.iadd, 1) := by decide +kernel
theorem dX9_offer_104 : decode cX9_offer 104 = .ok (.iload_n 2, 1) := by decide +kernel
theorem dX9_offer_105 : decode cX9_offer 105 = .ok (.aload_n 0, 1) := by decide +kernel
theorem dX9_offer_106 : decode cX9_offer 106 = .ok (.getfield 21, 3) := by decide +kernel
theorem dX9_offer_109 : decode cX9_offer 109 = .ok (.iconst 2, 1) := by decide +kernel
theorem dX9_offer_110 : decode cX9_offer 110 = .ok (.iaload, 1) := by decide +kernel
theorem dX9_offer_111 : decode cX9_offer 111 = .ok (.imul, 1) := by decide +kernel
theorem dX9_offer_112 : decode cX9_offer 112 = .ok (.iadd, 1) := by decide +kernel
theorem dX9_offer_113 : decode cX9_offer 113 = .ok (.istore 7, 2) := by decide +kernel
theorem dX9_offer_115 : decode cX9_offer 115 = .ok (.iload 5, 2) := by decide +kernel
theorem dX9_offer_117 : decode cX9_offer 117 = .ok (.iload_n 1, 1) := by decide +kernel
theorem dX9_offer_118 : decode cX9_offer 118 = .ok (.iadd, 1) := by decide +kernel
theorem dX9_offer_119 : decode cX9_offer 119 = .ok (.iload_n 2, 1) := by decide +kernel
theorem dX9_offer_120 : decode cX9_offer 120 = .ok (.iadd, 1) := by decide +kernel
theorem dX9_offer_121 : decode cX9_offer 121 = .ok (.istore 8, 2) := by decide +kernel
theorem dX9_offer_123 : decode cX9_offer 123 = .ok (.aload_n 0, 1) := by decide +kernel
theorem dX9_offer_124 : decode cX9_offer 124 = .ok (.getfield 50, 3) := by decide +kernel
theorem dX9_offer_127 : decode cX9_offer 127 = .ok (.ifCond .eq 16, 3) := by decide +kernel
theorem dX9_offer_130 : decode cX9_offer 130 = .ok (.aload_n 0, 1) := by decide +kernel
theorem dX9_offer_131 : decode cX9_offer 131 = .ok (.iload 6, 2) := by decide +kernel
theorem dX9_offer_133 : decode cX9_offer 133 = .ok (.iload 7, 2) := by decide +kernel
theorem dX9_offer_135 : decode cX9_offer 135 = .ok (.iload 8, 2) := by decide +kernel
theorem dX9_offer_137 : decode cX9_offer 137 = .ok (.invokevirtual 85, 3) := by decide +kernel
theorem dX9_offer_140 : decode cX9_offer 140 = .ok (.ifCond .eq 40, 3) := by decide +kernel
theorem dX9_offer_143 : decode cX9_offer 143 = .ok (.aload_n 0, 1) := by decide +kernel
theorem dX9_offer_144 : decode cX9_offer 144 = .ok (.iconst 1, 1) := by decide +kernel
theorem dX9_offer_145 : decode cX9_offer 145 = .ok (.putfield 50, 3) := by decide +kernel
theorem dX9_offer_148 : decode cX9_offer 148 = .ok (.aload_n 0, 1) := by decide +kernel
theorem dX9_offer_149 : decode cX9_offer 149 = .ok (.iload 6, 2) := by decide +kernel
theorem dX9_offer_151 : decode cX9_offer 151 = .ok (.putfield 74, 3) := by decide +kernel
theorem dX9_offer_154 : decode cX9_offer 154 = .ok (.aload_n 0, 1) := by decide +kernel
theorem dX9_offer_155 : decode cX9_offer 155 = .ok (.iload 7, 2) := by decide +kernel
theorem dX9_offer_157 : decode cX9_offer 157 = .ok (.putfield 88, 3) := by decide +kernel
theorem dX9_offer_160 : decode cX9_offer 160 = .ok (.aload_n 0, 1) := by decide +kernel
theorem dX9_offer_161 : decode cX9_offer 161 = .ok (.iload 8, 2) := by decide +kernel
theorem dX9_offer_163 : decode cX9_offer 163 = .ok (.putfield 91, 3) := by decide +kernel
theorem dX9_offer_166 : decode cX9_offer 166 = .ok (.aload_n 0, 1) := by decide +kernel
theorem dX9_offer_167 : decode cX9_offer 167 = .ok (.getfield 15, 3) := by decide +kernel
theorem dX9_offer_170 : decode cX9_offer 170 = .ok (.iconst 0, 1) := by decide +kernel
theorem dX9_offer_171 : decode cX9_offer 171 = .ok (.aload_n 0, 1) := by decide +kernel
theorem dX9_offer_172 : decode cX9_offer 172 = .ok (.getfield 9, 3) := by decide +kernel
theorem dX9_offer_175 : decode cX9_offer 175 = .ok (.iconst 0, 1) := by decide +kernel
theorem dX9_offer_176 : decode cX9_offer 176 = .ok (.iconst 3, 1) := by decide +kernel
theorem dX9_offer_177 : decode cX9_offer 177 = .ok (.invokestatic 94, 3) := by decide +kernel
theorem dX9_offer_180 : decode cX9_offer 180 = .ok (.return_, 1) := by decide +kernel
theorem dX9_putTried_0 : decode cX9_putTried 0 = .ok (.aload_n 0, 1) := by decide +kernel
theorem dX9_putTried_1 : decode cX9_putTried 1 = .ok (.getfield 18, 3) := by decide +kernel
theorem dX9_putTried_4 : decode cX9_putTried 4 = .ok (.iload_n 1, 1) := by decide +kernel
theorem dX9_putTried_5 : decode cX9_putTried 5 = .ok (.iaload, 1) := by decide +kernel
theorem dX9_putTried_6 : decode cX9_putTried 6 = .ok (.istore_n 3, 1) := by decide +kernel
theorem dX9_putTried_7 : decode cX9_putTried 7 = .ok (.iload_n 3, 1) := by decide +kernel
theorem dX9_putTried_8 : decode cX9_putTried 8 = .ok (.ifCond .lt 15, 3) := by decide +kernel
theorem dX9_putTried_11 : decode cX9_putTried 11 = .ok (.iload_n 3, 1) := by decide +kernel
theorem dX9_putTried_12 : decode cX9_putTried 12 = .ok (.iconst 3, 1) := by decide +kernel
theorem dX9_putTried_13 : decode cX9_putTried 13 = .ok (.if_icmp .ge 10, 3) := by decide +kernel
theorem dX9_putTried_16 : decode cX9_putTried 16 = .ok (.aload_n 0, 1) := by decide +kernel
theorem dX9_putTried_17 : decode cX9_putTried 17 = .ok (.getfield 15, 3) := by decide +kernel
theorem dX9_putTried_20 : decode cX9_putTried 20 = .ok (.iload_n 3, 1) := by decide +kernel
theorem dX9_putTried_21 : decode cX9_putTried 21 = .ok (.iload_n 2, 1) := by decide +kernel
theorem dX9_putTried_22 : decode cX9_putTried 22 = .ok (.iastore, 1) := by decide +kernel
theorem dX9_putTried_23 : decode cX9_putTried 23 = .ok (.return_, 1) := by decide +kernel
theorem dX9_isBetter_0 : decode cX9_isBetter 0 = .ok (.iload_n 1, 1) := by decide +kernel
theorem dX9_isBetter_1 : decode cX9_isBetter 1 = .ok (.aload_n 0, 1) := by decide +kernel
theorem dX9_isBetter_2 : decode cX9_isBetter 2 = .ok (.getfield 74, 3) := by decide +kernel
theorem dX9_isBetter_5 : decode cX9_isBetter 5 = .ok (.if_icmp .eq 17, 3) := by decide +kernel
theorem dX9_isBetter_8 : decode cX9_isBetter 8 = .ok (.iload_n 1, 1) := by decide +kernel
theorem dX9_isBetter_9 : decode cX9_isBetter 9 = .ok (.aload_n 0, 1) := by decide +kernel
theorem dX9_isBetter_10 : decode cX9_isBetter 10 = .ok (.getfield 74, 3) := by decide +kernel
theorem dX9_isBetter_13 : decode cX9_isBetter 13 = .ok (.if_icmp .ge 7, 3) := by decide +kernel
theorem dX9_isBetter_16 : decode cX9_isBetter 16 = .ok (.iconst 1, 1) := by decide +kernel
theorem dX9_isBetter_17 : decode cX9_isBetter 17 = .ok (.goto 4, 3) := by decide +kernel
theorem dX9_isBetter_20 : decode cX9_isBetter 20 = .ok (.iconst 0, 1) := by decide +kernel
theorem dX9_isBetter_21 : decode cX9_isBetter 21 = .ok (.ireturn, 1) := by decide +kernel
theorem dX9_isBetter_22 : decode cX9_isBetter 22 = .ok (.iload_n 2, 1) := by decide +kernel
theorem dX9_isBetter_23 : decode cX9_isBetter 23 = .ok (.aload_n 0, 1) := by decide +kernel
theorem dX9_isBetter_24 : decode cX9_isBetter 24 = .ok (.getfield 88, 3) := by decide +kernel
theorem dX9_isBetter_27 : decode cX9_isBetter 27 = .ok (.if_icmp .eq 17, 3) := by decide +kernel
theorem dX9_isBetter_30 : decode cX9_isBetter 30 = .ok (.iload_n 2, 1) := by decide +kernel
theorem dX9_isBetter_31 : decode cX9_isBetter 31 = .ok (.aload_n 0, 1) := by decide +kernel
theorem dX9_isBetter_32 : decode cX9_isBetter 32 = .ok (.getfield 88, 3) := by decide +kernel
theorem dX9_isBetter_35 : decode cX9_isBetter 35 = .ok (.if_icmp .ge 7, 3) := by decide +kernel
theorem dX9_isBetter_38 : decode cX9_isBetter 38 = .ok (.iconst 1, 1) := by decide +kernel
theorem dX9_isBetter_39 : decode cX9_isBetter 39 = .ok (.goto 4, 3) := by decide +kernel
theorem dX9_isBetter_42 : decode cX9_isBetter 42 = .ok (.iconst 0, 1) := by decide +kernel
theorem dX9_isBetter_43 : decode cX9_isBetter 43 = .ok (.ireturn, 1) := by decide +kernel
theorem dX9_isBetter_44 : decode cX9_isBetter 44 = .ok (.iload_n 3, 1) := by decide +kernel
theorem dX9_isBetter_45 : decode cX9_isBetter 45 = .ok (.aload_n 0, 1) := by decide +kernel
theorem dX9_isBetter_46 : decode cX9_isBetter 46 = .ok (.getfield 91, 3) := by decide +kernel
theorem dX9_isBetter_49 : decode cX9_isBetter 49 = .ok (.if_icmp .eq 17, 3) := by decide +kernel
theorem dX9_isBetter_52 : decode cX9_isBetter 52 = .ok (.iload_n 3, 1) := by decide +kernel
theorem dX9_isBetter_53 : decode cX9_isBetter 53 = .ok (.aload_n 0, 1) := by decide +kernel
theorem dX9_isBetter_54 : decode cX9_isBetter 54 = .ok (.getfield 91, 3) := by decide +kernel
theorem dX9_isBetter_57 : decode cX9_isBetter 57 = .ok (.if_icmp .ge 7, 3) := by decide +kernel
theorem dX9_isBetter_60 : decode cX9_isBetter 60 = .ok (.iconst 1, 1) := by decide +kernel
theorem dX9_isBetter_61 : decode cX9_isBetter 61 = .ok (.goto 4, 3) := by decide +kernel
theorem dX9_isBetter_64 : decode cX9_isBetter 64 = .ok (.iconst 0, 1) := by decide +kernel
theorem dX9_isBetter_65 : decode cX9_isBetter 65 = .ok (.ireturn, 1) := by decide +kernel
theorem dX9_isBetter_66 : decode cX9_isBetter 66 = .ok (.aload_n 0, 1) := by decide +kernel
theorem dX9_isBetter_67 : decode cX9_isBetter 67 = .ok (.getfield 15, 3) := by decide +kernel
theorem dX9_isBetter_70 : decode cX9_isBetter 70 = .ok (.iconst 0, 1) := by decide +kernel
theorem dX9_isBetter_71 : decode cX9_isBetter 71 = .ok (.iaload, 1) := by decide +kernel
theorem dX9_isBetter_72 : decode cX9_isBetter 72 = .ok (.aload_n 0, 1) := by decide +kernel
theorem dX9_isBetter_73 : decode cX9_isBetter 73 = .ok (.getfield 9, 3) := by decide +kernel
theorem dX9_isBetter_76 : decode cX9_isBetter 76 = .ok (.iconst 0, 1) := by decide +kernel
theorem dX9_isBetter_77 : decode cX9_isBetter 77 = .ok (.iaload, 1) := by decide +kernel
theorem dX9_isBetter_78 : decode cX9_isBetter 78 = .ok (.if_icmp .eq 26, 3) := by decide +kernel
theorem dX9_isBetter_81 : decode cX9_isBetter 81 = .ok (.aload_n 0, 1) := by decide +kernel
theorem dX9_isBetter_82 : decode cX9_isBetter 82 = .ok (.getfield 15, 3) := by decide +kernel
theorem dX9_isBetter_85 : decode cX9_isBetter 85 = .ok (.iconst 0, 1) := by decide +kernel
theorem dX9_isBetter_86 : decode cX9_isBetter 86 = .ok (.iaload, 1) := by decide +kernel
theorem dX9_isBetter_87 : decode cX9_isBetter 87 = .ok (.aload_n 0, 1) := by decide +kernel
theorem dX9_isBetter_88 : decode cX9_isBetter 88 = .ok (.getfield 9, 3) := by decide +kernel
theorem dX9_isBetter_91 : decode cX9_isBetter 91 = .ok (.iconst 0, 1) := by decide +kernel
theorem dX9_isBetter_92 : decode cX9_isBetter 92 = .ok (.iaload, 1) := by decide +kernel
theorem dX9_isBetter_93 : decode cX9_isBetter 93 = .ok (.if_icmp .ge 7, 3) := by decide +kernel
theorem dX9_isBetter_96 : decode cX9_isBetter 96 = .ok (.iconst 1, 1) := by decide +kernel
theorem dX9_isBetter_97 : decode cX9_isBetter 97 = .ok (.goto 27, 3) := by decide +kernel
theorem dX9_isBetter_100 : decode cX9_isBetter 100 = .ok (.iconst 0, 1) := by decide +kernel
theorem dX9_isBetter_101 : decode cX9_isBetter 101 = .ok (.goto 23, 3) := by decide +kernel
theorem dX9_isBetter_104 : decode cX9_isBetter 104 = .ok (.aload_n 0, 1) := by decide +kernel
theorem dX9_isBetter_105 : decode cX9_isBetter 105 = .ok (.getfield 15, 3) := by decide +kernel
theorem dX9_isBetter_108 : decode cX9_isBetter 108 = .ok (.iconst 1, 1) := by decide +kernel
theorem dX9_isBetter_109 : decode cX9_isBetter 109 = .ok (.iaload, 1) := by decide +kernel
theorem dX9_isBetter_110 : decode cX9_isBetter 110 = .ok (.aload_n 0, 1) := by decide +kernel
theorem dX9_isBetter_111 : decode cX9_isBetter 111 = .ok (.getfield 9, 3) := by decide +kernel
theorem dX9_isBetter_114 : decode cX9_isBetter 114 = .ok (.iconst 1, 1) := by decide +kernel
theorem dX9_isBetter_115 : decode cX9_isBetter 115 = .ok (.iaload, 1) := by decide +kernel
theorem dX9_isBetter_116 : decode cX9_isBetter 116 = .ok (.if_icmp .ge 7, 3) := by decide +kernel
theorem dX9_isBetter_119 : decode cX9_isBetter 119 = .ok (.iconst 1, 1) := by decide +kernel
theorem dX9_isBetter_120 : decode cX9_isBetter 120 = .ok (.goto 4, 3) := by decide +kernel
theorem dX9_isBetter_123 : decode cX9_isBetter 123 = .ok (.iconst 0, 1) := by decide +kernel
theorem dX9_isBetter_124 : decode cX9_isBetter 124 = .ok (.ireturn, 1) := by decide +kernel
