theorem dX0_init_0 : decode cX0_init 0 = .ok (.aload_n 0, 1) := by decide +kernel
theorem dX0_init_1 : decode cX0_init 1 = .ok (.invokespecial 3, 3) := by decide +kernel
theorem dX0_init_4 : decode cX0_init 4 = .ok (.aload_n 0, 1) := by decide +kernel
theorem dX0_init_5 : decode cX0_init 5 = .ok (.iconst 5, 1) := by decide +kernel
theorem dX0_init_6 : decode cX0_init 6 = .ok (.putfield 9, 3) := by decide +kernel
theorem dX0_init_9 : decode cX0_init 9 = .ok (.aload_n 0, 1) := by decide +kernel
theorem dX0_init_10 : decode cX0_init 10 = .ok (.bipush 6, 2) := by decide +kernel
theorem dX0_init_12 : decode cX0_init 12 = .ok (.anewarray 15, 3) := by decide +kernel
theorem dX0_init_15 : decode cX0_init 15 = .ok (.putfield 17, 3) := by decide +kernel
theorem dX0_init_18 : decode cX0_init 18 = .ok (.iconst 0, 1) := by decide +kernel
theorem dX0_init_19 : decode cX0_init 19 = .ok (.istore_n 1, 1) := by decide +kernel
theorem dX0_init_20 : decode cX0_init 20 = .ok (.iload_n 1, 1) := by decide +kernel
theorem dX0_init_21 : decode cX0_init 21 = .ok (.bipush 6, 2) := by decide +kernel
theorem dX0_init_23 : decode cX0_init 23 = .ok (.if_icmp .ge 22, 3) := by decide +kernel
theorem dX0_init_26 : decode cX0_init 26 = .ok (.aload_n 0, 1) := by decide +kernel
theorem dX0_init_27 : decode cX0_init 27 = .ok (.getfield 17, 3) := by decide +kernel
theorem dX0_init_30 : decode cX0_init 30 = .ok (.iload_n 1, 1) := by decide +kernel
theorem dX0_init_31 : decode cX0_init 31 = .ok (.new 15, 3) := by decide +kernel
theorem dX0_init_34 : decode cX0_init 34 = .ok (.dup, 1) := by decide +kernel
theorem dX0_init_35 : decode cX0_init 35 = .ok (.invokespecial 21, 3) := by decide +kernel
theorem dX0_init_38 : decode cX0_init 38 = .ok (.aastore, 1) := by decide +kernel
theorem dX0_init_39 : decode cX0_init 39 = .ok (.iinc 1 1, 3) := by decide +kernel
theorem dX0_init_42 : decode cX0_init 42 = .ok (.goto (-22), 3) := by decide +kernel
theorem dX0_init_45 : decode cX0_init 45 = .ok (.return_, 1) := by decide +kernel
theorem dX0_record_0 : decode cX0_record 0 = .ok (.aload_n 0, 1) := by decide +kernel
theorem dX0_record_1 : decode cX0_record 1 = .ok (.aload_n 0, 1) := by decide +kernel
theorem dX0_record_2 : decode cX0_record 2 = .ok (.getfield 9, 3) := by decide +kernel
theorem dX0_record_5 : decode cX0_record 5 = .ok (.iconst 1, 1) := by decide +kernel
theorem dX0_record_6 : decode cX0_record 6 = .ok (.iadd, 1) := by decide +kernel
theorem dX0_record_7 : decode cX0_record 7 = .ok (.bipush 6, 2) := by decide +kernel
theorem dX0_record_9 : decode cX0_record 9 = .ok (.invokestatic 22, 3) := by decide +kernel
theorem dX0_record_12 : decode cX0_record 12 = .ok (.putfield 9, 3) := by decide +kernel
theorem dX0_record_15 : decode cX0_record 15 = .ok (.aload_n 0, 1) := by decide +kernel
theorem dX0_record_16 : decode cX0_record 16 = .ok (.getfield 17, 3) := by decide +kernel
theorem dX0_record_19 : decode cX0_record 19 = .ok (.aload_n 0, 1) := by decide +kernel
theorem dX0_record_20 : decode cX0_record 20 = .ok (.getfield 9, 3) := by decide +kernel
theorem dX0_record_23 : decode cX0_record 23 = .ok (.aaload, 1) := by decide +kernel
theorem dX0_record_24 : decode cX0_record 24 = .ok (.aload_n 1, 1) := by decide +kernel
theorem dX0_record_25 : decode cX0_record 25 = .ok (.invokevirtual 28, 3) := by decide +kernel
theorem dX0_record_28 : decode cX0_record 28 = .ok (.aload_n 0, 1) := by decide +kernel
theorem dX0_record_29 : decode cX0_record 29 = .ok (.aload_n 0, 1) := by decide +kernel
theorem dX0_record_30 : decode cX0_record 30 = .ok (.getfield 32, 3) := by decide +kernel
theorem dX0_record_33 : decode cX0_record 33 = .ok (.iconst 1, 1) := by decide +kernel
theorem dX0_record_34 : decode cX0_record 34 = .ok (.iadd, 1) := by decide +kernel
theorem dX0_record_35 : decode cX0_record 35 = .ok (.bipush 6, 2) := by decide +kernel
theorem dX0_record_37 : decode cX0_record 37 = .ok (.invokestatic 35, 3) := by decide +kernel
theorem dX0_record_40 : decode cX0_record 40 = .ok (.putfield 32, 3) := by decide +kernel
theorem dX0_record_43 : decode cX0_record 43 = .ok (.return_, 1) := by decide +kernel
theorem dX0_giveBack_0 : decode cX0_giveBack 0 = .ok (.aload_n 0, 1) := by decide +kernel
theorem dX0_giveBack_1 : decode cX0_giveBack 1 = .ok (.getfield 32, 3) := by decide +kernel
theorem dX0_giveBack_4 : decode cX0_giveBack 4 = .ok (.ifCond .ne 4, 3) := by decide +kernel
theorem dX0_giveBack_7 : decode cX0_giveBack 7 = .ok (.return_, 1) := by decide +kernel
theorem dX0_giveBack_8 : decode cX0_giveBack 8 = .ok (.aload_n 1, 1) := by decide +kernel
theorem dX0_giveBack_9 : decode cX0_giveBack 9 = .ok (.aload_n 0, 1) := by decide +kernel
theorem dX0_giveBack_10 : decode cX0_giveBack 10 = .ok (.getfield 17, 3) := by decide +kernel
theorem dX0_giveBack_13 : decode cX0_giveBack 13 = .ok (.aload_n 0, 1) := by decide +kernel
theorem dX0_giveBack_14 : decode cX0_giveBack 14 = .ok (.getfield 9, 3) := by decide +kernel
theorem dX0_giveBack_17 : decode cX0_giveBack 17 = .ok (.bipush 6, 2) := by decide +kernel
theorem dX0_giveBack_19 : decode cX0_giveBack 19 = .ok (.invokestatic 22, 3) := by decide +kernel
theorem dX0_giveBack_22 : decode cX0_giveBack 22 = .ok (.aaload, 1) := by decide +kernel
theorem dX0_giveBack_23 : decode cX0_giveBack 23 = .ok (.invokevirtual 28, 3) := by decide +kernel
theorem dX0_giveBack_26 : decode cX0_giveBack 26 = .ok (.aload_n 0, 1) := by decide +kernel
theorem dX0_giveBack_27 : decode cX0_giveBack 27 = .ok (.aload_n 0, 1) := by decide +kernel
theorem dX0_giveBack_28 : decode cX0_giveBack 28 = .ok (.getfield 9, 3) := by decide +kernel
theorem dX0_giveBack_31 : decode cX0_giveBack 31 = .ok (.iconst 1, 1) := by decide +kernel
theorem dX0_giveBack_32 : decode cX0_giveBack 32 = .ok (.isub, 1) := by decide +kernel
theorem dX0_giveBack_33 : decode cX0_giveBack 33 = .ok (.bipush 6, 2) := by decide +kernel
theorem dX0_giveBack_35 : decode cX0_giveBack 35 = .ok (.invokestatic 22, 3) := by decide +kernel
theorem dX0_giveBack_38 : decode cX0_giveBack 38 = .ok (.putfield 9, 3) := by decide +kernel
theorem dX0_giveBack_41 : decode cX0_giveBack 41 = .ok (.aload_n 0, 1) := by decide +kernel
theorem dX0_giveBack_42 : decode cX0_giveBack 42 = .ok (.dup, 1) := by decide +kernel
theorem dX0_giveBack_43 : decode cX0_giveBack 43 = .ok (.getfield 32, 3) := by decide +kernel
theorem dX0_giveBack_46 : decode cX0_giveBack 46 = .ok (.iconst 1, 1) := by decide +kernel
theorem dX0_giveBack_47 : decode cX0_giveBack 47 = .ok (.isub, 1) := by decide +kernel
theorem dX0_giveBack_48 : decode cX0_giveBack 48 = .ok (.putfield 32, 3) := by decide +kernel
theorem dX0_giveBack_51 : decode cX0_giveBack 51 = .ok (.return_, 1) := by decide +kernel
theorem dX1_init_0 : decode cX1_init 0 = .ok (.aload_n 0, 1) := by decide +kernel
theorem dX1_init_1 : decode cX1_init 1 = .ok (.invokespecial 3, 3) := by decide +kernel
theorem dX1_init_4 : decode cX1_init 4 = .ok (.aload_n 0, 1) := by decide +kernel
theorem dX1_init_5 : decode cX1_init 5 = .ok (.iconst 3, 1) := by decide +kernel
theorem dX1_init_6 : decode cX1_init 6 = .ok (.newarray .int, 2) := by decide +kernel
theorem dX1_init_8 : decode cX1_init 8 = .ok (.putfield 9, 3) := by decide +kernel
theorem dX1_init_11 : decode cX1_init 11 = .ok (.aload_n 0, 1) := by decide +kernel
theorem dX1_init_12 : decode cX1_init 12 = .ok (.iconst 3, 1) := by decide +kernel
theorem dX1_init_13 : decode cX1_init 13 = .ok (.newarray .int, 2) := by decide +kernel
theorem dX1_init_15 : decode cX1_init 15 = .ok (.putfield 15, 3) := by decide +kernel
theorem dX1_init_18 : decode cX1_init 18 = .ok (.aload_n 0, 1) := by decide +kernel
theorem dX1_init_19 : decode cX1_init 19 = .ok (.bipush 30, 2) := by decide +kernel
theorem dX1_init_21 : decode cX1_init 21 = .ok (.newarray .int, 2) := by decide +kernel
theorem dX1_init_23 : decode cX1_init 23 = .ok (.putfield 18, 3) := by decide +kernel
theorem dX1_init_26 : decode cX1_init 26 = .ok (.return_, 1) := by decide +kernel
theorem dX1_begin_0 : decode cX1_begin 0 = .ok (.aload_n 0, 1) := by decide +kernel
theorem dX1_begin_1 : decode cX1_begin 1 = .ok (.iload_n 1, 1) := by decide +kernel
theorem dX1_begin_2 : decode cX1_begin 2 = .ok (.putfield 21, 3) := by decide +kernel
theorem dX1_begin_5 : decode cX1_begin 5 = .ok (.aload_n 0, 1) := by decide +kernel
theorem dX1_begin_6 : decode cX1_begin 6 = .ok (.iconst 1, 1) := by decide +kernel
theorem dX1_begin_7 : decode cX1_begin 7 = .ok (.putfield 25, 3) := by decide +kernel
theorem dX1_begin_10 : decode cX1_begin 10 = .ok (.aload_n 0, 1) := by decide +kernel
theorem dX1_begin_11 : decode cX1_begin 11 = .ok (.iconst 0, 1) := by decide +kernel
theorem dX1_begin_12 : decode cX1_begin 12 = .ok (.putfield 29, 3) := by decide +kernel
theorem dX1_begin_15 : decode cX1_begin 15 = .ok (.aload_n 0, 1) := by decide +kernel
theorem dX1_begin_16 : decode cX1_begin 16 = .ok (.bipush (-6), 2) := by decide +kernel
theorem dX1_begin_18 : decode cX1_begin 18 = .ok (.putfield 32, 3) := by decide +kernel
theorem dX1_begin_21 : decode cX1_begin 21 = .ok (.aload_n 0, 1) := by decide +kernel
theorem dX1_begin_22 : decode cX1_begin 22 = .ok (.bipush (-6), 2) := by decide +kernel
theorem dX1_begin_24 : decode cX1_begin 24 = .ok (.putfield 35, 3) := by decide +kernel
theorem dX1_begin_27 : decode cX1_begin 27 = .ok (.iconst 0, 1) := by decide +kernel
theorem dX1_begin_28 : decode cX1_begin 28 = .ok (.istore_n 2, 1) := by decide +kernel
theorem dX1_begin_29 : decode cX1_begin 29 = .ok (.iload_n 2, 1) := by decide +kernel
theorem dX1_begin_30 : decode cX1_begin 30 = .ok (.bipush 30, 2) := by decide +kernel
theorem dX1_begin_32 : decode cX1_begin 32 = .ok (.if_icmp .ge 16, 3) := by decide +kernel
theorem dX1_begin_35 : decode cX1_begin 35 = .ok (.aload_n 0, 1) := by decide +kernel
theorem dX1_begin_36 : decode cX1_begin 36 = .ok (.getfield 18, 3) := by decide +kernel
theorem dX1_begin_39 : decode cX1_begin 39 = .ok (.iload_n 2, 1) := by decide +kernel
theorem dX1_begin_40 : decode cX1_begin 40 = .ok (.iconst 0, 1) := by decide +kernel
theorem dX1_begin_41 : decode cX1_begin 41 = .ok (.iastore, 1) := by decide +kernel
theorem dX1_begin_42 : decode cX1_begin 42 = .ok (.iinc 2 1, 3) := by decide +kernel
theorem dX1_begin_45 : decode cX1_begin 45 = .ok (.goto (-16), 3) := by decide +kernel
theorem dX1_begin_48 : decode cX1_begin 48 = .ok (.aload_n 0, 1) := by decide +kernel
theorem dX1_begin_49 : decode cX1_begin 49 = .ok (.iconst 0, 1) := by decide +kernel
theorem dX1_begin_50 : decode cX1_begin 50 = .ok (.putfield 38, 3) := by decide +kernel
theorem dX1_begin_53 : decode cX1_begin 53 = .ok (.aload_n 0, 1) := by decide +kernel
theorem dX1_begin_54 : decode cX1_begin 54 = .ok (.iconst 0, 1) := by decide +kernel
theorem dX1_begin_55 : decode cX1_begin 55 = .ok (.putfield 41, 3) := by decide +kernel
theorem dX1_begin_58 : decode cX1_begin 58 = .ok (.aload_n 0, 1) := by decide +kernel
theorem dX1_begin_59 : decode cX1_begin 59 = .ok (.iconst 0, 1) := by decide +kernel
theorem dX1_begin_60 : decode cX1_begin 60 = .ok (.putfield 44, 3) := by decide +kernel
theorem dX1_begin_63 : decode cX1_begin 63 = .ok (.aload_n 0, 1) := by decide +kernel
theorem dX1_begin_64 : decode cX1_begin 64 = .ok (.iconst 0, 1) := by decide +kernel
theorem dX1_begin_65 : decode cX1_begin 65 = .ok (.putfield 47, 3) := by decide +kernel
theorem dX1_begin_68 : decode cX1_begin 68 = .ok (.return_, 1) := by decide +kernel
theorem dX1_copyFrom_0 : decode cX1_copyFrom 0 = .ok (.aload_n 0, 1) := by decide +kernel
theorem dX1_copyFrom_1 : decode cX1_copyFrom 1 = .ok (.aload_n 1, 1) := by decide +kernel
theorem dX1_copyFrom_2 : decode cX1_copyFrom 2 = .ok (.getfield 21, 3) := by decide +kernel
theorem dX1_copyFrom_5 : decode cX1_copyFrom 5 = .ok (.putfield 21, 3) := by decide +kernel
theorem dX1_copyFrom_8 : decode cX1_copyFrom 8 = .ok (.aload_n 0, 1) := by decide +kernel
theorem dX1_copyFrom_9 : decode cX1_copyFrom 9 = .ok (.aload_n 1, 1) := by decide +kernel
theorem dX1_copyFrom_10 : decode cX1_copyFrom 10 = .ok (.getfield 25, 3) := by decide +kernel
theorem dX1_copyFrom_13 : decode cX1_copyFrom 13 = .ok (.putfield 25, 3) := by decide +kernel
theorem dX1_copyFrom_16 : decode cX1_copyFrom 16 = .ok (.aload_n 0, 1) := by decide +kernel
theorem dX1_copyFrom_17 : decode cX1_copyFrom 17 = .ok (.aload_n 1, 1) := by decide +kernel
theorem dX1_copyFrom_18 : decode cX1_copyFrom 18 = .ok (.getfield 29, 3) := by decide +kernel
theorem dX1_copyFrom_21 : decode cX1_copyFrom 21 = .ok (.putfield 29, 3) := by decide +kernel
theorem dX1_copyFrom_24 : decode cX1_copyFrom 24 = .ok (.aload_n 1, 1) := by decide +kernel
theorem dX1_copyFrom_25 : decode cX1_copyFrom 25 = .ok (.getfield 9, 3) := by decide +kernel
theorem dX1_copyFrom_28 : decode cX1_copyFrom 28 = .ok (.iconst 0, 1) := by decide +kernel
theorem dX1_copyFrom_29 : decode cX1_copyFrom 29 = .ok (.aload_n 0, 1) := by decide +kernel
theorem dX1_copyFrom_30 : decode cX1_copyFrom 30 = .ok (.getfield 9, 3) := by decide +kernel
theorem dX1_copyFrom_33 : decode cX1_copyFrom 33 = .ok (.iconst 0, 1) := by decide +kernel
theorem dX1_copyFrom_34 : decode cX1_copyFrom 34 = .ok (.iconst 3, 1) := by decide +kernel
theorem dX1_copyFrom_35 : decode cX1_copyFrom 35 = .ok (.invokestatic 50, 3) := by decide +kernel
theorem dX1_copyFrom_38 : decode cX1_copyFrom 38 = .ok (.aload_n 1, 1) := by decide +kernel
theorem dX1_copyFrom_39 : decode cX1_copyFrom 39 = .ok (.getfield 15, 3) := by decide +kernel
theorem dX1_copyFrom_42 : decode cX1_copyFrom 42 = .ok (.iconst 0, 1) := by decide +kernel
theorem dX1_copyFrom_43 : decode cX1_copyFrom 43 = .ok (.aload_n 0, 1) := by decide +kernel
theorem dX1_copyFrom_44 : decode cX1_copyFrom 44 = .ok (.getfield 15, 3) := by decide +kernel
theorem dX1_copyFrom_47 : decode cX1_copyFrom 47 = .ok (.iconst 0, 1) := by decide +kernel
theorem dX1_copyFrom_48 : decode cX1_copyFrom 48 = .ok (.iconst 3, 1) := by decide +kernel
theorem dX1_copyFrom_49 : decode cX1_copyFrom 49 = .ok (.invokestatic 50, 3) := by decide +kernel
theorem dX1_copyFrom_52 : decode cX1_copyFrom 52 = .ok (.aload_n 0, 1) := by decide +kernel
theorem dX1_copyFrom_53 : decode cX1_copyFrom 53 = .ok (.aload_n 1, 1) := by decide +kernel
theorem dX1_copyFrom_54 : decode cX1_copyFrom 54 = .ok (.getfield 32, 3) := by decide +kernel
theorem dX1_copyFrom_57 : decode cX1_copyFrom 57 = .ok (.putfield 32, 3) := by decide +kernel
theorem dX1_copyFrom_60 : decode cX1_copyFrom 60 = .ok (.aload_n 0, 1) := by decide +kernel
theorem dX1_copyFrom_61 : decode cX1_copyFrom 61 = .ok (.aload_n 1, 1) := by decide +kernel
theorem dX1_copyFrom_62 : decode cX1_copyFrom 62 = .ok (.getfield 35, 3) := by decide +kernel
theorem dX1_copyFrom_65 : decode cX1_copyFrom 65 = .ok (.putfield 35, 3) := by decide +kernel
theorem dX1_copyFrom_68 : decode cX1_copyFrom 68 = .ok (.aload_n 1, 1) := by decide +kernel
theorem dX1_copyFrom_69 : decode cX1_copyFrom 69 = .ok (.getfield 18, 3) := by decide +kernel
theorem dX1_copyFrom_72 : decode cX1_copyFrom 72 = .ok (.iconst 0, 1) := by decide +kernel
theorem dX1_copyFrom_73 : decode cX1_copyFrom 73 = .ok (.aload_n 0, 1) := by decide +kernel
theorem dX1_copyFrom_74 : decode cX1_copyFrom 74 = .ok (.getfield 18, 3) := by decide +kernel
theorem dX1_copyFrom_77 : decode cX1_copyFrom 77 = .ok (.iconst 0, 1) := by decide +kernel
theorem dX1_copyFrom_78 : decode cX1_copyFrom 78 = .ok (.bipush 30, 2) := by decide +kernel
theorem dX1_copyFrom_80 : decode cX1_copyFrom 80 = .ok (.invokestatic 50, 3) := by decide +kernel
theorem dX1_copyFrom_83 : decode cX1_copyFrom 83 = .ok (.aload_n 0, 1) := by decide +kernel
theorem dX1_copyFrom_84 : decode cX1_copyFrom 84 = .ok (.aload_n 1, 1) := by decide +kernel
theorem dX1_copyFrom_85 : decode cX1_copyFrom 85 = .ok (.getfield 38, 3) := by decide +kernel
theorem dX1_copyFrom_88 : decode cX1_copyFrom 88 = .ok (.putfield 38, 3) := by decide +kernel
theorem dX1_copyFrom_91 : decode cX1_copyFrom 91 = .ok (.aload_n 0, 1) := by decide +kernel
theorem dX1_copyFrom_92 : decode cX1_copyFrom 92 = .ok (.aload_n 1, 1) := by decide +kernel
theorem dX1_copyFrom_93 : decode cX1_copyFrom 93 = .ok (.getfield 41, 3) := by decide +kernel
theorem dX1_copyFrom_96 : decode cX1_copyFrom 96 = .ok (.putfield 41, 3) := by decide +kernel
theorem dX1_copyFrom_99 : decode cX1_copyFrom 99 = .ok (.aload_n 0, 1) := by decide +kernel
theorem dX1_copyFrom_100 : decode cX1_copyFrom 100 = .ok (.aload_n 1, 1) := by decide +kernel
theorem dX1_copyFrom_101 : decode cX1_copyFrom 101 = .ok (.getfield 44, 3) := by decide +kernel
theorem dX1_copyFrom_104 : decode cX1_copyFrom 104 = .ok (.putfield 44, 3) := by decide +kernel
theorem dX1_copyFrom_107 : decode cX1_copyFrom 107 = .ok (.aload_n 0, 1) := by decide +kernel
theorem dX1_copyFrom_108 : decode cX1_copyFrom 108 = .ok (.aload_n 1, 1) := by decide +kernel
theorem dX1_copyFrom_109 : decode cX1_copyFrom 109 = .ok (.getfield 47, 3) := by decide +kernel
theorem dX1_copyFrom_112 : decode cX1_copyFrom 112 = .ok (.putfield 47, 3) := by decide +kernel
theorem dX1_copyFrom_115 : decode cX1_copyFrom 115 = .ok (.return_, 1) := by decide +kernel
theorem dX1_hasKind_0 : decode cX1_hasKind 0 = .ok (.iload_n 1, 1) := by decide +kernel
theorem dX1_hasKind_1 : decode cX1_hasKind 1 = .ok (.ifCond .lt 20, 3) := by decide +kernel
theorem dX1_hasKind_4 : decode cX1_hasKind 4 = .ok (.iload_n 1, 1) := by decide +kernel
theorem dX1_hasKind_5 : decode cX1_hasKind 5 = .ok (.aload_n 0, 1) := by decide +kernel
theorem dX1_hasKind_6 : decode cX1_hasKind 6 = .ok (.getfield 29, 3) := by decide +kernel
theorem dX1_hasKind_9 : decode cX1_hasKind 9 = .ok (.if_icmp .ge 12, 3) := by decide +kernel
theorem dX1_hasKind_12 : decode cX1_hasKind 12 = .ok (.iload_n 1, 1) := by decide +kernel
theorem dX1_hasKind_13 : decode cX1_hasKind 13 = .ok (.iconst 3, 1) := by decide +kernel
theorem dX1_hasKind_14 : decode cX1_hasKind 14 = .ok (.if_icmp .ge 7, 3) := by decide +kernel
theorem dX1_hasKind_17 : decode cX1_hasKind 17 = .ok (.iconst 1, 1) := by decide +kernel
theorem dX1_hasKind_18 : decode cX1_hasKind 18 = .ok (.goto 4, 3) := by decide +kernel
theorem dX1_hasKind_21 : decode cX1_hasKind 21 = .ok (.iconst 0, 1) := by decide +kernel
theorem dX1_hasKind_22 : decode cX1_hasKind 22 = .ok (.ireturn, 1) := by decide +kernel
theorem dX1_hasSize_0 : decode cX1_hasSize 0 = .ok (.iconst 0, 1) := by decide +kernel
theorem dX1_hasSize_1 : decode cX1_hasSize 1 = .ok (.istore_n 2, 1) := by decide +kernel
theorem dX1_hasSize_2 : decode cX1_hasSize 2 = .ok (.iload_n 2, 1) := by decide +kernel
theorem dX1_hasSize_3 : decode cX1_hasSize 3 = .ok (.aload_n 0, 1) := by decide +kernel
theorem dX1_hasSize_4 : decode cX1_hasSize 4 = .ok (.getfield 29, 3) := by decide +kernel
theorem dX1_hasSize_7 : decode cX1_hasSize 7 = .ok (.if_icmp .ge 26, 3) := by decide +kernel
theorem dX1_hasSize_10 : decode cX1_hasSize 10 = .ok (.iload_n 2, 1) := by decide +kernel
theorem dX1_hasSize_11 : decode cX1_hasSize 11 = .ok (.iconst 3, 1) := by decide +kernel
theorem dX1_hasSize_12 : decode cX1_hasSize 12 = .ok (.if_icmp .ge 21, 3) := by decide +kernel
theorem dX1_hasSize_15 : decode cX1_hasSize 15 = .ok (.aload_n 0, 1) := by decide +kernel
theorem dX1_hasSize_16 : decode cX1_hasSize 16 = .ok (.getfield 9, 3) := by decide +kernel
theorem dX1_hasSize_19 : decode cX1_hasSize 19 = .ok (.iload_n 2, 1) := by decide +kernel
theorem dX1_hasSize_20 : decode cX1_hasSize 20 = .ok (.iaload, 1) := by decide +kernel
theorem dX1_hasSize_21 : decode cX1_hasSize 21 = .ok (.iload_n 1, 1) := by decide +kernel
theorem dX1_hasSize_22 : decode cX1_hasSize 22 = .ok (.if_icmp .ne 5, 3) := by decide +kernel
theorem dX1_hasSize_25 : decode cX1_hasSize 25 = .ok (.iconst 1, 1) := by decide +kernel
theorem dX1_hasSize_26 : decode cX1_hasSize 26 = .ok (.ireturn, 1) := by decide +kernel
theorem dX1_hasSize_27 : decode cX1_hasSize 27 = .ok (.iinc 2 1, 3) := by decide +kernel
theorem dX1_hasSize_30 : decode cX1_hasSize 30 = .ok (.goto (-28), 3) := by decide +kernel
theorem dX1_hasSize_33 : decode cX1_hasSize 33 = .ok (.iconst 0, 1) := by decide +kernel
theorem dX1_hasSize_34 : decode cX1_hasSize 34 = .ok (.ireturn, 1) := by decide +kernel
theorem dX1_addKind_0 : decode cX1_addKind 0 = .ok (.aload_n 0, 1) := by decide +kernel
theorem dX1_addKind_1 : decode cX1_addKind 1 = .ok (.getfield 29, 3) := by decide +kernel
theorem dX1_addKind_4 : decode cX1_addKind 4 = .ok (.ifCond .lt 11, 3) := by decide +kernel
theorem dX1_addKind_7 : decode cX1_addKind 7 = .ok (.aload_n 0, 1) := by decide +kernel
theorem dX1_addKind_8 : decode cX1_addKind 8 = .ok (.getfield 29, 3) := by decide +kernel
theorem dX1_addKind_11 : decode cX1_addKind 11 = .ok (.iconst 3, 1) := by decide +kernel
theorem dX1_addKind_12 : decode cX1_addKind 12 = .ok (.if_icmp .lt 4, 3) := by decide +kernel
theorem dX1_addKind_15 : decode cX1_addKind 15 = .ok (.return_, 1) := by decide +kernel
theorem dX1_addKind_16 : decode cX1_addKind 16 = .ok (.aload_n 0, 1) := by decide +kernel
theorem dX1_addKind_17 : decode cX1_addKind 17 = .ok (.getfield 9, 3) := by decide +kernel
theorem dX1_addKind_20 : decode cX1_addKind 20 = .ok (.aload_n 0, 1) := by decide +kernel
theorem dX1_addKind_21 : decode cX1_addKind 21 = .ok (.getfield 29, 3) := by decide +kernel
theorem dX1_addKind_24 : decode cX1_addKind 24 = .ok (.iload_n 1, 1) := by decide +kernel
theorem dX1_addKind_25 : decode cX1_addKind 25 = .ok (.iastore, 1) := by decide +kernel
theorem dX1_addKind_26 : decode cX1_addKind 26 = .ok (.aload_n 0, 1) := by decide +kernel
theorem dX1_addKind_27 : decode cX1_addKind 27 = .ok (.getfield 15, 3) := by decide +kernel
theorem dX1_addKind_30 : decode cX1_addKind 30 = .ok (.aload_n 0, 1) := by decide +kernel
theorem dX1_addKind_31 : decode cX1_addKind 31 = .ok (.getfield 29, 3) := by decide +kernel
theorem dX1_addKind_34 : decode cX1_addKind 34 = .ok (.iload_n 2, 1) := by decide +kernel
theorem dX1_addKind_35 : decode cX1_addKind 35 = .ok (.iastore, 1) := by decide +kernel
theorem dX1_addKind_36 : decode cX1_addKind 36 = .ok (.aload_n 0, 1) := by decide +kernel
theorem dX1_addKind_37 : decode cX1_addKind 37 = .ok (.dup, 1) := by decide +kernel
theorem dX1_addKind_38 : decode cX1_addKind 38 = .ok (.getfield 29, 3) := by decide +kernel
theorem dX1_addKind_41 : decode cX1_addKind 41 = .ok (.iconst 1, 1) := by decide +kernel
theorem dX1_addKind_42 : decode cX1_addKind 42 = .ok (.iadd, 1) := by decide +kernel
theorem dX1_addKind_43 : decode cX1_addKind 43 = .ok (.putfield 29, 3) := by decide +kernel
theorem dX1_addKind_46 : decode cX1_addKind 46 = .ok (.return_, 1) := by decide +kernel
theorem dX1_inPantry_0 : decode cX1_inPantry 0 = .ok (.iconst 0, 1) := by decide +kernel
theorem dX1_inPantry_1 : decode cX1_inPantry 1 = .ok (.istore_n 1, 1) := by decide +kernel
theorem dX1_inPantry_2 : decode cX1_inPantry 2 = .ok (.aload_n 0, 1) := by decide +kernel
theorem dX1_inPantry_3 : decode cX1_inPantry 3 = .ok (.getfield 18, 3) := by decide +kernel
theorem dX1_inPantry_6 : decode cX1_inPantry 6 = .ok (.astore_n 2, 1) := by decide +kernel
theorem dX1_inPantry_7 : decode cX1_inPantry 7 = .ok (.aload_n 2, 1) := by decide +kernel
theorem dX1_inPantry_8 : decode cX1_inPantry 8 = .ok (.arraylength, 1) := by decide +kernel
theorem dX1_inPantry_9 : decode cX1_inPantry 9 = .ok (.istore_n 3, 1) := by decide +kernel
theorem dX1_inPantry_10 : decode cX1_inPantry 10 = .ok (.iconst 0, 1) := by decide +kernel
theorem dX1_inPantry_11 : decode cX1_inPantry 11 = .ok (.istore 4, 2) := by decide +kernel
theorem dX1_inPantry_13 : decode cX1_inPantry 13 = .ok (.iload 4, 2) := by decide +kernel
theorem dX1_inPantry_15 : decode cX1_inPantry 15 = .ok (.iload_n 3, 1) := by decide +kernel
theorem dX1_inPantry_16 : decode cX1_inPantry 16 = .ok (.if_icmp .ge 20, 3) := by decide +kernel
theorem dX1_inPantry_19 : decode cX1_inPantry 19 = .ok (.aload_n 2, 1) := by decide +kernel
theorem dX1_inPantry_20 : decode cX1_inPantry 20 = .ok (.iload 4, 2) := by decide +kernel
theorem dX1_inPantry_22 : decode cX1_inPantry 22 = .ok (.iaload, 1) := by decide +kernel
theorem dX1_inPantry_23 : decode cX1_inPantry 23 = .ok (.istore 5, 2) := by decide +kernel
theorem dX1_inPantry_25 : decode cX1_inPantry 25 = .ok (.iload_n 1, 1) := by decide +kernel
theorem dX1_inPantry_26 : decode cX1_inPantry 26 = .ok (.iload 5, 2) := by decide +kernel
theorem dX1_inPantry_28 : decode cX1_inPantry 28 = .ok (.iadd, 1) := by decide +kernel
theorem dX1_inPantry_29 : decode cX1_inPantry 29 = .ok (.istore_n 1, 1) := by decide +kernel
theorem dX1_inPantry_30 : decode cX1_inPantry 30 = .ok (.iinc 4 1, 3) := by decide +kernel
theorem dX1_inPantry_33 : decode cX1_inPantry 33 = .ok (.goto (-20), 3) := by decide +kernel
theorem dX1_inPantry_36 : decode cX1_inPantry 36 = .ok (.iload_n 1, 1) := by decide +kernel
theorem dX1_inPantry_37 : decode cX1_inPantry 37 = .ok (.ireturn, 1) := by decide +kernel
theorem dX1_lotsThere_0 : decode cX1_lotsThere 0 = .ok (.iconst 0, 1) := by decide +kernel
theorem dX1_lotsThere_1 : decode cX1_lotsThere 1 = .ok (.istore_n 1, 1) := by decide +kernel
theorem dX1_lotsThere_2 : decode cX1_lotsThere 2 = .ok (.aload_n 0, 1) := by decide +kernel
theorem dX1_lotsThere_3 : decode cX1_lotsThere 3 = .ok (.getfield 18, 3) := by decide +kernel
theorem dX1_lotsThere_6 : decode cX1_lotsThere 6 = .ok (.astore_n 2, 1) := by decide +kernel
theorem dX1_lotsThere_7 : decode cX1_lotsThere 7 = .ok (.aload_n 2, 1) := by decide +kernel
theorem dX1_lotsThere_8 : decode cX1_lotsThere 8 = .ok (.arraylength, 1) := by decide +kernel
theorem dX1_lotsThere_9 : decode cX1_lotsThere 9 = .ok (.istore_n 3, 1) := by decide +kernel
theorem dX1_lotsThere_10 : decode cX1_lotsThere 10 = .ok (.iconst 0, 1) := by decide +kernel
theorem dX1_lotsThere_11 : decode cX1_lotsThere 11 = .ok (.istore 4, 2) := by decide +kernel
theorem dX1_lotsThere_13 : decode cX1_lotsThere 13 = .ok (.iload 4, 2) := by decide +kernel
theorem dX1_lotsThere_15 : decode cX1_lotsThere 15 = .ok (.iload_n 3, 1) := by decide +kernel
theorem dX1_lotsThere_16 : decode cX1_lotsThere 16 = .ok (.if_icmp .ge 23, 3) := by decide +kernel
theorem dX1_lotsThere_19 : decode cX1_lotsThere 19 = .ok (.aload_n 2, 1) := by decide +kernel
theorem dX1_lotsThere_20 : decode cX1_lotsThere 20 = .ok (.iload 4, 2) := by decide +kernel
theorem dX1_lotsThere_22 : decode cX1_lotsThere 22 = .ok (.iaload, 1) := by decide +kernel
theorem dX1_lotsThere_23 : decode cX1_lotsThere 23 = .ok (.istore 5, 2) := by decide +kernel
theorem dX1_lotsThere_25 : decode cX1_lotsThere 25 = .ok (.iload 5, 2) := by decide +kernel
theorem dX1_lotsThere_27 : decode cX1_lotsThere 27 = .ok (.ifCond .le 6, 3) := by decide +kernel
theorem dX1_lotsThere_30 : decode cX1_lotsThere 30 = .ok (.iinc 1 1, 3) := by decide +kernel
theorem dX1_lotsThere_33 : decode cX1_lotsThere 33 = .ok (.iinc 4 1, 3) := by decide +kernel
theorem dX1_lotsThere_36 : decode cX1_lotsThere 36 = .ok (.goto (-23), 3) := by decide +kernel
theorem dX1_lotsThere_39 : decode cX1_lotsThere 39 = .ok (.iload_n 1, 1) := by decide +kernel
theorem dX1_lotsThere_40 : decode cX1_lotsThere 40 = .ok (.ireturn, 1) := by decide +kernel
theorem dX1_firstSpoilDay_0 : decode cX1_firstSpoilDay 0 = .ok (.iconst 1, 1) := by decide +kernel
theorem dX1_firstSpoilDay_1 : decode cX1_firstSpoilDay 1 = .ok (.istore_n 2, 1) := by decide +kernel
theorem dX1_firstSpoilDay_2 : decode cX1_firstSpoilDay 2 = .ok (.iload_n 2, 1) := by decide +kernel
theorem dX1_firstSpoilDay_3 : decode cX1_firstSpoilDay 3 = .ok (.bipush 30, 2) := by decide +kernel
theorem dX1_firstSpoilDay_5 : decode cX1_firstSpoilDay 5 = .ok (.if_icmp .gt 27, 3) := by decide +kernel
theorem dX1_firstSpoilDay_8 : decode cX1_firstSpoilDay 8 = .ok (.aload_n 0, 1) := by decide +kernel
theorem dX1_firstSpoilDay_9 : decode cX1_firstSpoilDay 9 = .ok (.getfield 18, 3) := by decide +kernel
theorem dX1_firstSpoilDay_12 : decode cX1_firstSpoilDay 12 = .ok (.iload_n 1, 1) := by decide +kernel
theorem dX1_firstSpoilDay_13 : decode cX1_firstSpoilDay 13 = .ok (.iload_n 2, 1) := by decide +kernel
theorem dX1_firstSpoilDay_14 : decode cX1_firstSpoilDay 14 = .ok (.iadd, 1) := by decide +kernel
theorem dX1_firstSpoilDay_15 : decode cX1_firstSpoilDay 15 = .ok (.invokestatic 56, 3) := by decide +kernel
theorem dX1_firstSpoilDay_18 : decode cX1_firstSpoilDay 18 = .ok (.iaload, 1) := by decide +kernel
theorem dX1_firstSpoilDay_19 : decode cX1_firstSpoilDay 19 = .ok (.ifCond .le 7, 3) := by decide +kernel
theorem dX1_firstSpoilDay_22 : decode cX1_firstSpoilDay 22 = .ok (.iload_n 1, 1) := by decide +kernel
theorem dX1_firstSpoilDay_23 : decode cX1_firstSpoilDay 23 = .ok (.iload_n 2, 1) := by decide +kernel
theorem dX1_firstSpoilDay_24 : decode cX1_firstSpoilDay 24 = .ok (.iadd, 1) := by decide +kernel
theorem dX1_firstSpoilDay_25 : decode cX1_firstSpoilDay 25 = .ok (.ireturn, 1) := by decide +kernel
theorem dX1_firstSpoilDay_26 : decode cX1_firstSpoilDay 26 = .ok (.iinc 2 1, 3) := by decide +kernel
theorem dX1_firstSpoilDay_29 : decode cX1_firstSpoilDay 29 = .ok (.goto (-27), 3) := by decide +kernel
theorem dX1_firstSpoilDay_32 : decode cX1_firstSpoilDay 32 = .ok (.bipush (-6), 2) := by decide +kernel
theorem dX1_firstSpoilDay_34 : decode cX1_firstSpoilDay 34 = .ok (.ireturn, 1) := by decide +kernel
theorem dX1_addLot_0 : decode cX1_addLot 0 = .ok (.aload_n 0, 1) := by decide +kernel
theorem dX1_addLot_1 : decode cX1_addLot 1 = .ok (.getfield 18, 3) := by decide +kernel
theorem dX1_addLot_4 : decode cX1_addLot 4 = .ok (.iload_n 1, 1) := by decide +kernel
theorem dX1_addLot_5 : decode cX1_addLot 5 = .ok (.aload_n 0, 1) := by decide +kernel
theorem dX1_addLot_6 : decode cX1_addLot 6 = .ok (.getfield 21, 3) := by decide +kernel
theorem dX1_addLot_9 : decode cX1_addLot 9 = .ok (.iadd, 1) := by decide +kernel
theorem dX1_addLot_10 : decode cX1_addLot 10 = .ok (.invokestatic 56, 3) := by decide +kernel
theorem dX1_addLot_13 : decode cX1_addLot 13 = .ok (.dup2, 1) := by decide +kernel
theorem dX1_addLot_14 : decode cX1_addLot 14 = .ok (.iaload, 1) := by decide +kernel
theorem dX1_addLot_15 : decode cX1_addLot 15 = .ok (.iload_n 2, 1) := by decide +kernel
theorem dX1_addLot_16 : decode cX1_addLot 16 = .ok (.iadd, 1) := by decide +kernel
theorem dX1_addLot_17 : decode cX1_addLot 17 = .ok (.iastore, 1) := by decide +kernel
theorem dX1_addLot_18 : decode cX1_addLot 18 = .ok (.return_, 1) := by decide +kernel
theorem dX1_takeFromLots_0 : decode cX1_takeFromLots 0 = .ok (.iload_n 2, 1) := by decide +kernel
theorem dX1_takeFromLots_1 : decode cX1_takeFromLots 1 = .ok (.istore_n 3, 1) := by decide +kernel
theorem dX1_takeFromLots_2 : decode cX1_takeFromLots 2 = .ok (.iconst 1, 1) := by decide +kernel
theorem dX1_takeFromLots_3 : decode cX1_takeFromLots 3 = .ok (.istore 4, 2) := by decide +kernel
theorem dX1_takeFromLots_5 : decode cX1_takeFromLots 5 = .ok (.iload 4, 2) := by decide +kernel
theorem dX1_takeFromLots_7 : decode cX1_takeFromLots 7 = .ok (.bipush 30, 2) := by decide +kernel
theorem dX1_takeFromLots_9 : decode cX1_takeFromLots 9 = .ok (.if_icmp .gt 48, 3) := by decide +kernel
theorem dX1_takeFromLots_12 : decode cX1_takeFromLots 12 = .ok (.iload_n 1, 1) := by decide +kernel
theorem dX1_takeFromLots_13 : decode cX1_takeFromLots 13 = .ok (.iload 4, 2) := by decide +kernel
theorem dX1_takeFromLots_15 : decode cX1_takeFromLots 15 = .ok (.iadd, 1) := by decide +kernel
theorem dX1_takeFromLots_16 : decode cX1_takeFromLots 16 = .ok (.invokestatic 56, 3) := by decide +kernel
theorem dX1_takeFromLots_19 : decode cX1_takeFromLots 19 = .ok (.istore 5, 2) := by decide +kernel
theorem dX1_takeFromLots_21 : decode cX1_takeFromLots 21 = .ok (.iload_n 3, 1) := by decide +kernel
theorem dX1_takeFromLots_22 : decode cX1_takeFromLots 22 = .ok (.aload_n 0, 1) := by decide +kernel
theorem dX1_takeFromLots_23 : decode cX1_takeFromLots 23 = .ok (.getfield 18, 3) := by decide +kernel
theorem dX1_takeFromLots_26 : decode cX1_takeFromLots 26 = .ok (.iload 5, 2) := by decide +kernel
theorem dX1_takeFromLots_28 : decode cX1_takeFromLots 28 = .ok (.iaload, 1) := by decide +kernel
theorem dX1_takeFromLots_29 : decode cX1_takeFromLots 29 = .ok (.invokestatic 60, 3) := by decide +kernel
theorem dX1_takeFromLots_32 : decode cX1_takeFromLots 32 = .ok (.istore 6, 2) := by decide +kernel
theorem dX1_takeFromLots_34 : decode cX1_takeFromLots 34 = .ok (.aload_n 0, 1) := by decide +kernel
theorem dX1_takeFromLots_35 : decode cX1_takeFromLots 35 = .ok (.getfield 18, 3) := by decide +kernel
theorem dX1_takeFromLots_38 : decode cX1_takeFromLots 38 = .ok (.iload 5, 2) := by decide +kernel
theorem dX1_takeFromLots_40 : decode cX1_takeFromLots 40 = .ok (.dup2, 1) := by decide +kernel
theorem dX1_takeFromLots_41 : decode cX1_takeFromLots 41 = .ok (.iaload, 1) := by decide +kernel
theorem dX1_takeFromLots_42 : decode cX1_takeFromLots 42 = .ok (.iload 6, 2) := by decide +kernel
theorem dX1_takeFromLots_44 : decode cX1_takeFromLots 44 = .ok (.isub, 1) := by decide +kernel
theorem dX1_takeFromLots_45 : decode cX1_takeFromLots 45 = .ok (.iastore, 1) := by decide +kernel
theorem dX1_takeFromLots_46 : decode cX1_takeFromLots 46 = .ok (.iload_n 3, 1) := by decide +kernel
theorem dX1_takeFromLots_47 : decode cX1_takeFromLots 47 = .ok (.iload 6, 2) := by decide +kernel
theorem dX1_takeFromLots_49 : decode cX1_takeFromLots 49 = .ok (.isub, 1) := by decide +kernel
theorem dX1_takeFromLots_50 : decode cX1_takeFromLots 50 = .ok (.istore_n 3, 1) := by decide +kernel
theorem dX1_takeFromLots_51 : decode cX1_takeFromLots 51 = .ok (.iinc 4 1, 3) := by decide +kernel
theorem dX1_takeFromLots_54 : decode cX1_takeFromLots 54 = .ok (.goto (-49), 3) := by decide +kernel
theorem dX1_takeFromLots_57 : decode cX1_takeFromLots 57 = .ok (.return_, 1) := by decide +kernel
theorem dX1_throwAway_0 : decode cX1_throwAway 0 = .ok (.iload_n 1, 1) := by decide +kernel
theorem dX1_throwAway_1 : decode cX1_throwAway 1 = .ok (.invokestatic 56, 3) := by decide +kernel
theorem dX1_throwAway_4 : decode cX1_throwAway 4 = .ok (.istore_n 2, 1) := by decide +kernel
theorem dX1_throwAway_5 : decode cX1_throwAway 5 = .ok (.aload_n 0, 1) := by decide +kernel
theorem dX1_throwAway_6 : decode cX1_throwAway 6 = .ok (.getfield 18, 3) := by decide +kernel
theorem dX1_throwAway_9 : decode cX1_throwAway 9 = .ok (.iload_n 2, 1) := by decide +kernel
theorem dX1_throwAway_10 : decode cX1_throwAway 10 = .ok (.iaload, 1) := by decide +kernel
theorem dX1_throwAway_11 : decode cX1_throwAway 11 = .ok (.istore_n 3, 1) := by decide +kernel
theorem dX1_throwAway_12 : decode cX1_throwAway 12 = .ok (.aload_n 0, 1) := by decide +kernel
theorem dX1_throwAway_13 : decode cX1_throwAway 13 = .ok (.getfield 18, 3) := by decide +kernel
theorem dX1_throwAway_16 : decode cX1_throwAway 16 = .ok (.iload_n 2, 1) := by decide +kernel
theorem dX1_throwAway_17 : decode cX1_throwAway 17 = .ok (.iconst 0, 1) := by decide +kernel
theorem dX1_throwAway_18 : decode cX1_throwAway 18 = .ok (.iastore, 1) := by decide +kernel
theorem dX1_throwAway_19 : decode cX1_throwAway 19 = .ok (.aload_n 0, 1) := by decide +kernel
theorem dX1_throwAway_20 : decode cX1_throwAway 20 = .ok (.dup, 1) := by decide +kernel
theorem dX1_throwAway_21 : decode cX1_throwAway 21 = .ok (.getfield 44, 3) := by decide +kernel
theorem dX1_throwAway_24 : decode cX1_throwAway 24 = .ok (.iload_n 3, 1) := by decide +kernel
theorem dX1_throwAway_25 : decode cX1_throwAway 25 = .ok (.iadd, 1) := by decide +kernel
theorem dX1_throwAway_26 : decode cX1_throwAway 26 = .ok (.putfield 44, 3) := by decide +kernel
theorem dX1_throwAway_29 : decode cX1_throwAway 29 = .ok (.iload_n 3, 1) := by decide +kernel
theorem dX1_throwAway_30 : decode cX1_throwAway 30 = .ok (.ireturn, 1) := by decide +kernel
theorem dX1_placeOf_0 : decode cX1_placeOf 0 = .ok (.iload_n 0, 1) := by decide +kernel
theorem dX1_placeOf_1 : decode cX1_placeOf 1 = .ok (.bipush 30, 2) := by decide +kernel
theorem dX1_placeOf_3 : decode cX1_placeOf 3 = .ok (.invokestatic 66, 3) := by decide +kernel
theorem dX1_placeOf_6 : decode cX1_placeOf 6 = .ok (.ireturn, 1) := by decide +kernel
theorem dX2_init_0 : decode cX2_init 0 = .ok (.aload_n 0, 1) := by decide +kernel
theorem dX2_init_1 : decode cX2_init 1 = .ok (.invokespecial 3, 3) := by decide +kernel
theorem dX2_init_4 : decode cX2_init 4 = .ok (.aload_n 0, 1) := by decide +kernel
theorem dX2_init_5 : decode cX2_init 5 = .ok (.bipush 80, 2) := by decide +kernel
theorem dX2_init_7 : decode cX2_init 7 = .ok (.newarray .char, 2) := by decide +kernel
theorem dX2_init_9 : decode cX2_init 9 = .ok (.putfield 9, 3) := by decide +kernel
theorem dX2_init_12 : decode cX2_init 12 = .ok (.return_, 1) := by decide +kernel
theorem dX2_at_0 : decode cX2_at 0 = .ok (.iload_n 1, 1) := by decide +kernel
theorem dX2_at_1 : decode cX2_at 1 = .ok (.ifCond .lt 26, 3) := by decide +kernel
theorem dX2_at_4 : decode cX2_at 4 = .ok (.iload_n 1, 1) := by decide +kernel
theorem dX2_at_5 : decode cX2_at 5 = .ok (.aload_n 0, 1) := by decide +kernel
theorem dX2_at_6 : decode cX2_at 6 = .ok (.getfield 15, 3) := by decide +kernel
theorem dX2_at_9 : decode cX2_at 9 = .ok (.if_icmp .ge 18, 3) := by decide +kernel
theorem dX2_at_12 : decode cX2_at 12 = .ok (.iload_n 1, 1) := by decide +kernel
theorem dX2_at_13 : decode cX2_at 13 = .ok (.bipush 80, 2) := by decide +kernel
theorem dX2_at_15 : decode cX2_at 15 = .ok (.if_icmp .ge 12, 3) := by decide +kernel
theorem dX2_at_18 : decode cX2_at 18 = .ok (.aload_n 0, 1) := by decide +kernel
theorem dX2_at_19 : decode cX2_at 19 = .ok (.getfield 9, 3) := by decide +kernel
theorem dX2_at_22 : decode cX2_at 22 = .ok (.iload_n 1, 1) := by decide +kernel
theorem dX2_at_23 : decode cX2_at 23 = .ok (.caload, 1) := by decide +kernel
theorem dX2_at_24 : decode cX2_at 24 = .ok (.goto 4, 3) := by decide +kernel
theorem dX2_at_27 : decode cX2_at 27 = .ok (.iconst 0, 1) := by decide +kernel
theorem dX2_at_28 : decode cX2_at 28 = .ok (.ireturn, 1) := by decide +kernel
theorem dX2_append_0 : decode cX2_append 0 = .ok (.iload_n 3, 1) := by decide +kernel
theorem dX2_append_1 : decode cX2_append 1 = .ok (.iconst 1, 1) := by decide +kernel
theorem dX2_append_2 : decode cX2_append 2 = .ok (.isub, 1) := by decide +kernel
theorem dX2_append_3 : decode cX2_append 3 = .ok (.istore 4, 2) := by decide +kernel
theorem dX2_append_5 : decode cX2_append 5 = .ok (.iload 4, 2) := by decide +kernel
theorem dX2_append_7 : decode cX2_append 7 = .ok (.ifCond .lt 57, 3) := by decide +kernel
theorem dX2_append_10 : decode cX2_append 10 = .ok (.aload_n 0, 1) := by decide +kernel
theorem dX2_append_11 : decode cX2_append 11 = .ok (.getfield 15, 3) := by decide +kernel
theorem dX2_append_14 : decode cX2_append 14 = .ok (.ifCond .lt 50, 3) := by decide +kernel
theorem dX2_append_17 : decode cX2_append 17 = .ok (.aload_n 0, 1) := by decide +kernel
theorem dX2_append_18 : decode cX2_append 18 = .ok (.getfield 15, 3) := by decide +kernel
theorem dX2_append_21 : decode cX2_append 21 = .ok (.bipush 80, 2) := by decide +kernel
theorem dX2_append_23 : decode cX2_append 23 = .ok (.if_icmp .ge 41, 3) := by decide +kernel
theorem dX2_append_26 : decode cX2_append 26 = .ok (.aload_n 0, 1) := by decide +kernel
theorem dX2_append_27 : decode cX2_append 27 = .ok (.getfield 9, 3) := by decide +kernel
theorem dX2_append_30 : decode cX2_append 30 = .ok (.aload_n 0, 1) := by decide +kernel
theorem dX2_append_31 : decode cX2_append 31 = .ok (.getfield 15, 3) := by decide +kernel
theorem dX2_append_34 : decode cX2_append 34 = .ok (.lload_n 1, 1) := by decide +kernel
theorem dX2_append_35 : decode cX2_append 35 = .ok (.bipush 8, 2) := by decide +kernel
theorem dX2_append_37 : decode cX2_append 37 = .ok (.iload 4, 2) := by decide +kernel
theorem dX2_append_39 : decode cX2_append 39 = .ok (.imul, 1) := by decide +kernel
theorem dX2_append_40 : decode cX2_append 40 = .ok (.lushr, 1) := by decide +kernel
theorem dX2_append_41 : decode cX2_append 41 = .ok (.ldc2_w 19, 3) := by decide +kernel
theorem dX2_append_44 : decode cX2_append 44 = .ok (.land, 1) := by decide +kernel
theorem dX2_append_45 : decode cX2_append 45 = .ok (.l2i, 1) := by decide +kernel
theorem dX2_append_46 : decode cX2_append 46 = .ok (.i2c, 1) := by decide +kernel
theorem dX2_append_47 : decode cX2_append 47 = .ok (.castore, 1) := by decide +kernel
theorem dX2_append_48 : decode cX2_append 48 = .ok (.aload_n 0, 1) := by decide +kernel
theorem dX2_append_49 : decode cX2_append 49 = .ok (.dup, 1) := by decide +kernel
theorem dX2_append_50 : decode cX2_append 50 = .ok (.getfield 15, 3) := by decide +kernel
theorem dX2_append_53 : decode cX2_append 53 = .ok (.iconst 1, 1) := by decide +kernel
theorem dX2_append_54 : decode cX2_append 54 = .ok (.iadd, 1) := by decide +kernel
theorem dX2_append_55 : decode cX2_append 55 = .ok (.putfield 15, 3) := by decide +kernel
theorem dX2_append_58 : decode cX2_append 58 = .ok (.iinc 4 (-1), 3) := by decide +kernel
theorem dX2_append_61 : decode cX2_append 61 = .ok (.goto (-56), 3) := by decide +kernel
theorem dX2_append_64 : decode cX2_append 64 = .ok (.return_, 1) := by decide +kernel
theorem dX3_init_0 : decode cX3_init 0 = .ok (.aload_n 0, 1) := by decide +kernel
theorem dX3_init_1 : decode cX3_init 1 = .ok (.invokespecial 3, 3) := by decide +kernel
theorem dX3_init_4 : decode cX3_init 4 = .ok (.aload_n 0, 1) := by decide +kernel
theorem dX3_init_5 : decode cX3_init 5 = .ok (.new 9, 3) := by decide +kernel
theorem dX3_init_8 : decode cX3_init 8 = .ok (.dup, 1) := by decide +kernel
theorem dX3_init_9 : decode cX3_init 9 = .ok (.invokespecial 11, 3) := by decide +kernel
theorem dX3_init_12 : decode cX3_init 12 = .ok (.putfield 12, 3) := by decide +kernel
theorem dX3_init_15 : decode cX3_init 15 = .ok (.aload_n 0, 1) := by decide +kernel
theorem dX3_init_16 : decode cX3_init 16 = .ok (.new 18, 3) := by decide +kernel
theorem dX3_init_19 : decode cX3_init 19 = .ok (.dup, 1) := by decide +kernel
theorem dX3_init_20 : decode cX3_init 20 = .ok (.invokespecial 20, 3) := by decide +kernel
theorem dX3_init_23 : decode cX3_init 23 = .ok (.putfield 21, 3) := by decide +kernel
theorem dX3_init_26 : decode cX3_init 26 = .ok (.return_, 1) := by decide +kernel
theorem dX3_read_0 : decode cX3_read 0 = .ok (.aload_n 0, 1) := by decide +kernel
theorem dX3_read_1 : decode cX3_read 1 = .ok (.iconst 0, 1) := by decide +kernel
theorem dX3_read_2 : decode cX3_read 2 = .ok (.putfield 25, 3) := by decide +kernel
theorem dX3_read_5 : decode cX3_read 5 = .ok (.aload_n 0, 1) := by decide +kernel
theorem dX3_read_6 : decode cX3_read 6 = .ok (.iconst 1, 1) := by decide +kernel
theorem dX3_read_7 : decode cX3_read 7 = .ok (.putfield 29, 3) := by decide +kernel
theorem dX3_read_10 : decode cX3_read 10 = .ok (.aload_n 0, 1) := by decide +kernel
theorem dX3_read_11 : decode cX3_read 11 = .ok (.getfield 12, 3) := by decide +kernel
theorem dX3_read_14 : decode cX3_read 14 = .ok (.invokevirtual 33, 3) := by decide +kernel
theorem dX3_read_17 : decode cX3_read 17 = .ok (.aload_n 0, 1) := by decide +kernel
theorem dX3_read_18 : decode cX3_read 18 = .ok (.getfield 12, 3) := by decide +kernel
theorem dX3_read_21 : decode cX3_read 21 = .ok (.aload_n 0, 1) := by decide +kernel
theorem dX3_read_22 : decode cX3_read 22 = .ok (.bipush 20, 2) := by decide +kernel
theorem dX3_read_24 : decode cX3_read 24 = .ok (.invokevirtual 36, 3) := by decide +kernel
theorem dX3_read_27 : decode cX3_read 27 = .ok (.putfield 40, 3) := by decide +kernel
theorem dX3_read_30 : decode cX3_read 30 = .ok (.iconst 0, 1) := by decide +kernel
theorem dX3_read_31 : decode cX3_read 31 = .ok (.istore_n 1, 1) := by decide +kernel
theorem dX3_read_32 : decode cX3_read 32 = .ok (.iload_n 1, 1) := by decide +kernel
theorem dX3_read_33 : decode cX3_read 33 = .ok (.bipush 8, 2) := by decide +kernel
theorem dX3_read_35 : decode cX3_read 35 = .ok (.if_icmp .ge 31, 3) := by decide +kernel
theorem dX3_read_38 : decode cX3_read 38 = .ok (.aload_n 0, 1) := by decide +kernel
theorem dX3_read_39 : decode cX3_read 39 = .ok (.getfield 29, 3) := by decide +kernel
theorem dX3_read_42 : decode cX3_read 42 = .ok (.ifCond .eq 24, 3) := by decide +kernel
theorem dX3_read_45 : decode cX3_read 45 = .ok (.aload_n 0, 1) := by decide +kernel
theorem dX3_read_46 : decode cX3_read 46 = .ok (.invokevirtual 43, 3) := by decide +kernel
theorem dX3_read_49 : decode cX3_read 49 = .ok (.ifCond .lt 17, 3) := by decide +kernel
theorem dX3_read_52 : decode cX3_read 52 = .ok (.aload_n 0, 1) := by decide +kernel
theorem dX3_read_53 : decode cX3_read 53 = .ok (.aload_n 0, 1) := by decide +kernel
theorem dX3_read_54 : decode cX3_read 54 = .ok (.invokevirtual 43, 3) := by decide +kernel
theorem dX3_read_57 : decode cX3_read 57 = .ok (.invokevirtual 47, 3) := by decide +kernel
theorem dX3_read_60 : decode cX3_read 60 = .ok (.iinc 1 1, 3) := by decide +kernel
theorem dX3_read_63 : decode cX3_read 63 = .ok (.goto (-31), 3) := by decide +kernel
theorem dX3_read_66 : decode cX3_read 66 = .ok (.iconst 0, 1) := by decide +kernel
theorem dX3_read_67 : decode cX3_read 67 = .ok (.istore_n 1, 1) := by decide +kernel
theorem dX3_read_68 : decode cX3_read 68 = .ok (.iload_n 1, 1) := by decide +kernel
theorem dX3_read_69 : decode cX3_read 69 = .ok (.bipush 8, 2) := by decide +kernel
theorem dX3_read_71 : decode cX3_read 71 = .ok (.if_icmp .ge 47, 3) := by decide +kernel
theorem dX3_read_74 : decode cX3_read 74 = .ok (.aload_n 0, 1) := by decide +kernel
theorem dX3_read_75 : decode cX3_read 75 = .ok (.getfield 29, 3) := by decide +kernel
theorem dX3_read_78 : decode cX3_read 78 = .ok (.ifCond .eq 40, 3) := by decide +kernel
theorem dX3_read_81 : decode cX3_read 81 = .ok (.aload_n 0, 1) := by decide +kernel
theorem dX3_read_82 : decode cX3_read 82 = .ok (.getfield 21, 3) := by decide +kernel
theorem dX3_read_85 : decode cX3_read 85 = .ok (.aload_n 0, 1) := by decide +kernel
theorem dX3_read_86 : decode cX3_read 86 = .ok (.getfield 25, 3) := by decide +kernel
theorem dX3_read_89 : decode cX3_read 89 = .ok (.invokevirtual 51, 3) := by decide +kernel
theorem dX3_read_92 : decode cX3_read 92 = .ok (.bipush 59, 2) := by decide +kernel
theorem dX3_read_94 : decode cX3_read 94 = .ok (.if_icmp .ne 24, 3) := by decide +kernel
theorem dX3_read_97 : decode cX3_read 97 = .ok (.aload_n 0, 1) := by decide +kernel
theorem dX3_read_98 : decode cX3_read 98 = .ok (.dup, 1) := by decide +kernel
theorem dX3_read_99 : decode cX3_read 99 = .ok (.getfield 25, 3) := by decide +kernel
theorem dX3_read_102 : decode cX3_read 102 = .ok (.iconst 1, 1) := by decide +kernel
theorem dX3_read_103 : decode cX3_read 103 = .ok (.iadd, 1) := by decide +kernel
theorem dX3_read_104 : decode cX3_read 104 = .ok (.putfield 25, 3) := by decide +kernel
theorem dX3_read_107 : decode cX3_read 107 = .ok (.aload_n 0, 1) := by decide +kernel
theorem dX3_read_108 : decode cX3_read 108 = .ok (.iload_n 1, 1) := by decide +kernel
theorem dX3_read_109 : decode cX3_read 109 = .ok (.invokevirtual 55, 3) := by decide +kernel
theorem dX3_read_112 : decode cX3_read 112 = .ok (.iinc 1 1, 3) := by decide +kernel
theorem dX3_read_115 : decode cX3_read 115 = .ok (.goto (-47), 3) := by decide +kernel
theorem dX3_read_118 : decode cX3_read 118 = .ok (.aload_n 0, 1) := by decide +kernel
theorem dX3_read_119 : decode cX3_read 119 = .ok (.getfield 29, 3) := by decide +kernel
theorem dX3_read_122 : decode cX3_read 122 = .ok (.ifCond .eq 22, 3) := by decide +kernel
theorem dX3_read_125 : decode cX3_read 125 = .ok (.aload_n 0, 1) := by decide +kernel
theorem dX3_read_126 : decode cX3_read 126 = .ok (.getfield 25, 3) := by decide +kernel
theorem dX3_read_129 : decode cX3_read 129 = .ok (.aload_n 0, 1) := by decide +kernel
theorem dX3_read_130 : decode cX3_read 130 = .ok (.getfield 21, 3) := by decide +kernel
theorem dX3_read_133 : decode cX3_read 133 = .ok (.getfield 58, 3) := by decide +kernel
theorem dX3_read_136 : decode cX3_read 136 = .ok (.if_icmp .ne 8, 3) := by decide +kernel
theorem dX3_read_139 : decode cX3_read 139 = .ok (.bipush (-6), 2) := by decide +kernel
theorem dX3_read_141 : decode cX3_read 141 = .ok (.goto 7, 3) := by decide +kernel
theorem dX3_read_144 : decode cX3_read 144 = .ok (.aload_n 0, 1) := by decide +kernel
theorem dX3_read_145 : decode cX3_read 145 = .ok (.getfield 25, 3) := by decide +kernel
theorem dX3_read_148 : decode cX3_read 148 = .ok (.ireturn, 1) := by decide +kernel
theorem dX3_readNumber_0 : decode cX3_readNumber 0 = .ok (.aload_n 0, 1) := by decide +kernel
theorem dX3_readNumber_1 : decode cX3_readNumber 1 = .ok (.iconst 1, 1) := by decide +kernel
theorem dX3_readNumber_2 : decode cX3_readNumber 2 = .ok (.bipush 9, 2) := by decide +kernel
theorem dX3_readNumber_4 : decode cX3_readNumber 4 = .ok (.invokevirtual 61, 3) := by decide +kernel
theorem dX3_readNumber_7 : decode cX3_readNumber 7 = .ok (.istore_n 2, 1) := by decide +kernel
theorem dX3_readNumber_8 : decode cX3_readNumber 8 = .ok (.iconst 1, 1) := by decide +kernel
theorem dX3_readNumber_9 : decode cX3_readNumber 9 = .ok (.istore_n 3, 1) := by decide +kernel
theorem dX3_readNumber_10 : decode cX3_readNumber 10 = .ok (.iload_n 3, 1) := by decide +kernel
theorem dX3_readNumber_11 : decode cX3_readNumber 11 = .ok (.bipush 80, 2) := by decide +kernel
theorem dX3_readNumber_13 : decode cX3_readNumber 13 = .ok (.if_icmp .ge 45, 3) := by decide +kernel
theorem dX3_readNumber_16 : decode cX3_readNumber 16 = .ok (.aload_n 0, 1) := by decide +kernel
theorem dX3_readNumber_17 : decode cX3_readNumber 17 = .ok (.getfield 29, 3) := by decide +kernel
theorem dX3_readNumber_20 : decode cX3_readNumber 20 = .ok (.ifCond .eq 38, 3) := by decide +kernel
theorem dX3_readNumber_23 : decode cX3_readNumber 23 = .ok (.aload_n 0, 1) := by decide +kernel
theorem dX3_readNumber_24 : decode cX3_readNumber 24 = .ok (.invokevirtual 65, 3) := by decide +kernel
theorem dX3_readNumber_27 : decode cX3_readNumber 27 = .ok (.ifCond .lt 31, 3) := by decide +kernel
theorem dX3_readNumber_30 : decode cX3_readNumber 30 = .ok (.iload_n 2, 1) := by decide +kernel
theorem dX3_readNumber_31 : decode cX3_readNumber 31 = .ok (.bipush 10, 2) := by decide +kernel
theorem dX3_readNumber_33 : decode cX3_readNumber 33 = .ok (.imul, 1) := by decide +kernel
theorem dX3_readNumber_34 : decode cX3_readNumber 34 = .ok (.aload_n 0, 1) := by decide +kernel
theorem dX3_readNumber_35 : decode cX3_readNumber 35 = .ok (.iconst 0, 1) := by decide +kernel
theorem dX3_readNumber_36 : decode cX3_readNumber 36 = .ok (.bipush 9, 2) := by decide +kernel
theorem dX3_readNumber_38 : decode cX3_readNumber 38 = .ok (.iload_n 1, 1) := by decide +kernel
theorem dX3_readNumber_39 : decode cX3_readNumber 39 = .ok (.iload_n 2, 1) := by decide +kernel
theorem dX3_readNumber_40 : decode cX3_readNumber 40 = .ok (.bipush 10, 2) := by decide +kernel
theorem dX3_readNumber_42 : decode cX3_readNumber 42 = .ok (.imul, 1) := by decide +kernel
theorem dX3_readNumber_43 : decode cX3_readNumber 43 = .ok (.isub, 1) := by decide +kernel
theorem dX3_readNumber_44 : decode cX3_readNumber 44 = .ok (.invokestatic 68, 3) := by decide +kernel
theorem dX3_readNumber_47 : decode cX3_readNumber 47 = .ok (.invokevirtual 61, 3) := by decide +kernel
theorem dX3_readNumber_50 : decode cX3_readNumber 50 = .ok (.iadd, 1) := by decide +kernel
theorem dX3_readNumber_51 : decode cX3_readNumber 51 = .ok (.istore_n 2, 1) := by decide +kernel
theorem dX3_readNumber_52 : decode cX3_readNumber 52 = .ok (.iinc 3 1, 3) := by decide +kernel
theorem dX3_readNumber_55 : decode cX3_readNumber 55 = .ok (.goto (-45), 3) := by decide +kernel
theorem dX3_readNumber_58 : decode cX3_readNumber 58 = .ok (.iload_n 2, 1) := by decide +kernel
theorem dX3_readNumber_59 : decode cX3_readNumber 59 = .ok (.ireturn, 1) := by decide +kernel
theorem dX3_readDigit_0 : decode cX3_readDigit 0 = .ok (.aload_n 0, 1) := by decide +kernel
theorem dX3_readDigit_1 : decode cX3_readDigit 1 = .ok (.invokevirtual 65, 3) := by decide +kernel
theorem dX3_readDigit_4 : decode cX3_readDigit 4 = .ok (.istore_n 3, 1) := by decide +kernel
theorem dX3_readDigit_5 : decode cX3_readDigit 5 = .ok (.aload_n 0, 1) := by decide +kernel
theorem dX3_readDigit_6 : decode cX3_readDigit 6 = .ok (.getfield 29, 3) := by decide +kernel
theorem dX3_readDigit_9 : decode cX3_readDigit 9 = .ok (.ifCond .eq 13, 3) := by decide +kernel
theorem dX3_readDigit_12 : decode cX3_readDigit 12 = .ok (.iload_n 3, 1) := by decide +kernel
theorem dX3_readDigit_13 : decode cX3_readDigit 13 = .ok (.iload_n 1, 1) := by decide +kernel
theorem dX3_readDigit_14 : decode cX3_readDigit 14 = .ok (.if_icmp .lt 8, 3) := by decide +kernel
theorem dX3_readDigit_17 : decode cX3_readDigit 17 = .ok (.iload_n 3, 1) := by decide +kernel
theorem dX3_readDigit_18 : decode cX3_readDigit 18 = .ok (.iload_n 2, 1) := by decide +kernel
theorem dX3_readDigit_19 : decode cX3_readDigit 19 = .ok (.if_icmp .le 10, 3) := by decide +kernel
theorem dX3_readDigit_22 : decode cX3_readDigit 22 = .ok (.aload_n 0, 1) := by decide +kernel
theorem dX3_readDigit_23 : decode cX3_readDigit 23 = .ok (.iconst 0, 1) := by decide +kernel
theorem dX3_readDigit_24 : decode cX3_readDigit 24 = .ok (.putfield 29, 3) := by decide +kernel
theorem dX3_readDigit_27 : decode cX3_readDigit 27 = .ok (.iconst 0, 1) := by decide +kernel
theorem dX3_readDigit_28 : decode cX3_readDigit 28 = .ok (.ireturn, 1) := by decide +kernel
theorem dX3_readDigit_29 : decode cX3_readDigit 29 = .ok (.aload_n 0, 1) := by decide +kernel
theorem dX3_readDigit_30 : decode cX3_readDigit 30 = .ok (.dup, 1) := by decide +kernel
theorem dX3_readDigit_31 : decode cX3_readDigit 31 = .ok (.getfield 25, 3) := by decide +kernel
theorem dX3_readDigit_34 : decode cX3_readDigit 34 = .ok (.iconst 1, 1) := by decide +kernel
theorem dX3_readDigit_35 : decode cX3_readDigit 35 = .ok (.iadd, 1) := by decide +kernel
theorem dX3_readDigit_36 : decode cX3_readDigit 36 = .ok (.putfield 25, 3) := by decide +kernel
theorem dX3_readDigit_39 : decode cX3_readDigit 39 = .ok (.iload_n 3, 1) := by decide +kernel
theorem dX3_readDigit_40 : decode cX3_readDigit 40 = .ok (.ireturn, 1) := by decide +kernel
theorem dX3_digitHere_0 : decode cX3_digitHere 0 = .ok (.aload_n 0, 1) := by decide +kernel
theorem dX3_digitHere_1 : decode cX3_digitHere 1 = .ok (.getfield 21, 3) := by decide +kernel
theorem dX3_digitHere_4 : decode cX3_digitHere 4 = .ok (.aload_n 0, 1) := by decide +kernel
theorem dX3_digitHere_5 : decode cX3_digitHere 5 = .ok (.getfield 25, 3) := by decide +kernel
theorem dX3_digitHere_8 : decode cX3_digitHere 8 = .ok (.invokevirtual 51, 3) := by decide +kernel
theorem dX3_digitHere_11 : decode cX3_digitHere 11 = .ok (.istore_n 1, 1) := by decide +kernel
theorem dX3_digitHere_12 : decode cX3_digitHere 12 = .ok (.iload_n 1, 1) := by decide +kernel
theorem dX3_digitHere_13 : decode cX3_digitHere 13 = .ok (.bipush 48, 2) := by decide +kernel
theorem dX3_digitHere_15 : decode cX3_digitHere 15 = .ok (.if_icmp .lt 16, 3) := by decide +kernel
theorem dX3_digitHere_18 : decode cX3_digitHere 18 = .ok (.iload_n 1, 1) := by decide +kernel
theorem dX3_digitHere_19 : decode cX3_digitHere 19 = .ok (.bipush 57, 2) := by decide +kernel
theorem dX3_digitHere_21 : decode cX3_digitHere 21 = .ok (.if_icmp .gt 10, 3) := by decide +kernel
theorem dX3_digitHere_24 : decode cX3_digitHere 24 = .ok (.iload_n 1, 1) := by decide +kernel
theorem dX3_digitHere_25 : decode cX3_digitHere 25 = .ok (.bipush 48, 2) := by decide +kernel
theorem dX3_digitHere_27 : decode cX3_digitHere 27 = .ok (.isub, 1) := by decide +kernel
theorem dX3_digitHere_28 : decode cX3_digitHere 28 = .ok (.goto 5, 3) := by decide +kernel
theorem dX3_digitHere_31 : decode cX3_digitHere 31 = .ok (.bipush (-6), 2) := by decide +kernel
theorem dX3_digitHere_33 : decode cX3_digitHere 33 = .ok (.ireturn, 1) := by decide +kernel
theorem dX3_nameHere_0 : decode cX3_nameHere 0 = .ok (.aload_n 0, 1) := by decide +kernel
theorem dX3_nameHere_1 : decode cX3_nameHere 1 = .ok (.getfield 21, 3) := by decide +kernel
theorem dX3_nameHere_4 : decode cX3_nameHere 4 = .ok (.aload_n 0, 1) := by decide +kernel
theorem dX3_nameHere_5 : decode cX3_nameHere 5 = .ok (.getfield 25, 3) := by decide +kernel
theorem dX3_nameHere_8 : decode cX3_nameHere 8 = .ok (.invokevirtual 51, 3) := by decide +kernel
theorem dX3_nameHere_11 : decode cX3_nameHere 11 = .ok (.bipush 97, 2) := by decide +kernel
theorem dX3_nameHere_13 : decode cX3_nameHere 13 = .ok (.isub, 1) := by decide +kernel
theorem dX3_nameHere_14 : decode cX3_nameHere 14 = .ok (.istore_n 1, 1) := by decide +kernel
theorem dX3_nameHere_15 : decode cX3_nameHere 15 = .ok (.iload_n 1, 1) := by decide +kernel
theorem dX3_nameHere_16 : decode cX3_nameHere 16 = .ok (.ifCond .lt 25, 3) := by decide +kernel
theorem dX3_nameHere_19 : decode cX3_nameHere 19 = .ok (.iload_n 1, 1) := by decide +kernel
theorem dX3_nameHere_20 : decode cX3_nameHere 20 = .ok (.bipush 8, 2) := by decide +kernel
theorem dX3_nameHere_22 : decode cX3_nameHere 22 = .ok (.if_icmp .ge 19, 3) := by decide +kernel
theorem dX3_nameHere_25 : decode cX3_nameHere 25 = .ok (.aload_n 0, 1) := by decide +kernel
theorem dX3_nameHere_26 : decode cX3_nameHere 26 = .ok (.getfield 12, 3) := by decide +kernel
theorem dX3_nameHere_29 : decode cX3_nameHere 29 = .ok (.getfield 73, 3) := by decide +kernel
theorem dX3_nameHere_32 : decode cX3_nameHere 32 = .ok (.iload_n 1, 1) := by decide +kernel
theorem dX3_nameHere_33 : decode cX3_nameHere 33 = .ok (.iaload, 1) := by decide +kernel
theorem dX3_nameHere_34 : decode cX3_nameHere 34 = .ok (.ifCond .ne 7, 3) := by decide +kernel
theorem dX3_nameHere_37 : decode cX3_nameHere 37 = .ok (.iload_n 1, 1) := by decide +kernel
theorem dX3_nameHere_38 : decode cX3_nameHere 38 = .ok (.goto 5, 3) := by decide +kernel
theorem dX3_nameHere_41 : decode cX3_nameHere 41 = .ok (.bipush (-6), 2) := by decide +kernel
theorem dX3_nameHere_43 : decode cX3_nameHere 43 = .ok (.ireturn, 1) := by decide +kernel
theorem dX3_readAmount_0 : decode cX3_readAmount 0 = .ok (.aload_n 0, 1) := by decide +kernel
theorem dX3_readAmount_1 : decode cX3_readAmount 1 = .ok (.dup, 1) := by decide +kernel
theorem dX3_readAmount_2 : decode cX3_readAmount 2 = .ok (.getfield 25, 3) := by decide +kernel
theorem dX3_readAmount_5 : decode cX3_readAmount 5 = .ok (.iconst 1, 1) := by decide +kernel
theorem dX3_readAmount_6 : decode cX3_readAmount 6 = .ok (.iadd, 1) := by decide +kernel
theorem dX3_readAmount_7 : decode cX3_readAmount 7 = .ok (.putfield 25, 3) := by decide +kernel
theorem dX3_readAmount_10 : decode cX3_readAmount 10 = .ok (.aload_n 0, 1) := by decide +kernel
theorem dX3_readAmount_11 : decode cX3_readAmount 11 = .ok (.sipush 500, 3) := by decide +kernel
theorem dX3_readAmount_14 : decode cX3_readAmount 14 = .ok (.invokevirtual 36, 3) := by decide +kernel
theorem dX3_readAmount_17 : decode cX3_readAmount 17 = .ok (.istore_n 2, 1) := by decide +kernel
theorem dX3_readAmount_18 : decode cX3_readAmount 18 = .ok (.iload_n 1, 1) := by decide +kernel
theorem dX3_readAmount_19 : decode cX3_readAmount 19 = .ok (.ifCond .lt 19, 3) := by decide +kernel
theorem dX3_readAmount_22 : decode cX3_readAmount 22 = .ok (.iload_n 1, 1) := by decide +kernel
theorem dX3_readAmount_23 : decode cX3_readAmount 23 = .ok (.bipush 8, 2) := by decide +kernel
theorem dX3_readAmount_25 : decode cX3_readAmount 25 = .ok (.if_icmp .ge 13, 3) := by decide +kernel
theorem dX3_readAmount_28 : decode cX3_readAmount 28 = .ok (.aload_n 0, 1) := by decide +kernel
theorem dX3_readAmount_29 : decode cX3_readAmount 29 = .ok (.getfield 12, 3) := by decide +kernel
theorem dX3_readAmount_32 : decode cX3_readAmount 32 = .ok (.getfield 73, 3) := by decide +kernel
theorem dX3_readAmount_35 : decode cX3_readAmount 35 = .ok (.iload_n 1, 1) := by decide +kernel
theorem dX3_readAmount_36 : decode cX3_readAmount 36 = .ok (.iload_n 2, 1) := by decide +kernel
theorem dX3_readAmount_37 : decode cX3_readAmount 37 = .ok (.iastore, 1) := by decide +kernel
theorem dX3_readAmount_38 : decode cX3_readAmount 38 = .ok (.return_, 1) := by decide +kernel
theorem dX3_readStep_0 : decode cX3_readStep 0 = .ok (.aload_n 0, 1) := by decide +kernel
theorem dX3_readStep_1 : decode cX3_readStep 1 = .ok (.getfield 12, 3) := by decide +kernel
theorem dX3_readStep_4 : decode cX3_readStep 4 = .ok (.getfield 77, 3) := by decide +kernel
theorem dX3_readStep_7 : decode cX3_readStep 7 = .ok (.iload_n 1, 1) := by decide +kernel
theorem dX3_readStep_8 : decode cX3_readStep 8 = .ok (.aaload, 1) := by decide +kernel
theorem dX3_readStep_9 : decode cX3_readStep 9 = .ok (.astore_n 2, 1) := by decide +kernel
theorem dX3_readStep_10 : decode cX3_readStep 10 = .ok (.aload_n 2, 1) := by decide +kernel
theorem dX3_readStep_11 : decode cX3_readStep 11 = .ok (.aload_n 0, 1) := by decide +kernel
theorem dX3_readStep_12 : decode cX3_readStep 12 = .ok (.sipush 240, 3) := by decide +kernel
theorem dX3_readStep_15 : decode cX3_readStep 15 = .ok (.invokevirtual 36, 3) := by decide +kernel
theorem dX3_readStep_18 : decode cX3_readStep 18 = .ok (.putfield 81, 3) := by decide +kernel
theorem dX3_readStep_21 : decode cX3_readStep 21 = .ok (.aload_n 0, 1) := by decide +kernel
theorem dX3_readStep_22 : decode cX3_readStep 22 = .ok (.bipush 47, 2) := by decide +kernel
theorem dX3_readStep_24 : decode cX3_readStep 24 = .ok (.invokevirtual 86, 3) := by decide +kernel
theorem dX3_readStep_27 : decode cX3_readStep 27 = .ok (.aload_n 2, 1) := by decide +kernel
theorem dX3_readStep_28 : decode cX3_readStep 28 = .ok (.aload_n 0, 1) := by decide +kernel
theorem dX3_readStep_29 : decode cX3_readStep 29 = .ok (.iconst 0, 1) := by decide +kernel
theorem dX3_readStep_30 : decode cX3_readStep 30 = .ok (.iconst 3, 1) := by decide +kernel
theorem dX3_readStep_31 : decode cX3_readStep 31 = .ok (.invokevirtual 61, 3) := by decide +kernel
theorem dX3_readStep_34 : decode cX3_readStep 34 = .ok (.putfield 90, 3) := by decide +kernel
theorem dX3_readStep_37 : decode cX3_readStep 37 = .ok (.aload_n 2, 1) := by decide +kernel
theorem dX3_readStep_38 : decode cX3_readStep 38 = .ok (.aload_n 0, 1) := by decide +kernel
theorem dX3_readStep_39 : decode cX3_readStep 39 = .ok (.getfield 29, 3) := by decide +kernel
theorem dX3_readStep_42 : decode cX3_readStep 42 = .ok (.ifCond .eq 23, 3) := by decide +kernel
theorem dX3_readStep_45 : decode cX3_readStep 45 = .ok (.aload_n 0, 1) := by decide +kernel
theorem dX3_readStep_46 : decode cX3_readStep 46 = .ok (.getfield 21, 3) := by decide +kernel
theorem dX3_readStep_49 : decode cX3_readStep 49 = .ok (.aload_n 0, 1) := by decide +kernel
theorem dX3_readStep_50 : decode cX3_readStep 50 = .ok (.getfield 25, 3) := by decide +kernel
theorem dX3_readStep_53 : decode cX3_readStep 53 = .ok (.invokevirtual 51, 3) := by decide +kernel
theorem dX3_readStep_56 : decode cX3_readStep 56 = .ok (.bipush 42, 2) := by decide +kernel
theorem dX3_readStep_58 : decode cX3_readStep 58 = .ok (.if_icmp .ne 7, 3) := by decide +kernel
theorem dX3_readStep_61 : decode cX3_readStep 61 = .ok (.iconst 1, 1) := by decide +kernel
theorem dX3_readStep_62 : decode cX3_readStep 62 = .ok (.goto 4, 3) := by decide +kernel
theorem dX3_readStep_65 : decode cX3_readStep 65 = .ok (.iconst 0, 1) := by decide +kernel
theorem dX3_readStep_66 : decode cX3_readStep 66 = .ok (.putfield 93, 3) := by decide +kernel
theorem dX3_readStep_69 : decode cX3_readStep 69 = .ok (.aload_n 2, 1) := by decide +kernel
theorem dX3_readStep_70 : decode cX3_readStep 70 = .ok (.getfield 93, 3) := by decide +kernel
theorem dX3_readStep_73 : decode cX3_readStep 73 = .ok (.ifCond .eq 13, 3) := by decide +kernel
theorem dX3_readStep_76 : decode cX3_readStep 76 = .ok (.aload_n 0, 1) := by decide +kernel
theorem dX3_readStep_77 : decode cX3_readStep 77 = .ok (.dup, 1) := by decide +kernel
theorem dX3_readStep_78 : decode cX3_readStep 78 = .ok (.getfield 25, 3) := by decide +kernel
theorem dX3_readStep_81 : decode cX3_readStep 81 = .ok (.iconst 1, 1) := by decide +kernel
theorem dX3_readStep_82 : decode cX3_readStep 82 = .ok (.iadd, 1) := by decide +kernel
theorem dX3_readStep_83 : decode cX3_readStep 83 = .ok (.putfield 25, 3) := by decide +kernel
theorem dX3_readStep_86 : decode cX3_readStep 86 = .ok (.aload_n 2, 1) := by decide +kernel
theorem dX3_readStep_87 : decode cX3_readStep 87 = .ok (.iconst 0, 1) := by decide +kernel
theorem dX3_readStep_88 : decode cX3_readStep 88 = .ok (.putfield 96, 3) := by decide +kernel
theorem dX3_readStep_91 : decode cX3_readStep 91 = .ok (.iconst 0, 1) := by decide +kernel
theorem dX3_readStep_92 : decode cX3_readStep 92 = .ok (.istore_n 3, 1) := by decide +kernel
theorem dX3_readStep_93 : decode cX3_readStep 93 = .ok (.iload_n 3, 1) := by decide +kernel
theorem dX3_readStep_94 : decode cX3_readStep 94 = .ok (.bipush 8, 2) := by decide +kernel
theorem dX3_readStep_96 : decode cX3_readStep 96 = .ok (.if_icmp .ge 60, 3) := by decide +kernel
theorem dX3_readStep_99 : decode cX3_readStep 99 = .ok (.aload_n 0, 1) := by decide +kernel
theorem dX3_readStep_100 : decode cX3_readStep 100 = .ok (.getfield 29, 3) := by decide +kernel
theorem dX3_readStep_103 : decode cX3_readStep 103 = .ok (.ifCond .eq 53, 3) := by decide +kernel
theorem dX3_readStep_106 : decode cX3_readStep 106 = .ok (.aload_n 0, 1) := by decide +kernel
theorem dX3_readStep_107 : decode cX3_readStep 107 = .ok (.getfield 21, 3) := by decide +kernel
theorem dX3_readStep_110 : decode cX3_readStep 110 = .ok (.aload_n 0, 1) := by decide +kernel
theorem dX3_readStep_111 : decode cX3_readStep 111 = .ok (.getfield 25, 3) := by decide +kernel
theorem dX3_readStep_114 : decode cX3_readStep 114 = .ok (.invokevirtual 51, 3) := by decide +kernel
theorem dX3_readStep_117 : decode cX3_readStep 117 = .ok (.bipush 64, 2) := by decide +kernel
theorem dX3_readStep_119 : decode cX3_readStep 119 = .ok (.if_icmp .ne 37, 3) := by decide +kernel
theorem dX3_readStep_122 : decode cX3_readStep 122 = .ok (.aload_n 0, 1) := by decide +kernel
theorem dX3_readStep_123 : decode cX3_readStep 123 = .ok (.dup, 1) := by decide +kernel
theorem dX3_readStep_124 : decode cX3_readStep 124 = .ok (.getfield 25, 3) := by decide +kernel
theorem dX3_readStep_127 : decode cX3_readStep 127 = .ok (.iconst 1, 1) := by decide +kernel
theorem dX3_readStep_128 : decode cX3_readStep 128 = .ok (.iadd, 1) := by decide +kernel
theorem dX3_readStep_129 : decode cX3_readStep 129 = .ok (.putfield 25, 3) := by decide +kernel
theorem dX3_readStep_132 : decode cX3_readStep 132 = .ok (.aload_n 2, 1) := by decide +kernel
theorem dX3_readStep_133 : decode cX3_readStep 133 = .ok (.dup, 1) := by decide +kernel
theorem dX3_readStep_134 : decode cX3_readStep 134 = .ok (.getfield 96, 3) := by decide +kernel
theorem dX3_readStep_137 : decode cX3_readStep 137 = .ok (.aload_n 0, 1) := by decide +kernel
theorem dX3_readStep_138 : decode cX3_readStep 138 = .ok (.iload_n 1, 1) := by decide +kernel
theorem dX3_readStep_139 : decode cX3_readStep 139 = .ok (.aload_n 2, 1) := by decide +kernel
theorem dX3_readStep_140 : decode cX3_readStep 140 = .ok (.getfield 96, 3) := by decide +kernel
theorem dX3_readStep_143 : decode cX3_readStep 143 = .ok (.invokevirtual 99, 3) := by decide +kernel
theorem dX3_readStep_146 : decode cX3_readStep 146 = .ok (.ior, 1) := by decide +kernel
theorem dX3_readStep_147 : decode cX3_readStep 147 = .ok (.putfield 96, 3) := by decide +kernel
theorem dX3_readStep_150 : decode cX3_readStep 150 = .ok (.iinc 3 1, 3) := by decide +kernel
theorem dX3_readStep_153 : decode cX3_readStep 153 = .ok (.goto (-60), 3) := by decide +kernel
theorem dX3_readStep_156 : decode cX3_readStep 156 = .ok (.aload_n 0, 1) := by decide +kernel
theorem dX3_readStep_157 : decode cX3_readStep 157 = .ok (.getfield 12, 3) := by decide +kernel
theorem dX3_readStep_160 : decode cX3_readStep 160 = .ok (.iload_n 1, 1) := by decide +kernel
theorem dX3_readStep_161 : decode cX3_readStep 161 = .ok (.iconst 1, 1) := by decide +kernel
theorem dX3_readStep_162 : decode cX3_readStep 162 = .ok (.iadd, 1) := by decide +kernel
theorem dX3_readStep_163 : decode cX3_readStep 163 = .ok (.putfield 102, 3) := by decide +kernel
theorem dX3_readStep_166 : decode cX3_readStep 166 = .ok (.return_, 1) := by decide +kernel
theorem dX3_readSign_0 : decode cX3_readSign 0 = .ok (.aload_n 0, 1) := by decide +kernel
theorem dX3_readSign_1 : decode cX3_readSign 1 = .ok (.getfield 29, 3) := by decide +kernel
theorem dX3_readSign_4 : decode cX3_readSign 4 = .ok (.ifCond .eq 31, 3) := by decide +kernel
theorem dX3_readSign_7 : decode cX3_readSign 7 = .ok (.aload_n 0, 1) := by decide +kernel
theorem dX3_readSign_8 : decode cX3_readSign 8 = .ok (.getfield 21, 3) := by decide +kernel
theorem dX3_readSign_11 : decode cX3_readSign 11 = .ok (.aload_n 0, 1) := by decide +kernel
theorem dX3_readSign_12 : decode cX3_readSign 12 = .ok (.getfield 25, 3) := by decide +kernel
theorem dX3_readSign_15 : decode cX3_readSign 15 = .ok (.invokevirtual 51, 3) := by decide +kernel
theorem dX3_readSign_18 : decode cX3_readSign 18 = .ok (.iload_n 1, 1) := by decide +kernel
theorem dX3_readSign_19 : decode cX3_readSign 19 = .ok (.if_icmp .ne 16, 3) := by decide +kernel
theorem dX3_readSign_22 : decode cX3_readSign 22 = .ok (.aload_n 0, 1) := by decide +kernel
theorem dX3_readSign_23 : decode cX3_readSign 23 = .ok (.dup, 1) := by decide +kernel
theorem dX3_readSign_24 : decode cX3_readSign 24 = .ok (.getfield 25, 3) := by decide +kernel
theorem dX3_readSign_27 : decode cX3_readSign 27 = .ok (.iconst 1, 1) := by decide +kernel
theorem dX3_readSign_28 : decode cX3_readSign 28 = .ok (.iadd, 1) := by decide +kernel
theorem dX3_readSign_29 : decode cX3_readSign 29 = .ok (.putfield 25, 3) := by decide +kernel
theorem dX3_readSign_32 : decode cX3_readSign 32 = .ok (.goto 8, 3) := by decide +kernel
theorem dX3_readSign_35 : decode cX3_readSign 35 = .ok (.aload_n 0, 1) := by decide +kernel
theorem dX3_readSign_36 : decode cX3_readSign 36 = .ok (.iconst 0, 1) := by decide +kernel
theorem dX3_readSign_37 : decode cX3_readSign 37 = .ok (.putfield 29, 3) := by decide +kernel
theorem dX3_readSign_40 : decode cX3_readSign 40 = .ok (.return_, 1) := by decide +kernel
theorem dX3_readStepBefore_0 : decode cX3_readStepBefore 0 = .ok (.aload_n 0, 1) := by decide +kernel
theorem dX3_readStepBefore_1 : decode cX3_readStepBefore 1 = .ok (.invokevirtual 65, 3) := by decide +kernel
theorem dX3_readStepBefore_4 : decode cX3_readStepBefore 4 = .ok (.istore_n 3, 1) := by decide +kernel
theorem dX3_readStepBefore_5 : decode cX3_readStepBefore 5 = .ok (.iload_n 3, 1) := by decide +kernel
theorem dX3_readStepBefore_6 : decode cX3_readStepBefore 6 = .ok (.ifCond .lt 17, 3) := by decide +kernel
theorem dX3_readStepBefore_9 : decode cX3_readStepBefore 9 = .ok (.iload_n 3, 1) := by decide +kernel
theorem dX3_readStepBefore_10 : decode cX3_readStepBefore 10 = .ok (.iload_n 1, 1) := by decide +kernel
theorem dX3_readStepBefore_11 : decode cX3_readStepBefore 11 = .ok (.if_icmp .ge 12, 3) := by decide +kernel
theorem dX3_readStepBefore_14 : decode cX3_readStepBefore 14 = .ok (.iload_n 2, 1) := by decide +kernel
theorem dX3_readStepBefore_15 : decode cX3_readStepBefore 15 = .ok (.iload_n 3, 1) := by decide +kernel
theorem dX3_readStepBefore_16 : decode cX3_readStepBefore 16 = .ok (.ishr, 1) := by decide +kernel
theorem dX3_readStepBefore_17 : decode cX3_readStepBefore 17 = .ok (.iconst 1, 1) := by decide +kernel
theorem dX3_readStepBefore_18 : decode cX3_readStepBefore 18 = .ok (.iand, 1) := by decide +kernel
theorem dX3_readStepBefore_19 : decode cX3_readStepBefore 19 = .ok (.iconst 1, 1) := by decide +kernel
theorem dX3_readStepBefore_20 : decode cX3_readStepBefore 20 = .ok (.if_icmp .ne 10, 3) := by decide +kernel
theorem dX3_readStepBefore_23 : decode cX3_readStepBefore 23 = .ok (.aload_n 0, 1) := by decide +kernel
theorem dX3_readStepBefore_24 : decode cX3_readStepBefore 24 = .ok (.iconst 0, 1) := by decide +kernel
theorem dX3_readStepBefore_25 : decode cX3_readStepBefore 25 = .ok (.putfield 29, 3) := by decide +kernel
theorem dX3_readStepBefore_28 : decode cX3_readStepBefore 28 = .ok (.iconst 0, 1) := by decide +kernel
theorem dX3_readStepBefore_29 : decode cX3_readStepBefore 29 = .ok (.ireturn, 1) := by decide +kernel
theorem dX3_readStepBefore_30 : decode cX3_readStepBefore 30 = .ok (.aload_n 0, 1) := by decide +kernel
theorem dX3_readStepBefore_31 : decode cX3_readStepBefore 31 = .ok (.dup, 1) := by decide +kernel
theorem dX3_readStepBefore_32 : decode cX3_readStepBefore 32 = .ok (.getfield 25, 3) := by decide +kernel
theorem dX3_readStepBefore_35 : decode cX3_readStepBefore 35 = .ok (.iconst 1, 1) := by decide +kernel
theorem dX3_readStepBefore_36 : decode cX3_readStepBefore 36 = .ok (.iadd, 1) := by decide +kernel
theorem dX3_readStepBefore_37 : decode cX3_readStepBefore 37 = .ok (.putfield 25, 3) := by decide +kernel
theorem dX3_readStepBefore_40 : decode cX3_readStepBefore 40 = .ok (.iconst 1, 1) := by decide +kernel
theorem dX3_readStepBefore_41 : decode cX3_readStepBefore 41 = .ok (.iload_n 3, 1) := by decide +kernel
theorem dX3_readStepBefore_42 : decode cX3_readStepBefore 42 = .ok (.ishl, 1) := by decide +kernel
theorem dX3_readStepBefore_43 : decode cX3_readStepBefore 43 = .ok (.ireturn, 1) := by decide +kernel
theorem dX4_init_0 : decode cX4_init 0 = .ok (.aload_n 0, 1) := by decide +kernel
theorem dX4_init_1 : decode cX4_init 1 = .ok (.invokespecial 3, 3) := by decide +kernel
theorem dX4_init_4 : decode cX4_init 4 = .ok (.aload_n 0, 1) := by decide +kernel
theorem dX4_init_5 : decode cX4_init 5 = .ok (.bipush 8, 2) := by decide +kernel
theorem dX4_init_7 : decode cX4_init 7 = .ok (.newarray .int, 2) := by decide +kernel
theorem dX4_init_9 : decode cX4_init 9 = .ok (.putfield 9, 3) := by decide +kernel
theorem dX4_init_12 : decode cX4_init 12 = .ok (.aload_n 0, 1) := by decide +kernel
theorem dX4_init_13 : decode cX4_init 13 = .ok (.bipush 8, 2) := by decide +kernel
theorem dX4_init_15 : decode cX4_init 15 = .ok (.anewarray 15, 3) := by decide +kernel
theorem dX4_init_18 : decode cX4_init 18 = .ok (.putfield 17, 3) := by decide +kernel
theorem dX4_init_21 : decode cX4_init 21 = .ok (.iconst 0, 1) := by decide +kernel
theorem dX4_init_22 : decode cX4_init 22 = .ok (.istore_n 1, 1) := by decide +kernel
theorem dX4_init_23 : decode cX4_init 23 = .ok (.iload_n 1, 1) := by decide +kernel
theorem dX4_init_24 : decode cX4_init 24 = .ok (.bipush 8, 2) := by decide +kernel
theorem dX4_init_26 : decode cX4_init 26 = .ok (.if_icmp .ge 22, 3) := by decide +kernel
theorem dX4_init_29 : decode cX4_init 29 = .ok (.aload_n 0, 1) := by decide +kernel
theorem dX4_init_30 : decode cX4_init 30 = .ok (.getfield 17, 3) := by decide +kernel
theorem dX4_init_33 : decode cX4_init 33 = .ok (.iload_n 1, 1) := by decide +kernel
theorem dX4_init_34 : decode cX4_init 34 = .ok (.new 15, 3) := by decide +kernel
theorem dX4_init_37 : decode cX4_init 37 = .ok (.dup, 1) := by decide +kernel
theorem dX4_init_38 : decode cX4_init 38 = .ok (.invokespecial 21, 3) := by decide +kernel
theorem dX4_init_41 : decode cX4_init 41 = .ok (.aastore, 1) := by decide +kernel
theorem dX4_init_42 : decode cX4_init 42 = .ok (.iinc 1 1, 3) := by decide +kernel
theorem dX4_init_45 : decode cX4_init 45 = .ok (.goto (-22), 3) := by decide +kernel
theorem dX4_init_48 : decode cX4_init 48 = .ok (.return_, 1) := by decide +kernel
theorem dX4_clear_0 : decode cX4_clear 0 = .ok (.aload_n 0, 1) := by decide +kernel
theorem dX4_clear_1 : decode cX4_clear 1 = .ok (.iconst 0, 1) := by decide +kernel
theorem dX4_clear_2 : decode cX4_clear 2 = .ok (.putfield 22, 3) := by decide +kernel
theorem dX4_clear_5 : decode cX4_clear 5 = .ok (.aload_n 0, 1) := by decide +kernel
theorem dX4_clear_6 : decode cX4_clear 6 = .ok (.iconst 0, 1) := by decide +kernel
theorem dX4_clear_7 : decode cX4_clear 7 = .ok (.putfield 26, 3) := by decide +kernel
theorem dX4_clear_10 : decode cX4_clear 10 = .ok (.aload_n 0, 1) := by decide +kernel
theorem dX4_clear_11 : decode cX4_clear 11 = .ok (.iconst 0, 1) := by decide +kernel
theorem dX4_clear_12 : decode cX4_clear 12 = .ok (.putfield 29, 3) := by decide +kernel
theorem dX4_clear_15 : decode cX4_clear 15 = .ok (.iconst 0, 1) := by decide +kernel
theorem dX4_clear_16 : decode cX4_clear 16 = .ok (.istore_n 1, 1) := by decide +kernel
theorem dX4_clear_17 : decode cX4_clear 17 = .ok (.iload_n 1, 1) := by decide +kernel
theorem dX4_clear_18 : decode cX4_clear 18 = .ok (.bipush 8, 2) := by decide +kernel
theorem dX4_clear_20 : decode cX4_clear 20 = .ok (.if_icmp .ge 16, 3) := by decide +kernel
theorem dX4_clear_23 : decode cX4_clear 23 = .ok (.aload_n 0, 1) := by decide +kernel
theorem dX4_clear_24 : decode cX4_clear 24 = .ok (.getfield 9, 3) := by decide +kernel
theorem dX4_clear_27 : decode cX4_clear 27 = .ok (.iload_n 1, 1) := by decide +kernel
theorem dX4_clear_28 : decode cX4_clear 28 = .ok (.iconst 0, 1) := by decide +kernel
theorem dX4_clear_29 : decode cX4_clear 29 = .ok (.iastore, 1) := by decide +kernel
theorem dX4_clear_30 : decode cX4_clear 30 = .ok (.iinc 1 1, 3) := by decide +kernel
theorem dX4_clear_33 : decode cX4_clear 33 = .ok (.goto (-16), 3) := by decide +kernel
theorem dX4_clear_36 : decode cX4_clear 36 = .ok (.return_, 1) := by decide +kernel
theorem dX4_copyFrom_0 : decode cX4_copyFrom 0 = .ok (.aload_n 0, 1) := by decide +kernel
theorem dX4_copyFrom_1 : decode cX4_copyFrom 1 = .ok (.aload_n 1, 1) := by decide +kernel
theorem dX4_copyFrom_2 : decode cX4_copyFrom 2 = .ok (.getfield 22, 3) := by decide +kernel
theorem dX4_copyFrom_5 : decode cX4_copyFrom 5 = .ok (.putfield 22, 3) := by decide +kernel
theorem dX4_copyFrom_8 : decode cX4_copyFrom 8 = .ok (.aload_n 0, 1) := by decide +kernel
theorem dX4_copyFrom_9 : decode cX4_copyFrom 9 = .ok (.aload_n 1, 1) := by decide +kernel
theorem dX4_copyFrom_10 : decode cX4_copyFrom 10 = .ok (.getfield 26, 3) := by decide +kernel
theorem dX4_copyFrom_13 : decode cX4_copyFrom 13 = .ok (.putfield 26, 3) := by decide +kernel
theorem dX4_copyFrom_16 : decode cX4_copyFrom 16 = .ok (.aload_n 0, 1) := by decide +kernel
theorem dX4_copyFrom_17 : decode cX4_copyFrom 17 = .ok (.aload_n 1, 1) := by decide +kernel
theorem dX4_copyFrom_18 : decode cX4_copyFrom 18 = .ok (.getfield 29, 3) := by decide +kernel
theorem dX4_copyFrom_21 : decode cX4_copyFrom 21 = .ok (.putfield 29, 3) := by decide +kernel
theorem dX4_copyFrom_24 : decode cX4_copyFrom 24 = .ok (.aload_n 1, 1) := by decide +kernel
theorem dX4_copyFrom_25 : decode cX4_copyFrom 25 = .ok (.getfield 9, 3) := by decide +kernel
theorem dX4_copyFrom_28 : decode cX4_copyFrom 28 = .ok (.iconst 0, 1) := by decide +kernel
theorem dX4_copyFrom_29 : decode cX4_copyFrom 29 = .ok (.aload_n 0, 1) := by decide +kernel
theorem dX4_copyFrom_30 : decode cX4_copyFrom 30 = .ok (.getfield 9, 3) := by decide +kernel
theorem dX4_copyFrom_33 : decode cX4_copyFrom 33 = .ok (.iconst 0, 1) := by decide +kernel
theorem dX4_copyFrom_34 : decode cX4_copyFrom 34 = .ok (.bipush 8, 2) := by decide +kernel
theorem dX4_copyFrom_36 : decode cX4_copyFrom 36 = .ok (.invokestatic 32, 3) := by decide +kernel
theorem dX4_copyFrom_39 : decode cX4_copyFrom 39 = .ok (.iconst 0, 1) := by decide +kernel
theorem dX4_copyFrom_40 : decode cX4_copyFrom 40 = .ok (.istore_n 2, 1) := by decide +kernel
theorem dX4_copyFrom_41 : decode cX4_copyFrom 41 = .ok (.iload_n 2, 1) := by decide +kernel
theorem dX4_copyFrom_42 : decode cX4_copyFrom 42 = .ok (.bipush 8, 2) := by decide +kernel
theorem dX4_copyFrom_44 : decode cX4_copyFrom 44 = .ok (.if_icmp .ge 24, 3) := by decide +kernel
theorem dX4_copyFrom_47 : decode cX4_copyFrom 47 = .ok (.aload_n 0, 1) := by decide +kernel
theorem dX4_copyFrom_48 : decode cX4_copyFrom 48 = .ok (.getfield 17, 3) := by decide +kernel
theorem dX4_copyFrom_51 : decode cX4_copyFrom 51 = .ok (.iload_n 2, 1) := by decide +kernel
theorem dX4_copyFrom_52 : decode cX4_copyFrom 52 = .ok (.aaload, 1) := by decide +kernel
theorem dX4_copyFrom_53 : decode cX4_copyFrom 53 = .ok (.aload_n 1, 1) := by decide +kernel
theorem dX4_copyFrom_54 : decode cX4_copyFrom 54 = .ok (.getfield 17, 3) := by decide +kernel
theorem dX4_copyFrom_57 : decode cX4_copyFrom 57 = .ok (.iload_n 2, 1) := by decide +kernel
theorem dX4_copyFrom_58 : decode cX4_copyFrom 58 = .ok (.aaload, 1) := by decide +kernel
theorem dX4_copyFrom_59 : decode cX4_copyFrom 59 = .ok (.invokevirtual 38, 3) := by decide +kernel
theorem dX4_copyFrom_62 : decode cX4_copyFrom 62 = .ok (.iinc 2 1, 3) := by decide +kernel
theorem dX4_copyFrom_65 : decode cX4_copyFrom 65 = .ok (.goto (-24), 3) := by decide +kernel
theorem dX4_copyFrom_68 : decode cX4_copyFrom 68 = .ok (.return_, 1) := by decide +kernel
theorem dX4_hasStep_0 : decode cX4_hasStep 0 = .ok (.iload_n 1, 1) := by decide +kernel
theorem dX4_hasStep_1 : decode cX4_hasStep 1 = .ok (.ifCond .lt 21, 3) := by decide +kernel
theorem dX4_hasStep_4 : decode cX4_hasStep 4 = .ok (.iload_n 1, 1) := by decide +kernel
theorem dX4_hasStep_5 : decode cX4_hasStep 5 = .ok (.aload_n 0, 1) := by decide +kernel
theorem dX4_hasStep_6 : decode cX4_hasStep 6 = .ok (.getfield 29, 3) := by decide +kernel
theorem dX4_hasStep_9 : decode cX4_hasStep 9 = .ok (.if_icmp .ge 13, 3) := by decide +kernel
theorem dX4_hasStep_12 : decode cX4_hasStep 12 = .ok (.iload_n 1, 1) := by decide +kernel
theorem dX4_hasStep_13 : decode cX4_hasStep 13 = .ok (.bipush 8, 2) := by decide +kernel
theorem dX4_hasStep_15 : decode cX4_hasStep 15 = .ok (.if_icmp .ge 7, 3) := by decide +kernel
theorem dX4_hasStep_18 : decode cX4_hasStep 18 = .ok (.iconst 1, 1) := by decide +kernel
theorem dX4_hasStep_19 : decode cX4_hasStep 19 = .ok (.goto 4, 3) := by decide +kernel
theorem dX4_hasStep_22 : decode cX4_hasStep 22 = .ok (.iconst 0, 1) := by decide +kernel
theorem dX4_hasStep_23 : decode cX4_hasStep 23 = .ok (.ireturn, 1) := by decide +kernel
theorem dX4_namesFrom_0 : decode cX4_namesFrom 0 = .ok (.iconst 0, 1) := by decide +kernel
theorem dX4_namesFrom_1 : decode cX4_namesFrom 1 = .ok (.iload_n 1, 1) := by decide +kernel
theorem dX4_namesFrom_2 : decode cX4_namesFrom 2 = .ok (.invokestatic 42, 3) := by decide +kernel
theorem dX4_namesFrom_5 : decode cX4_namesFrom 5 = .ok (.istore_n 2, 1) := by decide +kernel
theorem dX4_namesFrom_6 : decode cX4_namesFrom 6 = .ok (.iload_n 2, 1) := by decide +kernel
theorem dX4_namesFrom_7 : decode cX4_namesFrom 7 = .ok (.bipush 8, 2) := by decide +kernel
theorem dX4_namesFrom_9 : decode cX4_namesFrom 9 = .ok (.if_icmp .ge 20, 3) := by decide +kernel
theorem dX4_namesFrom_12 : decode cX4_namesFrom 12 = .ok (.aload_n 0, 1) := by decide +kernel
theorem dX4_namesFrom_13 : decode cX4_namesFrom 13 = .ok (.getfield 9, 3) := by decide +kernel
theorem dX4_namesFrom_16 : decode cX4_namesFrom 16 = .ok (.iload_n 2, 1) := by decide +kernel
theorem dX4_namesFrom_17 : decode cX4_namesFrom 17 = .ok (.iaload, 1) := by decide +kernel
theorem dX4_namesFrom_18 : decode cX4_namesFrom 18 = .ok (.ifCond .le 5, 3) := by decide +kernel
theorem dX4_namesFrom_21 : decode cX4_namesFrom 21 = .ok (.iconst 1, 1) := by decide +kernel
theorem dX4_namesFrom_22 : decode cX4_namesFrom 22 = .ok (.ireturn, 1) := by decide +kernel
theorem dX4_namesFrom_23 : decode cX4_namesFrom 23 = .ok (.iinc 2 1, 3) := by decide +kernel
theorem dX4_namesFrom_26 : decode cX4_namesFrom 26 = .ok (.goto (-20), 3) := by decide +kernel
theorem dX4_namesFrom_29 : decode cX4_namesFrom 29 = .ok (.iconst 0, 1) := by decide +kernel
theorem dX4_namesFrom_30 : decode cX4_namesFrom 30 = .ok (.ireturn, 1) := by decide +kernel
theorem dX4_scaled_0 : decode cX4_scaled 0 = .ok (.iload_n 1, 1) := by decide +kernel
theorem dX4_scaled_1 : decode cX4_scaled 1 = .ok (.aload_n 0, 1) := by decide +kernel
theorem dX4_scaled_2 : decode cX4_scaled 2 = .ok (.getfield 26, 3) := by decide +kernel
theorem dX4_scaled_5 : decode cX4_scaled 5 = .ok (.imul, 1) := by decide +kernel
theorem dX4_scaled_6 : decode cX4_scaled 6 = .ok (.aload_n 0, 1) := by decide +kernel
theorem dX4_scaled_7 : decode cX4_scaled 7 = .ok (.getfield 22, 3) := by decide +kernel
theorem dX4_scaled_10 : decode cX4_scaled 10 = .ok (.invokestatic 48, 3) := by decide +kernel
theorem dX4_scaled_13 : decode cX4_scaled 13 = .ok (.ireturn, 1) := by decide +kernel
theorem dX4_lasts_0 : decode cX4_lasts 0 = .ok (.aload_n 0, 1) := by decide +kernel
theorem dX4_lasts_1 : decode cX4_lasts 1 = .ok (.iload_n 1, 1) := by decide +kernel
theorem dX4_lasts_2 : decode cX4_lasts 2 = .ok (.invokevirtual 51, 3) := by decide +kernel
theorem dX4_lasts_5 : decode cX4_lasts 5 = .ok (.ifCond .ne 5, 3) := by decide +kernel
theorem dX4_lasts_8 : decode cX4_lasts 8 = .ok (.iconst 0, 1) := by decide +kernel
theorem dX4_lasts_9 : decode cX4_lasts 9 = .ok (.ireturn, 1) := by decide +kernel
theorem dX4_lasts_10 : decode cX4_lasts 10 = .ok (.aload_n 0, 1) := by decide +kernel
theorem dX4_lasts_11 : decode cX4_lasts 11 = .ok (.getfield 17, 3) := by decide +kernel
theorem dX4_lasts_14 : decode cX4_lasts 14 = .ok (.iload_n 1, 1) := by decide +kernel
theorem dX4_lasts_15 : decode cX4_lasts 15 = .ok (.aaload, 1) := by decide +kernel
theorem dX4_lasts_16 : decode cX4_lasts 16 = .ok (.getfield 55, 3) := by decide +kernel
theorem dX4_lasts_19 : decode cX4_lasts 19 = .ok (.ifCond .eq 19, 3) := by decide +kernel
theorem dX4_lasts_22 : decode cX4_lasts 22 = .ok (.aload_n 0, 1) := by decide +kernel
theorem dX4_lasts_23 : decode cX4_lasts 23 = .ok (.aload_n 0, 1) := by decide +kernel
theorem dX4_lasts_24 : decode cX4_lasts 24 = .ok (.getfield 17, 3) := by decide +kernel
theorem dX4_lasts_27 : decode cX4_lasts 27 = .ok (.iload_n 1, 1) := by decide +kernel
theorem dX4_lasts_28 : decode cX4_lasts 28 = .ok (.aaload, 1) := by decide +kernel
theorem dX4_lasts_29 : decode cX4_lasts 29 = .ok (.getfield 59, 3) := by decide +kernel
theorem dX4_lasts_32 : decode cX4_lasts 32 = .ok (.invokevirtual 62, 3) := by decide +kernel
theorem dX4_lasts_35 : decode cX4_lasts 35 = .ok (.goto 12, 3) := by decide +kernel
theorem dX4_lasts_38 : decode cX4_lasts 38 = .ok (.aload_n 0, 1) := by decide +kernel
theorem dX4_lasts_39 : decode cX4_lasts 39 = .ok (.getfield 17, 3) := by decide +kernel
theorem dX4_lasts_42 : decode cX4_lasts 42 = .ok (.iload_n 1, 1) := by decide +kernel
theorem dX4_lasts_43 : decode cX4_lasts 43 = .ok (.aaload, 1) := by decide +kernel
theorem dX4_lasts_44 : decode cX4_lasts 44 = .ok (.getfield 59, 3) := by decide +kernel
theorem dX4_lasts_47 : decode cX4_lasts 47 = .ok (.ireturn, 1) := by decide +kernel
theorem dX5_init_0 : decode cX5_init 0 = .ok (.aload_n 0, 1) := by decide +kernel
theorem dX5_init_1 : decode cX5_init 1 = .ok (.invokespecial 3, 3) := by decide +kernel
theorem dX5_init_4 : decode cX5_init 4 = .ok (.aload_n 0, 1) := by decide +kernel
theorem dX5_init_5 : decode cX5_init 5 = .ok (.bipush 32, 2) := by decide +kernel
theorem dX5_init_7 : decode cX5_init 7 = .ok (.newarray .int, 2) := by decide +kernel
theorem dX5_init_9 : decode cX5_init 9 = .ok (.putfield 9, 3) := by decide +kernel
theorem dX5_init_12 : decode cX5_init 12 = .ok (.aload_n 0, 1) := by decide +kernel
theorem dX5_init_13 : decode cX5_init 13 = .ok (.bipush 32, 2) := by decide +kernel
theorem dX5_init_15 : decode cX5_init 15 = .ok (.newarray .int, 2) := by decide +kernel
theorem dX5_init_17 : decode cX5_init 17 = .ok (.putfield 15, 3) := by decide +kernel
theorem dX5_init_20 : decode cX5_init 20 = .ok (.aload_n 0, 1) := by decide +kernel
theorem dX5_init_21 : decode cX5_init 21 = .ok (.bipush 32, 2) := by decide +kernel
theorem dX5_init_23 : decode cX5_init 23 = .ok (.newarray .int, 2) := by decide +kernel
theorem dX5_init_25 : decode cX5_init 25 = .ok (.putfield 18, 3) := by decide +kernel
theorem dX5_init_28 : decode cX5_init 28 = .ok (.aload_n 0, 1) := by decide +kernel
theorem dX5_init_29 : decode cX5_init 29 = .ok (.bipush 32, 2) := by decide +kernel
theorem dX5_init_31 : decode cX5_init 31 = .ok (.newarray .int, 2) := by decide +kernel
theorem dX5_init_33 : decode cX5_init 33 = .ok (.putfield 21, 3) := by decide +kernel
theorem dX5_init_36 : decode cX5_init 36 = .ok (.aload_n 0, 1) := by decide +kernel
theorem dX5_init_37 : decode cX5_init 37 = .ok (.bipush 32, 2) := by decide +kernel
theorem dX5_init_39 : decode cX5_init 39 = .ok (.newarray .int, 2) := by decide +kernel
theorem dX5_init_41 : decode cX5_init 41 = .ok (.putfield 24, 3) := by decide +kernel
theorem dX5_init_44 : decode cX5_init 44 = .ok (.aload_n 0, 1) := by decide +kernel
theorem dX5_init_45 : decode cX5_init 45 = .ok (.bipush 32, 2) := by decide +kernel
theorem dX5_init_47 : decode cX5_init 47 = .ok (.newarray .int, 2) := by decide +kernel
theorem dX5_init_49 : decode cX5_init 49 = .ok (.putfield 27, 3) := by decide +kernel
theorem dX5_init_52 : decode cX5_init 52 = .ok (.return_, 1) := by decide +kernel
theorem dX5_gather_0 : decode cX5_gather 0 = .ok (.aload_n 0, 1) := by decide +kernel
theorem dX5_gather_1 : decode cX5_gather 1 = .ok (.iconst 0, 1) := by decide +kernel
theorem dX5_gather_2 : decode cX5_gather 2 = .ok (.putfield 30, 3) := by decide +kernel
theorem dX5_gather_5 : decode cX5_gather 5 = .ok (.aload_n 0, 1) := by decide +kernel
theorem dX5_gather_6 : decode cX5_gather 6 = .ok (.iconst 0, 1) := by decide +kernel
theorem dX5_gather_7 : decode cX5_gather 7 = .ok (.putfield 34, 3) := by decide +kernel
theorem dX5_gather_10 : decode cX5_gather 10 = .ok (.aload_n 0, 1) := by decide +kernel
theorem dX5_gather_11 : decode cX5_gather 11 = .ok (.iconst 0, 1) := by decide +kernel
theorem dX5_gather_12 : decode cX5_gather 12 = .ok (.putfield 37, 3) := by decide +kernel
theorem dX5_gather_15 : decode cX5_gather 15 = .ok (.iconst 0, 1) := by decide +kernel
theorem dX5_gather_16 : decode cX5_gather 16 = .ok (.istore_n 2, 1) := by decide +kernel
theorem dX5_gather_17 : decode cX5_gather 17 = .ok (.iload_n 2, 1) := by decide +kernel
theorem dX5_gather_18 : decode cX5_gather 18 = .ok (.iconst 4, 1) := by decide +kernel
theorem dX5_gather_19 : decode cX5_gather 19 = .ok (.if_icmp .ge 35, 3) := by decide +kernel
theorem dX5_gather_22 : decode cX5_gather 22 = .ok (.aload_n 1, 1) := by decide +kernel
theorem dX5_gather_23 : decode cX5_gather 23 = .ok (.getfield 40, 3) := by decide +kernel
theorem dX5_gather_26 : decode cX5_gather 26 = .ok (.iload_n 2, 1) := by decide +kernel
theorem dX5_gather_27 : decode cX5_gather 27 = .ok (.aaload, 1) := by decide +kernel
theorem dX5_gather_28 : decode cX5_gather 28 = .ok (.getfield 46, 3) := by decide +kernel
theorem dX5_gather_31 : decode cX5_gather 31 = .ok (.ifCond .le 17, 3) := by decide +kernel
theorem dX5_gather_34 : decode cX5_gather 34 = .ok (.aload_n 0, 1) := by decide +kernel
theorem dX5_gather_35 : decode cX5_gather 35 = .ok (.aload_n 1, 1) := by decide +kernel
theorem dX5_gather_36 : decode cX5_gather 36 = .ok (.getfield 40, 3) := by decide +kernel
theorem dX5_gather_39 : decode cX5_gather 39 = .ok (.iload_n 2, 1) := by decide +kernel
theorem dX5_gather_40 : decode cX5_gather 40 = .ok (.aaload, 1) := by decide +kernel
theorem dX5_gather_41 : decode cX5_gather 41 = .ok (.iload_n 2, 1) := by decide +kernel
theorem dX5_gather_42 : decode cX5_gather 42 = .ok (.bipush 8, 2) := by decide +kernel
theorem dX5_gather_44 : decode cX5_gather 44 = .ok (.imul, 1) := by decide +kernel
theorem dX5_gather_45 : decode cX5_gather 45 = .ok (.invokevirtual 51, 3) := by decide +kernel
theorem dX5_gather_48 : decode cX5_gather 48 = .ok (.iinc 2 1, 3) := by decide +kernel
theorem dX5_gather_51 : decode cX5_gather 51 = .ok (.goto (-34), 3) := by decide +kernel
theorem dX5_gather_54 : decode cX5_gather 54 = .ok (.return_, 1) := by decide +kernel
theorem dX5_gatherSteps_0 : decode cX5_gatherSteps 0 = .ok (.aload_n 1, 1) := by decide +kernel
theorem dX5_gatherSteps_1 : decode cX5_gatherSteps 1 = .ok (.getfield 55, 3) := by decide +kernel
theorem dX5_gatherSteps_4 : decode cX5_gatherSteps 4 = .ok (.bipush 8, 2) := by decide +kernel
theorem dX5_gatherSteps_6 : decode cX5_gatherSteps 6 = .ok (.invokestatic 58, 3) := by decide +kernel
theorem dX5_gatherSteps_9 : decode cX5_gatherSteps 9 = .ok (.istore_n 3, 1) := by decide +kernel
theorem dX5_gatherSteps_10 : decode cX5_gatherSteps 10 = .ok (.iconst 0, 1) := by decide +kernel
theorem dX5_gatherSteps_11 : decode cX5_gatherSteps 11 = .ok (.istore 4, 2) := by decide +kernel
theorem dX5_gatherSteps_13 : decode cX5_gatherSteps 13 = .ok (.iload 4, 2) := by decide +kernel
theorem dX5_gatherSteps_15 : decode cX5_gatherSteps 15 = .ok (.iload_n 3, 1) := by decide +kernel
theorem dX5_gatherSteps_16 : decode cX5_gatherSteps 16 = .ok (.if_icmp .ge 90, 3) := by decide +kernel
theorem dX5_gatherSteps_19 : decode cX5_gatherSteps 19 = .ok (.aload_n 0, 1) := by decide +kernel
theorem dX5_gatherSteps_20 : decode cX5_gatherSteps 20 = .ok (.getfield 18, 3) := by decide +kernel
theorem dX5_gatherSteps_23 : decode cX5_gatherSteps 23 = .ok (.iload_n 2, 1) := by decide +kernel
theorem dX5_gatherSteps_24 : decode cX5_gatherSteps 24 = .ok (.iload 4, 2) := by decide +kernel
theorem dX5_gatherSteps_26 : decode cX5_gatherSteps 26 = .ok (.iadd, 1) := by decide +kernel
theorem dX5_gatherSteps_27 : decode cX5_gatherSteps 27 = .ok (.aload_n 1, 1) := by decide +kernel
theorem dX5_gatherSteps_28 : decode cX5_gatherSteps 28 = .ok (.iload 4, 2) := by decide +kernel
theorem dX5_gatherSteps_30 : decode cX5_gatherSteps 30 = .ok (.invokevirtual 64, 3) := by decide +kernel
theorem dX5_gatherSteps_33 : decode cX5_gatherSteps 33 = .ok (.iastore, 1) := by decide +kernel
theorem dX5_gatherSteps_34 : decode cX5_gatherSteps 34 = .ok (.aload_n 0, 1) := by decide +kernel
theorem dX5_gatherSteps_35 : decode cX5_gatherSteps 35 = .ok (.getfield 21, 3) := by decide +kernel
theorem dX5_gatherSteps_38 : decode cX5_gatherSteps 38 = .ok (.iload_n 2, 1) := by decide +kernel
theorem dX5_gatherSteps_39 : decode cX5_gatherSteps 39 = .ok (.iload 4, 2) := by decide +kernel
theorem dX5_gatherSteps_41 : decode cX5_gatherSteps 41 = .ok (.iadd, 1) := by decide +kernel
theorem dX5_gatherSteps_42 : decode cX5_gatherSteps 42 = .ok (.aload_n 1, 1) := by decide +kernel
theorem dX5_gatherSteps_43 : decode cX5_gatherSteps 43 = .ok (.getfield 68, 3) := by decide +kernel
theorem dX5_gatherSteps_46 : decode cX5_gatherSteps 46 = .ok (.iload 4, 2) := by decide +kernel
theorem dX5_gatherSteps_48 : decode cX5_gatherSteps 48 = .ok (.aaload, 1) := by decide +kernel
theorem dX5_gatherSteps_49 : decode cX5_gatherSteps 49 = .ok (.getfield 71, 3) := by decide +kernel
theorem dX5_gatherSteps_52 : decode cX5_gatherSteps 52 = .ok (.iastore, 1) := by decide +kernel
theorem dX5_gatherSteps_53 : decode cX5_gatherSteps 53 = .ok (.aload_n 0, 1) := by decide +kernel
theorem dX5_gatherSteps_54 : decode cX5_gatherSteps 54 = .ok (.getfield 24, 3) := by decide +kernel
theorem dX5_gatherSteps_57 : decode cX5_gatherSteps 57 = .ok (.iload_n 2, 1) := by decide +kernel
theorem dX5_gatherSteps_58 : decode cX5_gatherSteps 58 = .ok (.iload 4, 2) := by decide +kernel
theorem dX5_gatherSteps_60 : decode cX5_gatherSteps 60 = .ok (.iadd, 1) := by decide +kernel
theorem dX5_gatherSteps_61 : decode cX5_gatherSteps 61 = .ok (.aload_n 1, 1) := by decide +kernel
theorem dX5_gatherSteps_62 : decode cX5_gatherSteps 62 = .ok (.getfield 68, 3) := by decide +kernel
theorem dX5_gatherSteps_65 : decode cX5_gatherSteps 65 = .ok (.iload 4, 2) := by decide +kernel
theorem dX5_gatherSteps_67 : decode cX5_gatherSteps 67 = .ok (.aaload, 1) := by decide +kernel
theorem dX5_gatherSteps_68 : decode cX5_gatherSteps 68 = .ok (.getfield 75, 3) := by decide +kernel
theorem dX5_gatherSteps_71 : decode cX5_gatherSteps 71 = .ok (.iastore, 1) := by decide +kernel
theorem dX5_gatherSteps_72 : decode cX5_gatherSteps 72 = .ok (.aload_n 0, 1) := by decide +kernel
theorem dX5_gatherSteps_73 : decode cX5_gatherSteps 73 = .ok (.dup, 1) := by decide +kernel
theorem dX5_gatherSteps_74 : decode cX5_gatherSteps 74 = .ok (.getfield 34, 3) := by decide +kernel
theorem dX5_gatherSteps_77 : decode cX5_gatherSteps 77 = .ok (.aload_n 0, 1) := by decide +kernel
theorem dX5_gatherSteps_78 : decode cX5_gatherSteps 78 = .ok (.getfield 18, 3) := by decide +kernel
theorem dX5_gatherSteps_81 : decode cX5_gatherSteps 81 = .ok (.iload_n 2, 1) := by decide +kernel
theorem dX5_gatherSteps_82 : decode cX5_gatherSteps 82 = .ok (.iload 4, 2) := by decide +kernel
theorem dX5_gatherSteps_84 : decode cX5_gatherSteps 84 = .ok (.iadd, 1) := by decide +kernel
theorem dX5_gatherSteps_85 : decode cX5_gatherSteps 85 = .ok (.iaload, 1) := by decide +kernel
theorem dX5_gatherSteps_86 : decode cX5_gatherSteps 86 = .ok (.aload_n 0, 1) := by decide +kernel
theorem dX5_gatherSteps_87 : decode cX5_gatherSteps 87 = .ok (.getfield 21, 3) := by decide +kernel
theorem dX5_gatherSteps_90 : decode cX5_gatherSteps 90 = .ok (.iload_n 2, 1) := by decide +kernel
theorem dX5_gatherSteps_91 : decode cX5_gatherSteps 91 = .ok (.iload 4, 2) := by decide +kernel
theorem dX5_gatherSteps_93 : decode cX5_gatherSteps 93 = .ok (.iadd, 1) := by decide +kernel
theorem dX5_gatherSteps_94 : decode cX5_gatherSteps 94 = .ok (.iaload, 1) := by decide +kernel
theorem dX5_gatherSteps_95 : decode cX5_gatherSteps 95 = .ok (.imul, 1) := by decide +kernel
theorem dX5_gatherSteps_96 : decode cX5_gatherSteps 96 = .ok (.iadd, 1) := by decide +kernel
theorem dX5_gatherSteps_97 : decode cX5_gatherSteps 97 = .ok (.putfield 34, 3) := by decide +kernel
theorem dX5_gatherSteps_100 : decode cX5_gatherSteps 100 = .ok (.iinc 4 1, 3) := by decide +kernel
theorem dX5_gatherSteps_103 : decode cX5_gatherSteps 103 = .ok (.goto (-90), 3) := by decide +kernel
theorem dX5_gatherSteps_106 : decode cX5_gatherSteps 106 = .ok (.iload_n 3, 1) := by decide +kernel
theorem dX5_gatherSteps_107 : decode cX5_gatherSteps 107 = .ok (.iconst 1, 1) := by decide +kernel
theorem dX5_gatherSteps_108 : decode cX5_gatherSteps 108 = .ok (.isub, 1) := by decide +kernel
theorem dX5_gatherSteps_109 : decode cX5_gatherSteps 109 = .ok (.istore 4, 2) := by decide +kernel
theorem dX5_gatherSteps_111 : decode cX5_gatherSteps 111 = .ok (.iload 4, 2) := by decide +kernel
theorem dX5_gatherSteps_113 : decode cX5_gatherSteps 113 = .ok (.ifCond .lt 56, 3) := by decide +kernel
theorem dX5_gatherSteps_116 : decode cX5_gatherSteps 116 = .ok (.aload_n 0, 1) := by decide +kernel
theorem dX5_gatherSteps_117 : decode cX5_gatherSteps 117 = .ok (.getfield 9, 3) := by decide +kernel
theorem dX5_gatherSteps_120 : decode cX5_gatherSteps 120 = .ok (.iload_n 2, 1) := by decide +kernel
theorem dX5_gatherSteps_121 : decode cX5_gatherSteps 121 = .ok (.iload 4, 2) := by decide +kernel
theorem dX5_gatherSteps_123 : decode cX5_gatherSteps 123 = .ok (.iadd, 1) := by decide +kernel
theorem dX5_gatherSteps_124 : decode cX5_gatherSteps 124 = .ok (.aload_n 0, 1) := by decide +kernel
theorem dX5_gatherSteps_125 : decode cX5_gatherSteps 125 = .ok (.getfield 18, 3) := by decide +kernel
theorem dX5_gatherSteps_128 : decode cX5_gatherSteps 128 = .ok (.iload_n 2, 1) := by decide +kernel
theorem dX5_gatherSteps_129 : decode cX5_gatherSteps 129 = .ok (.iload 4, 2) := by decide +kernel
theorem dX5_gatherSteps_131 : decode cX5_gatherSteps 131 = .ok (.iadd, 1) := by decide +kernel
theorem dX5_gatherSteps_132 : decode cX5_gatherSteps 132 = .ok (.iaload, 1) := by decide +kernel
theorem dX5_gatherSteps_133 : decode cX5_gatherSteps 133 = .ok (.aload_n 0, 1) := by decide +kernel
theorem dX5_gatherSteps_134 : decode cX5_gatherSteps 134 = .ok (.iload_n 2, 1) := by decide +kernel
theorem dX5_gatherSteps_135 : decode cX5_gatherSteps 135 = .ok (.iload 4, 2) := by decide +kernel
theorem dX5_gatherSteps_137 : decode cX5_gatherSteps 137 = .ok (.iload_n 3, 1) := by decide +kernel
theorem dX5_gatherSteps_138 : decode cX5_gatherSteps 138 = .ok (.invokevirtual 77, 3) := by decide +kernel
theorem dX5_gatherSteps_141 : decode cX5_gatherSteps 141 = .ok (.iadd, 1) := by decide +kernel
theorem dX5_gatherSteps_142 : decode cX5_gatherSteps 142 = .ok (.iastore, 1) := by decide +kernel
theorem dX5_gatherSteps_143 : decode cX5_gatherSteps 143 = .ok (.aload_n 0, 1) := by decide +kernel
theorem dX5_gatherSteps_144 : decode cX5_gatherSteps 144 = .ok (.aload_n 0, 1) := by decide +kernel
theorem dX5_gatherSteps_145 : decode cX5_gatherSteps 145 = .ok (.getfield 37, 3) := by decide +kernel
theorem dX5_gatherSteps_148 : decode cX5_gatherSteps 148 = .ok (.aload_n 0, 1) := by decide +kernel
theorem dX5_gatherSteps_149 : decode cX5_gatherSteps 149 = .ok (.getfield 9, 3) := by decide +kernel
theorem dX5_gatherSteps_152 : decode cX5_gatherSteps 152 = .ok (.iload_n 2, 1) := by decide +kernel
theorem dX5_gatherSteps_153 : decode cX5_gatherSteps 153 = .ok (.iload 4, 2) := by decide +kernel
theorem dX5_gatherSteps_155 : decode cX5_gatherSteps 155 = .ok (.iadd, 1) := by decide +kernel
theorem dX5_gatherSteps_156 : decode cX5_gatherSteps 156 = .ok (.iaload, 1) := by decide +kernel
theorem dX5_gatherSteps_157 : decode cX5_gatherSteps 157 = .ok (.invokestatic 81, 3) := by decide +kernel
theorem dX5_gatherSteps_160 : decode cX5_gatherSteps 160 = .ok (.putfield 37, 3) := by decide +kernel
theorem dX5_gatherSteps_163 : decode cX5_gatherSteps 163 = .ok (.iinc 4 (-1), 3) := by decide +kernel
theorem dX5_gatherSteps_166 : decode cX5_gatherSteps 166 = .ok (.goto (-55), 3) := by decide +kernel
theorem dX5_gatherSteps_169 : decode cX5_gatherSteps 169 = .ok (.iconst 0, 1) := by decide +kernel
theorem dX5_gatherSteps_170 : decode cX5_gatherSteps 170 = .ok (.istore 4, 2) := by decide +kernel
theorem dX5_gatherSteps_172 : decode cX5_gatherSteps 172 = .ok (.iload 4, 2) := by decide +kernel
theorem dX5_gatherSteps_174 : decode cX5_gatherSteps 174 = .ok (.iload_n 3, 1) := by decide +kernel
theorem dX5_gatherSteps_175 : decode cX5_gatherSteps 175 = .ok (.if_icmp .ge 17, 3) := by decide +kernel
theorem dX5_gatherSteps_178 : decode cX5_gatherSteps 178 = .ok (.aload_n 0, 1) := by decide +kernel
theorem dX5_gatherSteps_179 : decode cX5_gatherSteps 179 = .ok (.iload_n 2, 1) := by decide +kernel
theorem dX5_gatherSteps_180 : decode cX5_gatherSteps 180 = .ok (.iload 4, 2) := by decide +kernel
theorem dX5_gatherSteps_182 : decode cX5_gatherSteps 182 = .ok (.iadd, 1) := by decide +kernel
theorem dX5_gatherSteps_183 : decode cX5_gatherSteps 183 = .ok (.invokevirtual 84, 3) := by decide +kernel
theorem dX5_gatherSteps_186 : decode cX5_gatherSteps 186 = .ok (.iinc 4 1, 3) := by decide +kernel
theorem dX5_gatherSteps_189 : decode cX5_gatherSteps 189 = .ok (.goto (-17), 3) := by decide +kernel
theorem dX5_gatherSteps_192 : decode cX5_gatherSteps 192 = .ok (.return_, 1) := by decide +kernel
theorem dX5_longestBehind_0 : decode cX5_longestBehind 0 = .ok (.iconst 0, 1) := by decide +kernel
theorem dX5_longestBehind_1 : decode cX5_longestBehind 1 = .ok (.istore 4, 2) := by decide +kernel
theorem dX5_longestBehind_3 : decode cX5_longestBehind 3 = .ok (.iload_n 2, 1) := by decide +kernel
theorem dX5_longestBehind_4 : decode cX5_longestBehind 4 = .ok (.iconst 1, 1) := by decide +kernel
theorem dX5_longestBehind_5 : decode cX5_longestBehind 5 = .ok (.iadd, 1) := by decide +kernel
theorem dX5_longestBehind_6 : decode cX5_longestBehind 6 = .ok (.istore 5, 2) := by decide +kernel
theorem dX5_longestBehind_8 : decode cX5_longestBehind 8 = .ok (.iload 5, 2) := by decide +kernel
theorem dX5_longestBehind_10 : decode cX5_longestBehind 10 = .ok (.iload_n 3, 1) := by decide +kernel
theorem dX5_longestBehind_11 : decode cX5_longestBehind 11 = .ok (.if_icmp .ge 42, 3) := by decide +kernel
theorem dX5_longestBehind_14 : decode cX5_longestBehind 14 = .ok (.aload_n 0, 1) := by decide +kernel
theorem dX5_longestBehind_15 : decode cX5_longestBehind 15 = .ok (.getfield 24, 3) := by decide +kernel
theorem dX5_longestBehind_18 : decode cX5_longestBehind 18 = .ok (.iload_n 1, 1) := by decide +kernel
theorem dX5_longestBehind_19 : decode cX5_longestBehind 19 = .ok (.iload 5, 2) := by decide +kernel
theorem dX5_longestBehind_21 : decode cX5_longestBehind 21 = .ok (.iadd, 1) := by decide +kernel
theorem dX5_longestBehind_22 : decode cX5_longestBehind 22 = .ok (.iaload, 1) := by decide +kernel
theorem dX5_longestBehind_23 : decode cX5_longestBehind 23 = .ok (.iload_n 2, 1) := by decide +kernel
theorem dX5_longestBehind_24 : decode cX5_longestBehind 24 = .ok (.ishr, 1) := by decide +kernel
theorem dX5_longestBehind_25 : decode cX5_longestBehind 25 = .ok (.iconst 1, 1) := by decide +kernel
theorem dX5_longestBehind_26 : decode cX5_longestBehind 26 = .ok (.iand, 1) := by decide +kernel
theorem dX5_longestBehind_27 : decode cX5_longestBehind 27 = .ok (.iconst 1, 1) := by decide +kernel
theorem dX5_longestBehind_28 : decode cX5_longestBehind 28 = .ok (.if_icmp .ne 19, 3) := by decide +kernel
theorem dX5_longestBehind_31 : decode cX5_longestBehind 31 = .ok (.iload 4, 2) := by decide +kernel
theorem dX5_longestBehind_33 : decode cX5_longestBehind 33 = .ok (.aload_n 0, 1) := by decide +kernel
theorem dX5_longestBehind_34 : decode cX5_longestBehind 34 = .ok (.getfield 9, 3) := by decide +kernel
theorem dX5_longestBehind_37 : decode cX5_longestBehind 37 = .ok (.iload_n 1, 1) := by decide +kernel
theorem dX5_longestBehind_38 : decode cX5_longestBehind 38 = .ok (.iload 5, 2) := by decide +kernel
theorem dX5_longestBehind_40 : decode cX5_longestBehind 40 = .ok (.iadd, 1) := by decide +kernel
theorem dX5_longestBehind_41 : decode cX5_longestBehind 41 = .ok (.iaload, 1) := by decide +kernel
theorem dX5_longestBehind_42 : decode cX5_longestBehind 42 = .ok (.invokestatic 81, 3) := by decide +kernel
theorem dX5_longestBehind_45 : decode cX5_longestBehind 45 = .ok (.istore 4, 2) := by decide +kernel
theorem dX5_longestBehind_47 : decode cX5_longestBehind 47 = .ok (.iinc 5 1, 3) := by decide +kernel
theorem dX5_longestBehind_50 : decode cX5_longestBehind 50 = .ok (.goto (-42), 3) := by decide +kernel
theorem dX5_longestBehind_53 : decode cX5_longestBehind 53 = .ok (.iload 4, 2) := by decide +kernel
theorem dX5_longestBehind_55 : decode cX5_longestBehind 55 = .ok (.ireturn, 1) := by decide +kernel
theorem dX5_insert_0 : decode cX5_insert 0 = .ok (.aload_n 0, 1) := by decide +kernel
theorem dX5_insert_1 : decode cX5_insert 1 = .ok (.getfield 30, 3) := by decide +kernel
theorem dX5_insert_4 : decode cX5_insert 4 = .ok (.ifCond .lt 12, 3) := by decide +kernel
theorem dX5_insert_7 : decode cX5_insert 7 = .ok (.aload_n 0, 1) := by decide +kernel
theorem dX5_insert_8 : decode cX5_insert 8 = .ok (.getfield 30, 3) := by decide +kernel
theorem dX5_insert_11 : decode cX5_insert 11 = .ok (.bipush 32, 2) := by decide +kernel
theorem dX5_insert_13 : decode cX5_insert 13 = .ok (.if_icmp .lt 4, 3) := by decide +kernel
theorem dX5_insert_16 : decode cX5_insert 16 = .ok (.return_, 1) := by decide +kernel
theorem dX5_insert_17 : decode cX5_insert 17 = .ok (.aload_n 0, 1) := by decide +kernel
theorem dX5_insert_18 : decode cX5_insert 18 = .ok (.getfield 30, 3) := by decide +kernel
theorem dX5_insert_21 : decode cX5_insert 21 = .ok (.istore_n 2, 1) := by decide +kernel
theorem dX5_insert_22 : decode cX5_insert 22 = .ok (.iload_n 2, 1) := by decide +kernel
theorem dX5_insert_23 : decode cX5_insert 23 = .ok (.ifCond .le 45, 3) := by decide +kernel
theorem dX5_insert_26 : decode cX5_insert 26 = .ok (.aload_n 0, 1) := by decide +kernel
theorem dX5_insert_27 : decode cX5_insert 27 = .ok (.getfield 9, 3) := by decide +kernel
theorem dX5_insert_30 : decode cX5_insert 30 = .ok (.aload_n 0, 1) := by decide +kernel
theorem dX5_insert_31 : decode cX5_insert 31 = .ok (.getfield 27, 3) := by decide +kernel
theorem dX5_insert_34 : decode cX5_insert 34 = .ok (.iload_n 2, 1) := by decide +kernel
theorem dX5_insert_35 : decode cX5_insert 35 = .ok (.iconst 1, 1) := by decide +kernel
theorem dX5_insert_36 : decode cX5_insert 36 = .ok (.isub, 1) := by decide +kernel
theorem dX5_insert_37 : decode cX5_insert 37 = .ok (.iaload, 1) := by decide +kernel
theorem dX5_insert_38 : decode cX5_insert 38 = .ok (.iaload, 1) := by decide +kernel
theorem dX5_insert_39 : decode cX5_insert 39 = .ok (.aload_n 0, 1) := by decide +kernel
theorem dX5_insert_40 : decode cX5_insert 40 = .ok (.getfield 9, 3) := by decide +kernel
theorem dX5_insert_43 : decode cX5_insert 43 = .ok (.iload_n 1, 1) := by decide +kernel
theorem dX5_insert_44 : decode cX5_insert 44 = .ok (.iaload, 1) := by decide +kernel
theorem dX5_insert_45 : decode cX5_insert 45 = .ok (.if_icmp .ge 23, 3) := by decide +kernel
theorem dX5_insert_48 : decode cX5_insert 48 = .ok (.aload_n 0, 1) := by decide +kernel
theorem dX5_insert_49 : decode cX5_insert 49 = .ok (.getfield 27, 3) := by decide +kernel
theorem dX5_insert_52 : decode cX5_insert 52 = .ok (.iload_n 2, 1) := by decide +kernel
theorem dX5_insert_53 : decode cX5_insert 53 = .ok (.aload_n 0, 1) := by decide +kernel
theorem dX5_insert_54 : decode cX5_insert 54 = .ok (.getfield 27, 3) := by decide +kernel
theorem dX5_insert_57 : decode cX5_insert 57 = .ok (.iload_n 2, 1) := by decide +kernel
theorem dX5_insert_58 : decode cX5_insert 58 = .ok (.iconst 1, 1) := by decide +kernel
theorem dX5_insert_59 : decode cX5_insert 59 = .ok (.isub, 1) := by decide +kernel
theorem dX5_insert_60 : decode cX5_insert 60 = .ok (.iaload, 1) := by decide +kernel
theorem dX5_insert_61 : decode cX5_insert 61 = .ok (.iastore, 1) := by decide +kernel
theorem dX5_insert_62 : decode cX5_insert 62 = .ok (.iinc 2 (-1), 3) := by decide +kernel
theorem dX5_insert_65 : decode cX5_insert 65 = .ok (.goto (-43), 3) := by decide +kernel
theorem dX5_insert_68 : decode cX5_insert 68 = .ok (.aload_n 0, 1) := by decide +kernel
theorem dX5_insert_69 : decode cX5_insert 69 = .ok (.getfield 27, 3) := by decide +kernel
theorem dX5_insert_72 : decode cX5_insert 72 = .ok (.iload_n 2, 1) := by decide +kernel
theorem dX5_insert_73 : decode cX5_insert 73 = .ok (.iload_n 1, 1) := by decide +kernel
theorem dX5_insert_74 : decode cX5_insert 74 = .ok (.iastore, 1) := by decide +kernel
theorem dX5_insert_75 : decode cX5_insert 75 = .ok (.aload_n 0, 1) := by decide +kernel
theorem dX5_insert_76 : decode cX5_insert 76 = .ok (.dup, 1) := by decide +kernel
theorem dX5_insert_77 : decode cX5_insert 77 = .ok (.getfield 30, 3) := by decide +kernel
theorem dX5_insert_80 : decode cX5_insert 80 = .ok (.iconst 1, 1) := by decide +kernel
theorem dX5_insert_81 : decode cX5_insert 81 = .ok (.iadd, 1) := by decide +kernel
theorem dX5_insert_82 : decode cX5_insert 82 = .ok (.putfield 30, 3) := by decide +kernel
theorem dX5_insert_85 : decode cX5_insert 85 = .ok (.return_, 1) := by decide +kernel
theorem dX5_run_0 : decode cX5_run 0 = .ok (.iconst 0, 1) := by decide +kernel
theorem dX5_run_1 : decode cX5_run 1 = .ok (.istore_n 2, 1) := by decide +kernel
theorem dX5_run_2 : decode cX5_run 2 = .ok (.iload_n 2, 1) := by decide +kernel
theorem dX5_run_3 : decode cX5_run 3 = .ok (.bipush 32, 2) := by decide +kernel
theorem dX5_run_5 : decode cX5_run 5 = .ok (.if_icmp .ge 17, 3) := by decide +kernel
theorem dX5_run_8 : decode cX5_run 8 = .ok (.aload_n 0, 1) := by decide +kernel
theorem dX5_run_9 : decode cX5_run 9 = .ok (.getfield 15, 3) := by decide +kernel
theorem dX5_run_12 : decode cX5_run 12 = .ok (.iload_n 2, 1) := by decide +kernel
theorem dX5_run_13 : decode cX5_run 13 = .ok (.bipush (-6), 2) := by decide +kernel
theorem dX5_run_15 : decode cX5_run 15 = .ok (.iastore, 1) := by decide +kernel
theorem dX5_run_16 : decode cX5_run 16 = .ok (.iinc 2 1, 3) := by decide +kernel
theorem dX5_run_19 : decode cX5_run 19 = .ok (.goto (-17), 3) := by decide +kernel
theorem dX5_run_22 : decode cX5_run 22 = .ok (.iconst 0, 1) := by decide +kernel
theorem dX5_run_23 : decode cX5_run 23 = .ok (.istore_n 2, 1) := by decide +kernel
theorem dX5_run_24 : decode cX5_run 24 = .ok (.iconst 0, 1) := by decide +kernel
theorem dX5_run_25 : decode cX5_run 25 = .ok (.istore_n 3, 1) := by decide +kernel
theorem dX5_run_26 : decode cX5_run 26 = .ok (.iload_n 3, 1) := by decide +kernel
theorem dX5_run_27 : decode cX5_run 27 = .ok (.bipush 32, 2) := by decide +kernel
theorem dX5_run_29 : decode cX5_run 29 = .ok (.if_icmp .gt 27, 3) := by decide +kernel
theorem dX5_run_32 : decode cX5_run 32 = .ok (.iload_n 2, 1) := by decide +kernel
theorem dX5_run_33 : decode cX5_run 33 = .ok (.bipush (-6), 2) := by decide +kernel
theorem dX5_run_35 : decode cX5_run 35 = .ok (.if_icmp .eq 21, 3) := by decide +kernel
theorem dX5_run_38 : decode cX5_run 38 = .ok (.aload_n 0, 1) := by decide +kernel
theorem dX5_run_39 : decode cX5_run 39 = .ok (.iload_n 2, 1) := by decide +kernel
theorem dX5_run_40 : decode cX5_run 40 = .ok (.iload_n 1, 1) := by decide +kernel
theorem dX5_run_41 : decode cX5_run 41 = .ok (.invokevirtual 88, 3) := by decide +kernel
theorem dX5_run_44 : decode cX5_run 44 = .ok (.aload_n 0, 1) := by decide +kernel
theorem dX5_run_45 : decode cX5_run 45 = .ok (.iload_n 2, 1) := by decide +kernel
theorem dX5_run_46 : decode cX5_run 46 = .ok (.invokevirtual 92, 3) := by decide +kernel
theorem dX5_run_49 : decode cX5_run 49 = .ok (.istore_n 2, 1) := by decide +kernel
theorem dX5_run_50 : decode cX5_run 50 = .ok (.iinc 3 1, 3) := by decide +kernel
theorem dX5_run_53 : decode cX5_run 53 = .ok (.goto (-27), 3) := by decide +kernel
theorem dX5_run_56 : decode cX5_run 56 = .ok (.return_, 1) := by decide +kernel
theorem dX5_beginAt_0 : decode cX5_beginAt 0 = .ok (.iload_n 2, 1) := by decide +kernel
theorem dX5_beginAt_1 : decode cX5_beginAt 1 = .ok (.aload_n 0, 1) := by decide +kernel
theorem dX5_beginAt_2 : decode cX5_beginAt 2 = .ok (.iload_n 1, 1) := by decide +kernel
theorem dX5_beginAt_3 : decode cX5_beginAt 3 = .ok (.invokevirtual 95, 3) := by decide +kernel
theorem dX5_beginAt_6 : decode cX5_beginAt 6 = .ok (.isub, 1) := by decide +kernel
theorem dX5_beginAt_7 : decode cX5_beginAt 7 = .ok (.istore_n 3, 1) := by decide +kernel
theorem dX5_beginAt_8 : decode cX5_beginAt 8 = .ok (.iconst 0, 1) := by decide +kernel
theorem dX5_beginAt_9 : decode cX5_beginAt 9 = .ok (.istore 4, 2) := by decide +kernel
theorem dX5_beginAt_11 : decode cX5_beginAt 11 = .ok (.iload 4, 2) := by decide +kernel
theorem dX5_beginAt_13 : decode cX5_beginAt 13 = .ok (.aload_n 0, 1) := by decide +kernel
theorem dX5_beginAt_14 : decode cX5_beginAt 14 = .ok (.getfield 30, 3) := by decide +kernel
theorem dX5_beginAt_17 : decode cX5_beginAt 17 = .ok (.if_icmp .ge 76, 3) := by decide +kernel
theorem dX5_beginAt_20 : decode cX5_beginAt 20 = .ok (.iload 4, 2) := by decide +kernel
theorem dX5_beginAt_22 : decode cX5_beginAt 22 = .ok (.bipush 32, 2) := by decide +kernel
theorem dX5_beginAt_24 : decode cX5_beginAt 24 = .ok (.if_icmp .ge 69, 3) := by decide +kernel
theorem dX5_beginAt_27 : decode cX5_beginAt 27 = .ok (.aload_n 0, 1) := by decide +kernel
theorem dX5_beginAt_28 : decode cX5_beginAt 28 = .ok (.getfield 27, 3) := by decide +kernel
theorem dX5_beginAt_31 : decode cX5_beginAt 31 = .ok (.iload 4, 2) := by decide +kernel
theorem dX5_beginAt_33 : decode cX5_beginAt 33 = .ok (.iaload, 1) := by decide +kernel
theorem dX5_beginAt_34 : decode cX5_beginAt 34 = .ok (.istore 5, 2) := by decide +kernel
theorem dX5_beginAt_36 : decode cX5_beginAt 36 = .ok (.aload_n 0, 1) := by decide +kernel
theorem dX5_beginAt_37 : decode cX5_beginAt 37 = .ok (.getfield 15, 3) := by decide +kernel
theorem dX5_beginAt_40 : decode cX5_beginAt 40 = .ok (.iload 5, 2) := by decide +kernel
theorem dX5_beginAt_42 : decode cX5_beginAt 42 = .ok (.iaload, 1) := by decide +kernel
theorem dX5_beginAt_43 : decode cX5_beginAt 43 = .ok (.bipush (-6), 2) := by decide +kernel
theorem dX5_beginAt_45 : decode cX5_beginAt 45 = .ok (.if_icmp .ne 42, 3) := by decide +kernel
theorem dX5_beginAt_48 : decode cX5_beginAt 48 = .ok (.aload_n 0, 1) := by decide +kernel
theorem dX5_beginAt_49 : decode cX5_beginAt 49 = .ok (.getfield 21, 3) := by decide +kernel
theorem dX5_beginAt_52 : decode cX5_beginAt 52 = .ok (.iload 5, 2) := by decide +kernel
theorem dX5_beginAt_54 : decode cX5_beginAt 54 = .ok (.iaload, 1) := by decide +kernel
theorem dX5_beginAt_55 : decode cX5_beginAt 55 = .ok (.iload_n 3, 1) := by decide +kernel
theorem dX5_beginAt_56 : decode cX5_beginAt 56 = .ok (.if_icmp .gt 31, 3) := by decide +kernel
theorem dX5_beginAt_59 : decode cX5_beginAt 59 = .ok (.aload_n 0, 1) := by decide +kernel
theorem dX5_beginAt_60 : decode cX5_beginAt 60 = .ok (.iload 5, 2) := by decide +kernel
theorem dX5_beginAt_62 : decode cX5_beginAt 62 = .ok (.iload_n 1, 1) := by decide +kernel
theorem dX5_beginAt_63 : decode cX5_beginAt 63 = .ok (.invokevirtual 98, 3) := by decide +kernel
theorem dX5_beginAt_66 : decode cX5_beginAt 66 = .ok (.ifCond .eq 21, 3) := by decide +kernel
theorem dX5_beginAt_69 : decode cX5_beginAt 69 = .ok (.aload_n 0, 1) := by decide +kernel
theorem dX5_beginAt_70 : decode cX5_beginAt 70 = .ok (.getfield 15, 3) := by decide +kernel
theorem dX5_beginAt_73 : decode cX5_beginAt 73 = .ok (.iload 5, 2) := by decide +kernel
theorem dX5_beginAt_75 : decode cX5_beginAt 75 = .ok (.iload_n 1, 1) := by decide +kernel
theorem dX5_beginAt_76 : decode cX5_beginAt 76 = .ok (.iastore, 1) := by decide +kernel
theorem dX5_beginAt_77 : decode cX5_beginAt 77 = .ok (.iload_n 3, 1) := by decide +kernel
theorem dX5_beginAt_78 : decode cX5_beginAt 78 = .ok (.aload_n 0, 1) := by decide +kernel
theorem dX5_beginAt_79 : decode cX5_beginAt 79 = .ok (.getfield 21, 3) := by decide +kernel
theorem dX5_beginAt_82 : decode cX5_beginAt 82 = .ok (.iload 5, 2) := by decide +kernel
theorem dX5_beginAt_84 : decode cX5_beginAt 84 = .ok (.iaload, 1) := by decide +kernel
theorem dX5_beginAt_85 : decode cX5_beginAt 85 = .ok (.isub, 1) := by decide +kernel
theorem dX5_beginAt_86 : decode cX5_beginAt 86 = .ok (.istore_n 3, 1) := by decide +kernel
theorem dX5_beginAt_87 : decode cX5_beginAt 87 = .ok (.iinc 4 1, 3) := by decide +kernel
theorem dX5_beginAt_90 : decode cX5_beginAt 90 = .ok (.goto (-79), 3) := by decide +kernel
theorem dX5_beginAt_93 : decode cX5_beginAt 93 = .ok (.return_, 1) := by decide +kernel
theorem dX5_busyHands_0 : decode cX5_busyHands 0 = .ok (.iconst 0, 1) := by decide +kernel
theorem dX5_busyHands_1 : decode cX5_busyHands 1 = .ok (.istore_n 2, 1) := by decide +kernel
theorem dX5_busyHands_2 : decode cX5_busyHands 2 = .ok (.iconst 0, 1) := by decide +kernel
theorem dX5_busyHands_3 : decode cX5_busyHands 3 = .ok (.istore_n 3, 1) := by decide +kernel
theorem dX5_busyHands_4 : decode cX5_busyHands 4 = .ok (.iload_n 3, 1) := by decide +kernel
theorem dX5_busyHands_5 : decode cX5_busyHands 5 = .ok (.aload_n 0, 1) := by decide +kernel
theorem dX5_busyHands_6 : decode cX5_busyHands 6 = .ok (.getfield 30, 3) := by decide +kernel
theorem dX5_busyHands_9 : decode cX5_busyHands 9 = .ok (.if_icmp .ge 64, 3) := by decide +kernel
theorem dX5_busyHands_12 : decode cX5_busyHands 12 = .ok (.iload_n 3, 1) := by decide +kernel
theorem dX5_busyHands_13 : decode cX5_busyHands 13 = .ok (.bipush 32, 2) := by decide +kernel
theorem dX5_busyHands_15 : decode cX5_busyHands 15 = .ok (.if_icmp .ge 58, 3) := by decide +kernel
theorem dX5_busyHands_18 : decode cX5_busyHands 18 = .ok (.aload_n 0, 1) := by decide +kernel
theorem dX5_busyHands_19 : decode cX5_busyHands 19 = .ok (.getfield 27, 3) := by decide +kernel
theorem dX5_busyHands_22 : decode cX5_busyHands 22 = .ok (.iload_n 3, 1) := by decide +kernel
theorem dX5_busyHands_23 : decode cX5_busyHands 23 = .ok (.iaload, 1) := by decide +kernel
theorem dX5_busyHands_24 : decode cX5_busyHands 24 = .ok (.istore 4, 2) := by decide +kernel
theorem dX5_busyHands_26 : decode cX5_busyHands 26 = .ok (.aload_n 0, 1) := by decide +kernel
theorem dX5_busyHands_27 : decode cX5_busyHands 27 = .ok (.getfield 15, 3) := by decide +kernel
theorem dX5_busyHands_30 : decode cX5_busyHands 30 = .ok (.iload 4, 2) := by decide +kernel
theorem dX5_busyHands_32 : decode cX5_busyHands 32 = .ok (.iaload, 1) := by decide +kernel
theorem dX5_busyHands_33 : decode cX5_busyHands 33 = .ok (.bipush (-6), 2) := by decide +kernel
theorem dX5_busyHands_35 : decode cX5_busyHands 35 = .ok (.if_icmp .eq 32, 3) := by decide +kernel
theorem dX5_busyHands_38 : decode cX5_busyHands 38 = .ok (.aload_n 0, 1) := by decide +kernel
theorem dX5_busyHands_39 : decode cX5_busyHands 39 = .ok (.getfield 15, 3) := by decide +kernel
theorem dX5_busyHands_42 : decode cX5_busyHands 42 = .ok (.iload 4, 2) := by decide +kernel
theorem dX5_busyHands_44 : decode cX5_busyHands 44 = .ok (.iaload, 1) := by decide +kernel
theorem dX5_busyHands_45 : decode cX5_busyHands 45 = .ok (.aload_n 0, 1) := by decide +kernel
theorem dX5_busyHands_46 : decode cX5_busyHands 46 = .ok (.getfield 18, 3) := by decide +kernel
theorem dX5_busyHands_49 : decode cX5_busyHands 49 = .ok (.iload 4, 2) := by decide +kernel
theorem dX5_busyHands_51 : decode cX5_busyHands 51 = .ok (.iaload, 1) := by decide +kernel
theorem dX5_busyHands_52 : decode cX5_busyHands 52 = .ok (.iadd, 1) := by decide +kernel
theorem dX5_busyHands_53 : decode cX5_busyHands 53 = .ok (.iload_n 1, 1) := by decide +kernel
theorem dX5_busyHands_54 : decode cX5_busyHands 54 = .ok (.if_icmp .le 13, 3) := by decide +kernel
theorem dX5_busyHands_57 : decode cX5_busyHands 57 = .ok (.iload_n 2, 1) := by decide +kernel
theorem dX5_busyHands_58 : decode cX5_busyHands 58 = .ok (.aload_n 0, 1) := by decide +kernel
theorem dX5_busyHands_59 : decode cX5_busyHands 59 = .ok (.getfield 21, 3) := by decide +kernel
theorem dX5_busyHands_62 : decode cX5_busyHands 62 = .ok (.iload 4, 2) := by decide +kernel
theorem dX5_busyHands_64 : decode cX5_busyHands 64 = .ok (.iaload, 1) := by decide +kernel
theorem dX5_busyHands_65 : decode cX5_busyHands 65 = .ok (.iadd, 1) := by decide +kernel
theorem dX5_busyHands_66 : decode cX5_busyHands 66 = .ok (.istore_n 2, 1) := by decide +kernel
theorem dX5_busyHands_67 : decode cX5_busyHands 67 = .ok (.iinc 3 1, 3) := by decide +kernel
theorem dX5_busyHands_70 : decode cX5_busyHands 70 = .ok (.goto (-66), 3) := by decide +kernel
theorem dX5_busyHands_73 : decode cX5_busyHands 73 = .ok (.iload_n 2, 1) := by decide +kernel
theorem dX5_busyHands_74 : decode cX5_busyHands 74 = .ok (.ireturn, 1) := by decide +kernel
theorem dX5_isReady_0 : decode cX5_isReady 0 = .ok (.iload_n 1, 1) := by decide +kernel
theorem dX5_isReady_1 : decode cX5_isReady 1 = .ok (.iload_n 1, 1) := by decide +kernel
theorem dX5_isReady_2 : decode cX5_isReady 2 = .ok (.bipush 8, 2) := by decide +kernel
theorem dX5_isReady_4 : decode cX5_isReady 4 = .ok (.invokestatic 102, 3) := by decide +kernel
theorem dX5_isReady_7 : decode cX5_isReady 7 = .ok (.isub, 1) := by decide +kernel
theorem dX5_isReady_8 : decode cX5_isReady 8 = .ok (.istore_n 3, 1) := by decide +kernel
theorem dX5_isReady_9 : decode cX5_isReady 9 = .ok (.iconst 0, 1) := by decide +kernel
theorem dX5_isReady_10 : decode cX5_isReady 10 = .ok (.istore 4, 2) := by decide +kernel
theorem dX5_isReady_12 : decode cX5_isReady 12 = .ok (.iload 4, 2) := by decide +kernel
theorem dX5_isReady_14 : decode cX5_isReady 14 = .ok (.bipush 8, 2) := by decide +kernel
theorem dX5_isReady_16 : decode cX5_isReady 16 = .ok (.if_icmp .ge 38, 3) := by decide +kernel
theorem dX5_isReady_19 : decode cX5_isReady 19 = .ok (.aload_n 0, 1) := by decide +kernel
theorem dX5_isReady_20 : decode cX5_isReady 20 = .ok (.getfield 24, 3) := by decide +kernel
theorem dX5_isReady_23 : decode cX5_isReady 23 = .ok (.iload_n 1, 1) := by decide +kernel
theorem dX5_isReady_24 : decode cX5_isReady 24 = .ok (.iaload, 1) := by decide +kernel
theorem dX5_isReady_25 : decode cX5_isReady 25 = .ok (.iload 4, 2) := by decide +kernel
theorem dX5_isReady_27 : decode cX5_isReady 27 = .ok (.ishr, 1) := by decide +kernel
theorem dX5_isReady_28 : decode cX5_isReady 28 = .ok (.iconst 1, 1) := by decide +kernel
theorem dX5_isReady_29 : decode cX5_isReady 29 = .ok (.iand, 1) := by decide +kernel
theorem dX5_isReady_30 : decode cX5_isReady 30 = .ok (.iconst 1, 1) := by decide +kernel
theorem dX5_isReady_31 : decode cX5_isReady 31 = .ok (.if_icmp .ne 17, 3) := by decide +kernel
theorem dX5_isReady_34 : decode cX5_isReady 34 = .ok (.aload_n 0, 1) := by decide +kernel
theorem dX5_isReady_35 : decode cX5_isReady 35 = .ok (.iload_n 3, 1) := by decide +kernel
theorem dX5_isReady_36 : decode cX5_isReady 36 = .ok (.iload 4, 2) := by decide +kernel
theorem dX5_isReady_38 : decode cX5_isReady 38 = .ok (.iadd, 1) := by decide +kernel
theorem dX5_isReady_39 : decode cX5_isReady 39 = .ok (.iload_n 2, 1) := by decide +kernel
theorem dX5_isReady_40 : decode cX5_isReady 40 = .ok (.invokevirtual 105, 3) := by decide +kernel
theorem dX5_isReady_43 : decode cX5_isReady 43 = .ok (.ifCond .ne 5, 3) := by decide +kernel
theorem dX5_isReady_46 : decode cX5_isReady 46 = .ok (.iconst 0, 1) := by decide +kernel
theorem dX5_isReady_47 : decode cX5_isReady 47 = .ok (.ireturn, 1) := by decide +kernel
theorem dX5_isReady_48 : decode cX5_isReady 48 = .ok (.iinc 4 1, 3) := by decide +kernel
theorem dX5_isReady_51 : decode cX5_isReady 51 = .ok (.goto (-39), 3) := by decide +kernel
theorem dX5_isReady_54 : decode cX5_isReady 54 = .ok (.iconst 1, 1) := by decide +kernel
theorem dX5_isReady_55 : decode cX5_isReady 55 = .ok (.ireturn, 1) := by decide +kernel
theorem dX5_hasEnded_0 : decode cX5_hasEnded 0 = .ok (.aload_n 0, 1) := by decide +kernel
theorem dX5_hasEnded_1 : decode cX5_hasEnded 1 = .ok (.getfield 15, 3) := by decide +kernel
theorem dX5_hasEnded_4 : decode cX5_hasEnded 4 = .ok (.iload_n 1, 1) := by decide +kernel
theorem dX5_hasEnded_5 : decode cX5_hasEnded 5 = .ok (.iaload, 1) := by decide +kernel
theorem dX5_hasEnded_6 : decode cX5_hasEnded 6 = .ok (.bipush (-6), 2) := by decide +kernel
theorem dX5_hasEnded_8 : decode cX5_hasEnded 8 = .ok (.if_icmp .eq 24, 3) := by decide +kernel
theorem dX5_hasEnded_11 : decode cX5_hasEnded 11 = .ok (.aload_n 0, 1) := by decide +kernel
theorem dX5_hasEnded_12 : decode cX5_hasEnded 12 = .ok (.getfield 15, 3) := by decide +kernel
theorem dX5_hasEnded_15 : decode cX5_hasEnded 15 = .ok (.iload_n 1, 1) := by decide +kernel
theorem dX5_hasEnded_16 : decode cX5_hasEnded 16 = .ok (.iaload, 1) := by decide +kernel
theorem dX5_hasEnded_17 : decode cX5_hasEnded 17 = .ok (.aload_n 0, 1) := by decide +kernel
theorem dX5_hasEnded_18 : decode cX5_hasEnded 18 = .ok (.getfield 18, 3) := by decide +kernel
theorem dX5_hasEnded_21 : decode cX5_hasEnded 21 = .ok (.iload_n 1, 1) := by decide +kernel
theorem dX5_hasEnded_22 : decode cX5_hasEnded 22 = .ok (.iaload, 1) := by decide +kernel
theorem dX5_hasEnded_23 : decode cX5_hasEnded 23 = .ok (.iadd, 1) := by decide +kernel
theorem dX5_hasEnded_24 : decode cX5_hasEnded 24 = .ok (.iload_n 2, 1) := by decide +kernel
theorem dX5_hasEnded_25 : decode cX5_hasEnded 25 = .ok (.if_icmp .gt 7, 3) := by decide +kernel
theorem dX5_hasEnded_28 : decode cX5_hasEnded 28 = .ok (.iconst 1, 1) := by decide +kernel
theorem dX5_hasEnded_29 : decode cX5_hasEnded 29 = .ok (.goto 4, 3) := by decide +kernel
theorem dX5_hasEnded_32 : decode cX5_hasEnded 32 = .ok (.iconst 0, 1) := by decide +kernel
theorem dX5_hasEnded_33 : decode cX5_hasEnded 33 = .ok (.ireturn, 1) := by decide +kernel
theorem dX5_nextEnd_0 : decode cX5_nextEnd 0 = .ok (.bipush (-6), 2) := by decide +kernel
theorem dX5_nextEnd_2 : decode cX5_nextEnd 2 = .ok (.istore_n 2, 1) := by decide +kernel
theorem dX5_nextEnd_3 : decode cX5_nextEnd 3 = .ok (.iconst 0, 1) := by decide +kernel
theorem dX5_nextEnd_4 : decode cX5_nextEnd 4 = .ok (.istore_n 3, 1) := by decide +kernel
theorem dX5_nextEnd_5 : decode cX5_nextEnd 5 = .ok (.iload_n 3, 1) := by decide +kernel
theorem dX5_nextEnd_6 : decode cX5_nextEnd 6 = .ok (.aload_n 0, 1) := by decide +kernel
theorem dX5_nextEnd_7 : decode cX5_nextEnd 7 = .ok (.getfield 30, 3) := by decide +kernel
theorem dX5_nextEnd_10 : decode cX5_nextEnd 10 = .ok (.if_icmp .ge 73, 3) := by decide +kernel
theorem dX5_nextEnd_13 : decode cX5_nextEnd 13 = .ok (.iload_n 3, 1) := by decide +kernel
theorem dX5_nextEnd_14 : decode cX5_nextEnd 14 = .ok (.bipush 32, 2) := by decide +kernel
theorem dX5_nextEnd_16 : decode cX5_nextEnd 16 = .ok (.if_icmp .ge 67, 3) := by decide +kernel
theorem dX5_nextEnd_19 : decode cX5_nextEnd 19 = .ok (.aload_n 0, 1) := by decide +kernel
theorem dX5_nextEnd_20 : decode cX5_nextEnd 20 = .ok (.getfield 27, 3) := by decide +kernel
theorem dX5_nextEnd_23 : decode cX5_nextEnd 23 = .ok (.iload_n 3, 1) := by decide +kernel
theorem dX5_nextEnd_24 : decode cX5_nextEnd 24 = .ok (.iaload, 1) := by decide +kernel
theorem dX5_nextEnd_25 : decode cX5_nextEnd 25 = .ok (.istore 4, 2) := by decide +kernel
theorem dX5_nextEnd_27 : decode cX5_nextEnd 27 = .ok (.aload_n 0, 1) := by decide +kernel
theorem dX5_nextEnd_28 : decode cX5_nextEnd 28 = .ok (.getfield 15, 3) := by decide +kernel
theorem dX5_nextEnd_31 : decode cX5_nextEnd 31 = .ok (.iload 4, 2) := by decide +kernel
theorem dX5_nextEnd_33 : decode cX5_nextEnd 33 = .ok (.iaload, 1) := by decide +kernel
theorem dX5_nextEnd_34 : decode cX5_nextEnd 34 = .ok (.aload_n 0, 1) := by decide +kernel
theorem dX5_nextEnd_35 : decode cX5_nextEnd 35 = .ok (.getfield 18, 3) := by decide +kernel
theorem dX5_nextEnd_38 : decode cX5_nextEnd 38 = .ok (.iload 4, 2) := by decide +kernel
theorem dX5_nextEnd_40 : decode cX5_nextEnd 40 = .ok (.iaload, 1) := by decide +kernel
theorem dX5_nextEnd_41 : decode cX5_nextEnd 41 = .ok (.iadd, 1) := by decide +kernel
theorem dX5_nextEnd_42 : decode cX5_nextEnd 42 = .ok (.istore 5, 2) := by decide +kernel
theorem dX5_nextEnd_44 : decode cX5_nextEnd 44 = .ok (.aload_n 0, 1) := by decide +kernel
theorem dX5_nextEnd_45 : decode cX5_nextEnd 45 = .ok (.getfield 15, 3) := by decide +kernel
theorem dX5_nextEnd_48 : decode cX5_nextEnd 48 = .ok (.iload 4, 2) := by decide +kernel
theorem dX5_nextEnd_50 : decode cX5_nextEnd 50 = .ok (.iaload, 1) := by decide +kernel
theorem dX5_nextEnd_51 : decode cX5_nextEnd 51 = .ok (.bipush (-6), 2) := by decide +kernel
theorem dX5_nextEnd_53 : decode cX5_nextEnd 53 = .ok (.if_icmp .eq 24, 3) := by decide +kernel
theorem dX5_nextEnd_56 : decode cX5_nextEnd 56 = .ok (.iload 5, 2) := by decide +kernel
theorem dX5_nextEnd_58 : decode cX5_nextEnd 58 = .ok (.iload_n 1, 1) := by decide +kernel
theorem dX5_nextEnd_59 : decode cX5_nextEnd 59 = .ok (.if_icmp .le 18, 3) := by decide +kernel
theorem dX5_nextEnd_62 : decode cX5_nextEnd 62 = .ok (.iload_n 2, 1) := by decide +kernel
theorem dX5_nextEnd_63 : decode cX5_nextEnd 63 = .ok (.bipush (-6), 2) := by decide +kernel
theorem dX5_nextEnd_65 : decode cX5_nextEnd 65 = .ok (.if_icmp .eq 9, 3) := by decide +kernel
theorem dX5_nextEnd_68 : decode cX5_nextEnd 68 = .ok (.iload 5, 2) := by decide +kernel
theorem dX5_nextEnd_70 : decode cX5_nextEnd 70 = .ok (.iload_n 2, 1) := by decide +kernel
theorem dX5_nextEnd_71 : decode cX5_nextEnd 71 = .ok (.if_icmp .ge 6, 3) := by decide +kernel
theorem dX5_nextEnd_74 : decode cX5_nextEnd 74 = .ok (.iload 5, 2) := by decide +kernel
theorem dX5_nextEnd_76 : decode cX5_nextEnd 76 = .ok (.istore_n 2, 1) := by decide +kernel
theorem dX5_nextEnd_77 : decode cX5_nextEnd 77 = .ok (.iinc 3 1, 3) := by decide +kernel
theorem dX5_nextEnd_80 : decode cX5_nextEnd 80 = .ok (.goto (-75), 3) := by decide +kernel
theorem dX5_nextEnd_83 : decode cX5_nextEnd 83 = .ok (.iload_n 2, 1) := by decide +kernel
theorem dX5_nextEnd_84 : decode cX5_nextEnd 84 = .ok (.ireturn, 1) := by decide +kernel
theorem dX5_end_0 : decode cX5_end 0 = .ok (.iconst 0, 1) := by decide +kernel
theorem dX5_end_1 : decode cX5_end 1 = .ok (.istore_n 1, 1) := by decide +kernel
theorem dX5_end_2 : decode cX5_end 2 = .ok (.iconst 0, 1) := by decide +kernel
theorem dX5_end_3 : decode cX5_end 3 = .ok (.istore_n 2, 1) := by decide +kernel
theorem dX5_end_4 : decode cX5_end 4 = .ok (.iload_n 2, 1) := by decide +kernel
theorem dX5_end_5 : decode cX5_end 5 = .ok (.aload_n 0, 1) := by decide +kernel
theorem dX5_end_6 : decode cX5_end 6 = .ok (.getfield 30, 3) := by decide +kernel
theorem dX5_end_9 : decode cX5_end 9 = .ok (.if_icmp .ge 54, 3) := by decide +kernel
theorem dX5_end_12 : decode cX5_end 12 = .ok (.iload_n 2, 1) := by decide +kernel
theorem dX5_end_13 : decode cX5_end 13 = .ok (.bipush 32, 2) := by decide +kernel
theorem dX5_end_15 : decode cX5_end 15 = .ok (.if_icmp .ge 48, 3) := by decide +kernel
theorem dX5_end_18 : decode cX5_end 18 = .ok (.aload_n 0, 1) := by decide +kernel
theorem dX5_end_19 : decode cX5_end 19 = .ok (.getfield 27, 3) := by decide +kernel
theorem dX5_end_22 : decode cX5_end 22 = .ok (.iload_n 2, 1) := by decide +kernel
theorem dX5_end_23 : decode cX5_end 23 = .ok (.iaload, 1) := by decide +kernel
theorem dX5_end_24 : decode cX5_end 24 = .ok (.istore_n 3, 1) := by decide +kernel
theorem dX5_end_25 : decode cX5_end 25 = .ok (.aload_n 0, 1) := by decide +kernel
theorem dX5_end_26 : decode cX5_end 26 = .ok (.getfield 15, 3) := by decide +kernel
theorem dX5_end_29 : decode cX5_end 29 = .ok (.iload_n 3, 1) := by decide +kernel
theorem dX5_end_30 : decode cX5_end 30 = .ok (.iaload, 1) := by decide +kernel
theorem dX5_end_31 : decode cX5_end 31 = .ok (.bipush (-6), 2) := by decide +kernel
theorem dX5_end_33 : decode cX5_end 33 = .ok (.if_icmp .ne 6, 3) := by decide +kernel
theorem dX5_end_36 : decode cX5_end 36 = .ok (.bipush (-6), 2) := by decide +kernel
theorem dX5_end_38 : decode cX5_end 38 = .ok (.ireturn, 1) := by decide +kernel
theorem dX5_end_39 : decode cX5_end 39 = .ok (.iload_n 1, 1) := by decide +kernel
theorem dX5_end_40 : decode cX5_end 40 = .ok (.aload_n 0, 1) := by decide +kernel
theorem dX5_end_41 : decode cX5_end 41 = .ok (.getfield 15, 3) := by decide +kernel
theorem dX5_end_44 : decode cX5_end 44 = .ok (.iload_n 3, 1) := by decide +kernel
theorem dX5_end_45 : decode cX5_end 45 = .ok (.iaload, 1) := by decide +kernel
theorem dX5_end_46 : decode cX5_end 46 = .ok (.aload_n 0, 1) := by decide +kernel
theorem dX5_end_47 : decode cX5_end 47 = .ok (.getfield 18, 3) := by decide +kernel
theorem dX5_end_50 : decode cX5_end 50 = .ok (.iload_n 3, 1) := by decide +kernel
theorem dX5_end_51 : decode cX5_end 51 = .ok (.iaload, 1) := by decide +kernel
theorem dX5_end_52 : decode cX5_end 52 = .ok (.iadd, 1) := by decide +kernel
theorem dX5_end_53 : decode cX5_end 53 = .ok (.invokestatic 81, 3) := by decide +kernel
theorem dX5_end_56 : decode cX5_end 56 = .ok (.istore_n 1, 1) := by decide +kernel
theorem dX5_end_57 : decode cX5_end 57 = .ok (.iinc 2 1, 3) := by decide +kernel
theorem dX5_end_60 : decode cX5_end 60 = .ok (.goto (-56), 3) := by decide +kernel
theorem dX5_end_63 : decode cX5_end 63 = .ok (.iload_n 1, 1) := by decide +kernel
theorem dX5_end_64 : decode cX5_end 64 = .ok (.ireturn, 1) := by decide +kernel
theorem dX5_bound_0 : decode cX5_bound 0 = .ok (.aload_n 0, 1) := by decide +kernel
theorem dX5_bound_1 : decode cX5_bound 1 = .ok (.getfield 37, 3) := by decide +kernel
theorem dX5_bound_4 : decode cX5_bound 4 = .ok (.aload_n 0, 1) := by decide +kernel
theorem dX5_bound_5 : decode cX5_bound 5 = .ok (.getfield 34, 3) := by decide +kernel
theorem dX5_bound_8 : decode cX5_bound 8 = .ok (.iload_n 1, 1) := by decide +kernel
theorem dX5_bound_9 : decode cX5_bound 9 = .ok (.invokestatic 108, 3) := by decide +kernel
theorem dX5_bound_12 : decode cX5_bound 12 = .ok (.invokestatic 81, 3) := by decide +kernel
theorem dX5_bound_15 : decode cX5_bound 15 = .ok (.ireturn, 1) := by decide +kernel
theorem dJ9_floorMod_7cf53_0 : decode cJ9_floorMod_7cf53 0 = .ok (.iload_n 0, 1) := by decide +kernel
theorem dJ9_floorMod_7cf53_1 : decode cJ9_floorMod_7cf53 1 = .ok (.iload_n 1, 1) := by decide +kernel
theorem dJ9_floorMod_7cf53_2 : decode cJ9_floorMod_7cf53 2 = .ok (.irem, 1) := by decide +kernel
theorem dJ9_floorMod_7cf53_3 : decode cJ9_floorMod_7cf53 3 = .ok (.istore_n 2, 1) := by decide +kernel
theorem dJ9_floorMod_7cf53_4 : decode cJ9_floorMod_7cf53 4 = .ok (.iload_n 0, 1) := by decide +kernel
theorem dJ9_floorMod_7cf53_5 : decode cJ9_floorMod_7cf53 5 = .ok (.iload_n 1, 1) := by decide +kernel
theorem dJ9_floorMod_7cf53_6 : decode cJ9_floorMod_7cf53 6 = .ok (.ixor, 1) := by decide +kernel
theorem dJ9_floorMod_7cf53_7 : decode cJ9_floorMod_7cf53 7 = .ok (.ifCond .ge 11, 3) := by decide +kernel
theorem dJ9_floorMod_7cf53_10 : decode cJ9_floorMod_7cf53 10 = .ok (.iload_n 2, 1) := by decide +kernel
theorem dJ9_floorMod_7cf53_11 : decode cJ9_floorMod_7cf53 11 = .ok (.ifCond .eq 7, 3) := by decide +kernel
theorem dJ9_floorMod_7cf53_14 : decode cJ9_floorMod_7cf53 14 = .ok (.iload_n 2, 1) := by decide +kernel
theorem dJ9_floorMod_7cf53_15 : decode cJ9_floorMod_7cf53 15 = .ok (.iload_n 1, 1) := by decide +kernel
theorem dJ9_floorMod_7cf53_16 : decode cJ9_floorMod_7cf53 16 = .ok (.iadd, 1) := by decide +kernel
theorem dJ9_floorMod_7cf53_17 : decode cJ9_floorMod_7cf53 17 = .ok (.ireturn, 1) := by decide +kernel
theorem dJ9_floorMod_7cf53_18 : decode cJ9_floorMod_7cf53 18 = .ok (.iload_n 2, 1) := by decide +kernel
theorem dJ9_floorMod_7cf53_19 : decode cJ9_floorMod_7cf53 19 = .ok (.ireturn, 1) := by decide +kernel
theorem dJ9_max_7cf53_0 : decode cJ9_max_7cf53 0 = .ok (.iload_n 0, 1) := by decide +kernel
theorem dJ9_max_7cf53_1 : decode cJ9_max_7cf53 1 = .ok (.iload_n 1, 1) := by decide +kernel
theorem dJ9_max_7cf53_2 : decode cJ9_max_7cf53 2 = .ok (.if_icmp .lt 7, 3) := by decide +kernel
theorem dJ9_max_7cf53_5 : decode cJ9_max_7cf53 5 = .ok (.iload_n 0, 1) := by decide +kernel
theorem dJ9_max_7cf53_6 : decode cJ9_max_7cf53 6 = .ok (.goto 4, 3) := by decide +kernel
theorem dJ9_max_7cf53_9 : decode cJ9_max_7cf53 9 = .ok (.iload_n 1, 1) := by decide +kernel
theorem dJ9_max_7cf53_10 : decode cJ9_max_7cf53 10 = .ok (.ireturn, 1) := by decide +kernel
theorem dJ9_min_7cf53_0 : decode cJ9_min_7cf53 0 = .ok (.iload_n 0, 1) := by decide +kernel
theorem dJ9_min_7cf53_1 : decode cJ9_min_7cf53 1 = .ok (.iload_n 1, 1) := by decide +kernel
theorem dJ9_min_7cf53_2 : decode cJ9_min_7cf53 2 = .ok (.if_icmp .gt 7, 3) := by decide +kernel
theorem dJ9_min_7cf53_5 : decode cJ9_min_7cf53 5 = .ok (.iload_n 0, 1) := by decide +kernel
theorem dJ9_min_7cf53_6 : decode cJ9_min_7cf53 6 = .ok (.goto 4, 3) := by decide +kernel
theorem dJ9_min_7cf53_9 : decode cJ9_min_7cf53 9 = .ok (.iload_n 1, 1) := by decide +kernel
theorem dJ9_min_7cf53_10 : decode cJ9_min_7cf53 10 = .ok (.ireturn, 1) := by decide +kernel
