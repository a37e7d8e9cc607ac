theorem dX11_init_0 : decode cX11_init 0 = .ok (.aload_n 0, 1) := by decide +kernel
theorem dX11_init_1 : decode cX11_init 1 = .ok (.invokespecial 1, 3) := by decide +kernel
theorem dX11_init_4 : decode cX11_init 4 = .ok (.aload_n 0, 1) := by decide +kernel
theorem dX11_init_5 : decode cX11_init 5 = .ok (.sipush 546, 3) := by decide +kernel
theorem dX11_init_8 : decode cX11_init 8 = .ok (.newarray .int, 2) := by decide +kernel
theorem dX11_init_10 : decode cX11_init 10 = .ok (.putfield 7, 3) := by decide +kernel
theorem dX11_init_13 : decode cX11_init 13 = .ok (.aload_n 0, 1) := by decide +kernel
theorem dX11_init_14 : decode cX11_init 14 = .ok (.sipush 3276, 3) := by decide +kernel
theorem dX11_init_17 : decode cX11_init 17 = .ok (.newarray .int, 2) := by decide +kernel
theorem dX11_init_19 : decode cX11_init 19 = .ok (.putfield 13, 3) := by decide +kernel
theorem dX11_init_22 : decode cX11_init 22 = .ok (.aload_n 0, 1) := by decide +kernel
theorem dX11_init_23 : decode cX11_init 23 = .ok (.sipush 1092, 3) := by decide +kernel
theorem dX11_init_26 : decode cX11_init 26 = .ok (.newarray .int, 2) := by decide +kernel
theorem dX11_init_28 : decode cX11_init 28 = .ok (.putfield 16, 3) := by decide +kernel
theorem dX11_init_31 : decode cX11_init 31 = .ok (.aload_n 0, 1) := by decide +kernel
theorem dX11_init_32 : decode cX11_init 32 = .ok (.iconst 2, 1) := by decide +kernel
theorem dX11_init_33 : decode cX11_init 33 = .ok (.newarray .boolean, 2) := by decide +kernel
theorem dX11_init_35 : decode cX11_init 35 = .ok (.putfield 19, 3) := by decide +kernel
theorem dX11_init_38 : decode cX11_init 38 = .ok (.aload_n 0, 1) := by decide +kernel
theorem dX11_init_39 : decode cX11_init 39 = .ok (.bipush 80, 2) := by decide +kernel
theorem dX11_init_41 : decode cX11_init 41 = .ok (.newarray .int, 2) := by decide +kernel
theorem dX11_init_43 : decode cX11_init 43 = .ok (.putfield 23, 3) := by decide +kernel
theorem dX11_init_46 : decode cX11_init 46 = .ok (.aload_n 0, 1) := by decide +kernel
theorem dX11_init_47 : decode cX11_init 47 = .ok (.bipush 8, 2) := by decide +kernel
theorem dX11_init_49 : decode cX11_init 49 = .ok (.newarray .int, 2) := by decide +kernel
theorem dX11_init_51 : decode cX11_init 51 = .ok (.putfield 26, 3) := by decide +kernel
theorem dX11_init_54 : decode cX11_init 54 = .ok (.aload_n 0, 1) := by decide +kernel
theorem dX11_init_55 : decode cX11_init 55 = .ok (.bipush 8, 2) := by decide +kernel
theorem dX11_init_57 : decode cX11_init 57 = .ok (.newarray .int, 2) := by decide +kernel
theorem dX11_init_59 : decode cX11_init 59 = .ok (.putfield 29, 3) := by decide +kernel
theorem dX11_init_62 : decode cX11_init 62 = .ok (.aload_n 0, 1) := by decide +kernel
theorem dX11_init_63 : decode cX11_init 63 = .ok (.bipush 8, 2) := by decide +kernel
theorem dX11_init_65 : decode cX11_init 65 = .ok (.newarray .int, 2) := by decide +kernel
theorem dX11_init_67 : decode cX11_init 67 = .ok (.putfield 32, 3) := by decide +kernel
theorem dX11_init_70 : decode cX11_init 70 = .ok (.aload_n 0, 1) := by decide +kernel
theorem dX11_init_71 : decode cX11_init 71 = .ok (.bipush 8, 2) := by decide +kernel
theorem dX11_init_73 : decode cX11_init 73 = .ok (.newarray .int, 2) := by decide +kernel
theorem dX11_init_75 : decode cX11_init 75 = .ok (.putfield 35, 3) := by decide +kernel
theorem dX11_init_78 : decode cX11_init 78 = .ok (.aload_n 0, 1) := by decide +kernel
theorem dX11_init_79 : decode cX11_init 79 = .ok (.bipush 8, 2) := by decide +kernel
theorem dX11_init_81 : decode cX11_init 81 = .ok (.newarray .int, 2) := by decide +kernel
theorem dX11_init_83 : decode cX11_init 83 = .ok (.putfield 38, 3) := by decide +kernel
theorem dX11_init_86 : decode cX11_init 86 = .ok (.aload_n 0, 1) := by decide +kernel
theorem dX11_init_87 : decode cX11_init 87 = .ok (.bipush 8, 2) := by decide +kernel
theorem dX11_init_89 : decode cX11_init 89 = .ok (.newarray .int, 2) := by decide +kernel
theorem dX11_init_91 : decode cX11_init 91 = .ok (.putfield 41, 3) := by decide +kernel
theorem dX11_init_94 : decode cX11_init 94 = .ok (.aload_n 0, 1) := by decide +kernel
theorem dX11_init_95 : decode cX11_init 95 = .ok (.bipush 8, 2) := by decide +kernel
theorem dX11_init_97 : decode cX11_init 97 = .ok (.newarray .int, 2) := by decide +kernel
theorem dX11_init_99 : decode cX11_init 99 = .ok (.putfield 44, 3) := by decide +kernel
theorem dX11_init_102 : decode cX11_init 102 = .ok (.aload_n 0, 1) := by decide +kernel
theorem dX11_init_103 : decode cX11_init 103 = .ok (.bipush 8, 2) := by decide +kernel
theorem dX11_init_105 : decode cX11_init 105 = .ok (.newarray .int, 2) := by decide +kernel
theorem dX11_init_107 : decode cX11_init 107 = .ok (.putfield 47, 3) := by decide +kernel
theorem dX11_init_110 : decode cX11_init 110 = .ok (.aload_n 0, 1) := by decide +kernel
theorem dX11_init_111 : decode cX11_init 111 = .ok (.bipush 24, 2) := by decide +kernel
theorem dX11_init_113 : decode cX11_init 113 = .ok (.newarray .int, 2) := by decide +kernel
theorem dX11_init_115 : decode cX11_init 115 = .ok (.putfield 50, 3) := by decide +kernel
theorem dX11_init_118 : decode cX11_init 118 = .ok (.aload_n 0, 1) := by decide +kernel
theorem dX11_init_119 : decode cX11_init 119 = .ok (.bipush 32, 2) := by decide +kernel
theorem dX11_init_121 : decode cX11_init 121 = .ok (.newarray .int, 2) := by decide +kernel
theorem dX11_init_123 : decode cX11_init 123 = .ok (.putfield 53, 3) := by decide +kernel
theorem dX11_init_126 : decode cX11_init 126 = .ok (.aload_n 0, 1) := by decide +kernel
theorem dX11_init_127 : decode cX11_init 127 = .ok (.bipush 32, 2) := by decide +kernel
theorem dX11_init_129 : decode cX11_init 129 = .ok (.newarray .int, 2) := by decide +kernel
theorem dX11_init_131 : decode cX11_init 131 = .ok (.putfield 56, 3) := by decide +kernel
theorem dX11_init_134 : decode cX11_init 134 = .ok (.aload_n 0, 1) := by decide +kernel
theorem dX11_init_135 : decode cX11_init 135 = .ok (.bipush 32, 2) := by decide +kernel
theorem dX11_init_137 : decode cX11_init 137 = .ok (.newarray .int, 2) := by decide +kernel
theorem dX11_init_139 : decode cX11_init 139 = .ok (.putfield 59, 3) := by decide +kernel
theorem dX11_init_142 : decode cX11_init 142 = .ok (.aload_n 0, 1) := by decide +kernel
theorem dX11_init_143 : decode cX11_init 143 = .ok (.bipush 8, 2) := by decide +kernel
theorem dX11_init_145 : decode cX11_init 145 = .ok (.newarray .int, 2) := by decide +kernel
theorem dX11_init_147 : decode cX11_init 147 = .ok (.putfield 62, 3) := by decide +kernel
theorem dX11_init_150 : decode cX11_init 150 = .ok (.aload_n 0, 1) := by decide +kernel
theorem dX11_init_151 : decode cX11_init 151 = .ok (.bipush 32, 2) := by decide +kernel
theorem dX11_init_153 : decode cX11_init 153 = .ok (.newarray .int, 2) := by decide +kernel
theorem dX11_init_155 : decode cX11_init 155 = .ok (.putfield 65, 3) := by decide +kernel
theorem dX11_init_158 : decode cX11_init 158 = .ok (.aload_n 0, 1) := by decide +kernel
theorem dX11_init_159 : decode cX11_init 159 = .ok (.getfield 7, 3) := by decide +kernel
theorem dX11_init_162 : decode cX11_init 162 = .ok (.iconst 3, 1) := by decide +kernel
theorem dX11_init_163 : decode cX11_init 163 = .ok (.iconst 2, 1) := by decide +kernel
theorem dX11_init_164 : decode cX11_init 164 = .ok (.iastore, 1) := by decide +kernel
theorem dX11_init_165 : decode cX11_init 165 = .ok (.return_, 1) := by decide +kernel
theorem dX11_in_0 : decode cX11_in 0 = .ok (.iload_n 0, 1) := by decide +kernel
theorem dX11_in_1 : decode cX11_in 1 = .ok (.iload_n 1, 1) := by decide +kernel
theorem dX11_in_2 : decode cX11_in 2 = .ok (.if_icmp .lt 12, 3) := by decide +kernel
theorem dX11_in_5 : decode cX11_in 5 = .ok (.iload_n 0, 1) := by decide +kernel
theorem dX11_in_6 : decode cX11_in 6 = .ok (.iload_n 2, 1) := by decide +kernel
theorem dX11_in_7 : decode cX11_in 7 = .ok (.if_icmp .gt 7, 3) := by decide +kernel
theorem dX11_in_10 : decode cX11_in 10 = .ok (.iconst 1, 1) := by decide +kernel
theorem dX11_in_11 : decode cX11_in 11 = .ok (.goto 4, 3) := by decide +kernel
theorem dX11_in_14 : decode cX11_in 14 = .ok (.iconst 0, 1) := by decide +kernel
theorem dX11_in_15 : decode cX11_in 15 = .ok (.ireturn, 1) := by decide +kernel
theorem dX11_up_0 : decode cX11_up 0 = .ok (.iload_n 0, 1) := by decide +kernel
theorem dX11_up_1 : decode cX11_up 1 = .ok (.iload_n 1, 1) := by decide +kernel
theorem dX11_up_2 : decode cX11_up 2 = .ok (.iadd, 1) := by decide +kernel
theorem dX11_up_3 : decode cX11_up 3 = .ok (.iconst 1, 1) := by decide +kernel
theorem dX11_up_4 : decode cX11_up 4 = .ok (.isub, 1) := by decide +kernel
theorem dX11_up_5 : decode cX11_up 5 = .ok (.iload_n 1, 1) := by decide +kernel
theorem dX11_up_6 : decode cX11_up 6 = .ok (.idiv, 1) := by decide +kernel
theorem dX11_up_7 : decode cX11_up 7 = .ok (.ireturn, 1) := by decide +kernel
theorem dX11_of_0 : decode cX11_of 0 = .ok (.aload_n 0, 1) := by decide +kernel
theorem dX11_of_1 : decode cX11_of 1 = .ok (.getfield 7, 3) := by decide +kernel
theorem dX11_of_4 : decode cX11_of 4 = .ok (.bipush 6, 2) := by decide +kernel
theorem dX11_of_6 : decode cX11_of 6 = .ok (.bipush 46, 2) := by decide +kernel
theorem dX11_of_8 : decode cX11_of 8 = .ok (.iload_n 1, 1) := by decide +kernel
theorem dX11_of_9 : decode cX11_of 9 = .ok (.imul, 1) := by decide +kernel
theorem dX11_of_10 : decode cX11_of 10 = .ok (.iadd, 1) := by decide +kernel
theorem dX11_of_11 : decode cX11_of 11 = .ok (.iload_n 2, 1) := by decide +kernel
theorem dX11_of_12 : decode cX11_of 12 = .ok (.iadd, 1) := by decide +kernel
theorem dX11_of_13 : decode cX11_of 13 = .ok (.iaload, 1) := by decide +kernel
theorem dX11_of_14 : decode cX11_of 14 = .ok (.ireturn, 1) := by decide +kernel
theorem dX11_lay_0 : decode cX11_lay 0 = .ok (.aload_n 0, 1) := by decide +kernel
theorem dX11_lay_1 : decode cX11_lay 1 = .ok (.getfield 7, 3) := by decide +kernel
theorem dX11_lay_4 : decode cX11_lay 4 = .ok (.bipush 6, 2) := by decide +kernel
theorem dX11_lay_6 : decode cX11_lay 6 = .ok (.bipush 46, 2) := by decide +kernel
theorem dX11_lay_8 : decode cX11_lay 8 = .ok (.iload_n 1, 1) := by decide +kernel
theorem dX11_lay_9 : decode cX11_lay 9 = .ok (.imul, 1) := by decide +kernel
theorem dX11_lay_10 : decode cX11_lay 10 = .ok (.iadd, 1) := by decide +kernel
theorem dX11_lay_11 : decode cX11_lay 11 = .ok (.iload_n 2, 1) := by decide +kernel
theorem dX11_lay_12 : decode cX11_lay 12 = .ok (.iadd, 1) := by decide +kernel
theorem dX11_lay_13 : decode cX11_lay 13 = .ok (.iload_n 3, 1) := by decide +kernel
theorem dX11_lay_14 : decode cX11_lay 14 = .ok (.iastore, 1) := by decide +kernel
theorem dX11_lay_15 : decode cX11_lay 15 = .ok (.return_, 1) := by decide +kernel
theorem dX11_ofARecipe_0 : decode cX11_ofARecipe 0 = .ok (.aload_n 0, 1) := by decide +kernel
theorem dX11_ofARecipe_1 : decode cX11_ofARecipe 1 = .ok (.getfield 7, 3) := by decide +kernel
theorem dX11_ofARecipe_4 : decode cX11_ofARecipe 4 = .ok (.sipush 374, 3) := by decide +kernel
theorem dX11_ofARecipe_7 : decode cX11_ofARecipe 7 = .ok (.bipush 43, 2) := by decide +kernel
theorem dX11_ofARecipe_9 : decode cX11_ofARecipe 9 = .ok (.iload_n 1, 1) := by decide +kernel
theorem dX11_ofARecipe_10 : decode cX11_ofARecipe 10 = .ok (.imul, 1) := by decide +kernel
theorem dX11_ofARecipe_11 : decode cX11_ofARecipe 11 = .ok (.iadd, 1) := by decide +kernel
theorem dX11_ofARecipe_12 : decode cX11_ofARecipe 12 = .ok (.iload_n 2, 1) := by decide +kernel
theorem dX11_ofARecipe_13 : decode cX11_ofARecipe 13 = .ok (.iadd, 1) := by decide +kernel
theorem dX11_ofARecipe_14 : decode cX11_ofARecipe 14 = .ok (.iaload, 1) := by decide +kernel
theorem dX11_ofARecipe_15 : decode cX11_ofARecipe 15 = .ok (.ireturn, 1) := by decide +kernel
theorem dX11_ofStep_0 : decode cX11_ofStep 0 = .ok (.aload_n 0, 1) := by decide +kernel
theorem dX11_ofStep_1 : decode cX11_ofStep 1 = .ok (.iload_n 1, 1) := by decide +kernel
theorem dX11_ofStep_2 : decode cX11_ofStep 2 = .ok (.bipush 11, 2) := by decide +kernel
theorem dX11_ofStep_4 : decode cX11_ofStep 4 = .ok (.iconst 4, 1) := by decide +kernel
theorem dX11_ofStep_5 : decode cX11_ofStep 5 = .ok (.iload_n 2, 1) := by decide +kernel
theorem dX11_ofStep_6 : decode cX11_ofStep 6 = .ok (.imul, 1) := by decide +kernel
theorem dX11_ofStep_7 : decode cX11_ofStep 7 = .ok (.iadd, 1) := by decide +kernel
theorem dX11_ofStep_8 : decode cX11_ofStep 8 = .ok (.iload_n 3, 1) := by decide +kernel
theorem dX11_ofStep_9 : decode cX11_ofStep 9 = .ok (.iadd, 1) := by decide +kernel
theorem dX11_ofStep_10 : decode cX11_ofStep 10 = .ok (.invokevirtual 68, 3) := by decide +kernel
theorem dX11_ofStep_13 : decode cX11_ofStep 13 = .ok (.ireturn, 1) := by decide +kernel
theorem dX11_isIngredient_0 : decode cX11_isIngredient 0 = .ok (.iload_n 1, 1) := by decide +kernel
theorem dX11_isIngredient_1 : decode cX11_isIngredient 1 = .ok (.ifCond .lt 17, 3) := by decide +kernel
theorem dX11_isIngredient_4 : decode cX11_isIngredient 4 = .ok (.iload_n 1, 1) := by decide +kernel
theorem dX11_isIngredient_5 : decode cX11_isIngredient 5 = .ok (.aload_n 0, 1) := by decide +kernel
theorem dX11_isIngredient_6 : decode cX11_isIngredient 6 = .ok (.getfield 7, 3) := by decide +kernel
theorem dX11_isIngredient_9 : decode cX11_isIngredient 9 = .ok (.iconst 1, 1) := by decide +kernel
theorem dX11_isIngredient_10 : decode cX11_isIngredient 10 = .ok (.iaload, 1) := by decide +kernel
theorem dX11_isIngredient_11 : decode cX11_isIngredient 11 = .ok (.if_icmp .ge 7, 3) := by decide +kernel
theorem dX11_isIngredient_14 : decode cX11_isIngredient 14 = .ok (.iconst 1, 1) := by decide +kernel
theorem dX11_isIngredient_15 : decode cX11_isIngredient 15 = .ok (.goto 4, 3) := by decide +kernel
theorem dX11_isIngredient_18 : decode cX11_isIngredient 18 = .ok (.iconst 0, 1) := by decide +kernel
theorem dX11_isIngredient_19 : decode cX11_isIngredient 19 = .ok (.ireturn, 1) := by decide +kernel
theorem dX11_isRecipe_0 : decode cX11_isRecipe 0 = .ok (.iload_n 1, 1) := by decide +kernel
theorem dX11_isRecipe_1 : decode cX11_isRecipe 1 = .ok (.ifCond .lt 17, 3) := by decide +kernel
theorem dX11_isRecipe_4 : decode cX11_isRecipe 4 = .ok (.iload_n 1, 1) := by decide +kernel
theorem dX11_isRecipe_5 : decode cX11_isRecipe 5 = .ok (.aload_n 0, 1) := by decide +kernel
theorem dX11_isRecipe_6 : decode cX11_isRecipe 6 = .ok (.getfield 7, 3) := by decide +kernel
theorem dX11_isRecipe_9 : decode cX11_isRecipe 9 = .ok (.iconst 2, 1) := by decide +kernel
theorem dX11_isRecipe_10 : decode cX11_isRecipe 10 = .ok (.iaload, 1) := by decide +kernel
theorem dX11_isRecipe_11 : decode cX11_isRecipe 11 = .ok (.if_icmp .ge 7, 3) := by decide +kernel
theorem dX11_isRecipe_14 : decode cX11_isRecipe 14 = .ok (.iconst 1, 1) := by decide +kernel
theorem dX11_isRecipe_15 : decode cX11_isRecipe 15 = .ok (.goto 4, 3) := by decide +kernel
theorem dX11_isRecipe_18 : decode cX11_isRecipe 18 = .ok (.iconst 0, 1) := by decide +kernel
theorem dX11_isRecipe_19 : decode cX11_isRecipe 19 = .ok (.ireturn, 1) := by decide +kernel
theorem dX11_keep_0 : decode cX11_keep 0 = .ok (.aload_n 0, 1) := by decide +kernel
theorem dX11_keep_1 : decode cX11_keep 1 = .ok (.getfield 72, 3) := by decide +kernel
theorem dX11_keep_4 : decode cX11_keep 4 = .ok (.bipush 6, 2) := by decide +kernel
theorem dX11_keep_6 : decode cX11_keep 6 = .ok (.if_icmp .ne 44, 3) := by decide +kernel
theorem dX11_keep_9 : decode cX11_keep 9 = .ok (.iconst 0, 1) := by decide +kernel
theorem dX11_keep_10 : decode cX11_keep 10 = .ok (.istore_n 1, 1) := by decide +kernel
theorem dX11_keep_11 : decode cX11_keep 11 = .ok (.iload_n 1, 1) := by decide +kernel
theorem dX11_keep_12 : decode cX11_keep 12 = .ok (.sipush 2730, 3) := by decide +kernel
theorem dX11_keep_15 : decode cX11_keep 15 = .ok (.if_icmp .ge 25, 3) := by decide +kernel
theorem dX11_keep_18 : decode cX11_keep 18 = .ok (.aload_n 0, 1) := by decide +kernel
theorem dX11_keep_19 : decode cX11_keep 19 = .ok (.getfield 13, 3) := by decide +kernel
theorem dX11_keep_22 : decode cX11_keep 22 = .ok (.iload_n 1, 1) := by decide +kernel
theorem dX11_keep_23 : decode cX11_keep 23 = .ok (.aload_n 0, 1) := by decide +kernel
theorem dX11_keep_24 : decode cX11_keep 24 = .ok (.getfield 13, 3) := by decide +kernel
theorem dX11_keep_27 : decode cX11_keep 27 = .ok (.iload_n 1, 1) := by decide +kernel
theorem dX11_keep_28 : decode cX11_keep 28 = .ok (.sipush 546, 3) := by decide +kernel
theorem dX11_keep_31 : decode cX11_keep 31 = .ok (.iadd, 1) := by decide +kernel
theorem dX11_keep_32 : decode cX11_keep 32 = .ok (.iaload, 1) := by decide +kernel
theorem dX11_keep_33 : decode cX11_keep 33 = .ok (.iastore, 1) := by decide +kernel
theorem dX11_keep_34 : decode cX11_keep 34 = .ok (.iinc 1 1, 3) := by decide +kernel
theorem dX11_keep_37 : decode cX11_keep 37 = .ok (.goto (-26), 3) := by decide +kernel
theorem dX11_keep_40 : decode cX11_keep 40 = .ok (.aload_n 0, 1) := by decide +kernel
theorem dX11_keep_41 : decode cX11_keep 41 = .ok (.dup, 1) := by decide +kernel
theorem dX11_keep_42 : decode cX11_keep 42 = .ok (.getfield 72, 3) := by decide +kernel
theorem dX11_keep_45 : decode cX11_keep 45 = .ok (.iconst 1, 1) := by decide +kernel
theorem dX11_keep_46 : decode cX11_keep 46 = .ok (.isub, 1) := by decide +kernel
theorem dX11_keep_47 : decode cX11_keep 47 = .ok (.putfield 72, 3) := by decide +kernel
theorem dX11_keep_50 : decode cX11_keep 50 = .ok (.iconst 0, 1) := by decide +kernel
theorem dX11_keep_51 : decode cX11_keep 51 = .ok (.istore_n 1, 1) := by decide +kernel
theorem dX11_keep_52 : decode cX11_keep 52 = .ok (.iload_n 1, 1) := by decide +kernel
theorem dX11_keep_53 : decode cX11_keep 53 = .ok (.sipush 546, 3) := by decide +kernel
theorem dX11_keep_56 : decode cX11_keep 56 = .ok (.if_icmp .ge 30, 3) := by decide +kernel
theorem dX11_keep_59 : decode cX11_keep 59 = .ok (.aload_n 0, 1) := by decide +kernel
theorem dX11_keep_60 : decode cX11_keep 60 = .ok (.getfield 13, 3) := by decide +kernel
theorem dX11_keep_63 : decode cX11_keep 63 = .ok (.sipush 546, 3) := by decide +kernel
theorem dX11_keep_66 : decode cX11_keep 66 = .ok (.aload_n 0, 1) := by decide +kernel
theorem dX11_keep_67 : decode cX11_keep 67 = .ok (.getfield 72, 3) := by decide +kernel
theorem dX11_keep_70 : decode cX11_keep 70 = .ok (.imul, 1) := by decide +kernel
theorem dX11_keep_71 : decode cX11_keep 71 = .ok (.iload_n 1, 1) := by decide +kernel
theorem dX11_keep_72 : decode cX11_keep 72 = .ok (.iadd, 1) := by decide +kernel
theorem dX11_keep_73 : decode cX11_keep 73 = .ok (.aload_n 0, 1) := by decide +kernel
theorem dX11_keep_74 : decode cX11_keep 74 = .ok (.getfield 7, 3) := by decide +kernel
theorem dX11_keep_77 : decode cX11_keep 77 = .ok (.iload_n 1, 1) := by decide +kernel
theorem dX11_keep_78 : decode cX11_keep 78 = .ok (.iaload, 1) := by decide +kernel
theorem dX11_keep_79 : decode cX11_keep 79 = .ok (.iastore, 1) := by decide +kernel
theorem dX11_keep_80 : decode cX11_keep 80 = .ok (.iinc 1 1, 3) := by decide +kernel
theorem dX11_keep_83 : decode cX11_keep 83 = .ok (.goto (-31), 3) := by decide +kernel
theorem dX11_keep_86 : decode cX11_keep 86 = .ok (.aload_n 0, 1) := by decide +kernel
theorem dX11_keep_87 : decode cX11_keep 87 = .ok (.dup, 1) := by decide +kernel
theorem dX11_keep_88 : decode cX11_keep 88 = .ok (.getfield 72, 3) := by decide +kernel
theorem dX11_keep_91 : decode cX11_keep 91 = .ok (.iconst 1, 1) := by decide +kernel
theorem dX11_keep_92 : decode cX11_keep 92 = .ok (.iadd, 1) := by decide +kernel
theorem dX11_keep_93 : decode cX11_keep 93 = .ok (.putfield 72, 3) := by decide +kernel
theorem dX11_keep_96 : decode cX11_keep 96 = .ok (.return_, 1) := by decide +kernel
theorem dX11_ingredient_0 : decode cX11_ingredient 0 = .ok (.iload_n 1, 1) := by decide +kernel
theorem dX11_ingredient_1 : decode cX11_ingredient 1 = .ok (.iconst 1, 1) := by decide +kernel
theorem dX11_ingredient_2 : decode cX11_ingredient 2 = .ok (.bipush 30, 2) := by decide +kernel
theorem dX11_ingredient_4 : decode cX11_ingredient 4 = .ok (.invokestatic 76, 3) := by decide +kernel
theorem dX11_ingredient_7 : decode cX11_ingredient 7 = .ok (.ifCond .ne 6, 3) := by decide +kernel
theorem dX11_ingredient_10 : decode cX11_ingredient 10 = .ok (.bipush (-2), 2) := by decide +kernel
theorem dX11_ingredient_12 : decode cX11_ingredient 12 = .ok (.ireturn, 1) := by decide +kernel
theorem dX11_ingredient_13 : decode cX11_ingredient 13 = .ok (.aload_n 0, 1) := by decide +kernel
theorem dX11_ingredient_14 : decode cX11_ingredient 14 = .ok (.getfield 7, 3) := by decide +kernel
theorem dX11_ingredient_17 : decode cX11_ingredient 17 = .ok (.iconst 1, 1) := by decide +kernel
theorem dX11_ingredient_18 : decode cX11_ingredient 18 = .ok (.iaload, 1) := by decide +kernel
theorem dX11_ingredient_19 : decode cX11_ingredient 19 = .ok (.bipush 8, 2) := by decide +kernel
theorem dX11_ingredient_21 : decode cX11_ingredient 21 = .ok (.if_icmp .ne 6, 3) := by decide +kernel
theorem dX11_ingredient_24 : decode cX11_ingredient 24 = .ok (.bipush (-4), 2) := by decide +kernel
theorem dX11_ingredient_26 : decode cX11_ingredient 26 = .ok (.ireturn, 1) := by decide +kernel
theorem dX11_ingredient_27 : decode cX11_ingredient 27 = .ok (.aload_n 0, 1) := by decide +kernel
theorem dX11_ingredient_28 : decode cX11_ingredient 28 = .ok (.invokevirtual 80, 3) := by decide +kernel
theorem dX11_ingredient_31 : decode cX11_ingredient 31 = .ok (.aload_n 0, 1) := by decide +kernel
theorem dX11_ingredient_32 : decode cX11_ingredient 32 = .ok (.getfield 7, 3) := by decide +kernel
theorem dX11_ingredient_35 : decode cX11_ingredient 35 = .ok (.iconst 1, 1) := by decide +kernel
theorem dX11_ingredient_36 : decode cX11_ingredient 36 = .ok (.iaload, 1) := by decide +kernel
theorem dX11_ingredient_37 : decode cX11_ingredient 37 = .ok (.istore_n 2, 1) := by decide +kernel
theorem dX11_ingredient_38 : decode cX11_ingredient 38 = .ok (.aload_n 0, 1) := by decide +kernel
theorem dX11_ingredient_39 : decode cX11_ingredient 39 = .ok (.getfield 7, 3) := by decide +kernel
theorem dX11_ingredient_42 : decode cX11_ingredient 42 = .ok (.iconst 1, 1) := by decide +kernel
theorem dX11_ingredient_43 : decode cX11_ingredient 43 = .ok (.dup2, 1) := by decide +kernel
theorem dX11_ingredient_44 : decode cX11_ingredient 44 = .ok (.iaload, 1) := by decide +kernel
theorem dX11_ingredient_45 : decode cX11_ingredient 45 = .ok (.iconst 1, 1) := by decide +kernel
theorem dX11_ingredient_46 : decode cX11_ingredient 46 = .ok (.iadd, 1) := by decide +kernel
theorem dX11_ingredient_47 : decode cX11_ingredient 47 = .ok (.iastore, 1) := by decide +kernel
theorem dX11_ingredient_48 : decode cX11_ingredient 48 = .ok (.aload_n 0, 1) := by decide +kernel
theorem dX11_ingredient_49 : decode cX11_ingredient 49 = .ok (.iload_n 2, 1) := by decide +kernel
theorem dX11_ingredient_50 : decode cX11_ingredient 50 = .ok (.iconst 0, 1) := by decide +kernel
theorem dX11_ingredient_51 : decode cX11_ingredient 51 = .ok (.iload_n 1, 1) := by decide +kernel
theorem dX11_ingredient_52 : decode cX11_ingredient 52 = .ok (.invokevirtual 83, 3) := by decide +kernel
theorem dX11_ingredient_55 : decode cX11_ingredient 55 = .ok (.aload_n 0, 1) := by decide +kernel
theorem dX11_ingredient_56 : decode cX11_ingredient 56 = .ok (.iload_n 2, 1) := by decide +kernel
theorem dX11_ingredient_57 : decode cX11_ingredient 57 = .ok (.iconst 1, 1) := by decide +kernel
theorem dX11_ingredient_58 : decode cX11_ingredient 58 = .ok (.iconst 1, 1) := by decide +kernel
theorem dX11_ingredient_59 : decode cX11_ingredient 59 = .ok (.invokevirtual 83, 3) := by decide +kernel
theorem dX11_ingredient_62 : decode cX11_ingredient 62 = .ok (.aload_n 0, 1) := by decide +kernel
theorem dX11_ingredient_63 : decode cX11_ingredient 63 = .ok (.iload_n 2, 1) := by decide +kernel
theorem dX11_ingredient_64 : decode cX11_ingredient 64 = .ok (.iconst 3, 1) := by decide +kernel
theorem dX11_ingredient_65 : decode cX11_ingredient 65 = .ok (.bipush (-6), 2) := by decide +kernel
theorem dX11_ingredient_67 : decode cX11_ingredient 67 = .ok (.invokevirtual 83, 3) := by decide +kernel
theorem dX11_ingredient_70 : decode cX11_ingredient 70 = .ok (.iload_n 2, 1) := by decide +kernel
theorem dX11_ingredient_71 : decode cX11_ingredient 71 = .ok (.ireturn, 1) := by decide +kernel
theorem dX11_sizeOf_0 : decode cX11_sizeOf 0 = .ok (.aload_n 0, 1) := by decide +kernel
theorem dX11_sizeOf_1 : decode cX11_sizeOf 1 = .ok (.iload_n 1, 1) := by decide +kernel
theorem dX11_sizeOf_2 : decode cX11_sizeOf 2 = .ok (.bipush 9, 2) := by decide +kernel
theorem dX11_sizeOf_4 : decode cX11_sizeOf 4 = .ok (.iconst 2, 1) := by decide +kernel
theorem dX11_sizeOf_5 : decode cX11_sizeOf 5 = .ok (.iload_n 2, 1) := by decide +kernel
theorem dX11_sizeOf_6 : decode cX11_sizeOf 6 = .ok (.imul, 1) := by decide +kernel
theorem dX11_sizeOf_7 : decode cX11_sizeOf 7 = .ok (.iadd, 1) := by decide +kernel
theorem dX11_sizeOf_8 : decode cX11_sizeOf 8 = .ok (.invokevirtual 87, 3) := by decide +kernel
theorem dX11_sizeOf_11 : decode cX11_sizeOf 11 = .ok (.ireturn, 1) := by decide +kernel
theorem dX11_priceOf_0 : decode cX11_priceOf 0 = .ok (.aload_n 0, 1) := by decide +kernel
theorem dX11_priceOf_1 : decode cX11_priceOf 1 = .ok (.iload_n 1, 1) := by decide +kernel
theorem dX11_priceOf_2 : decode cX11_priceOf 2 = .ok (.bipush 9, 2) := by decide +kernel
theorem dX11_priceOf_4 : decode cX11_priceOf 4 = .ok (.iconst 2, 1) := by decide +kernel
theorem dX11_priceOf_5 : decode cX11_priceOf 5 = .ok (.iload_n 2, 1) := by decide +kernel
theorem dX11_priceOf_6 : decode cX11_priceOf 6 = .ok (.imul, 1) := by decide +kernel
theorem dX11_priceOf_7 : decode cX11_priceOf 7 = .ok (.iadd, 1) := by decide +kernel
theorem dX11_priceOf_8 : decode cX11_priceOf 8 = .ok (.iconst 1, 1) := by decide +kernel
theorem dX11_priceOf_9 : decode cX11_priceOf 9 = .ok (.iadd, 1) := by decide +kernel
theorem dX11_priceOf_10 : decode cX11_priceOf 10 = .ok (.invokevirtual 87, 3) := by decide +kernel
theorem dX11_priceOf_13 : decode cX11_priceOf 13 = .ok (.ireturn, 1) := by decide +kernel
theorem dX11_tin_0 : decode cX11_tin 0 = .ok (.aload_n 0, 1) := by decide +kernel
theorem dX11_tin_1 : decode cX11_tin 1 = .ok (.iload_n 1, 1) := by decide +kernel
theorem dX11_tin_2 : decode cX11_tin 2 = .ok (.invokevirtual 90, 3) := by decide +kernel
theorem dX11_tin_5 : decode cX11_tin 5 = .ok (.ifCond .ne 5, 3) := by decide +kernel
theorem dX11_tin_8 : decode cX11_tin 8 = .ok (.iconst (-1), 1) := by decide +kernel
theorem dX11_tin_9 : decode cX11_tin 9 = .ok (.ireturn, 1) := by decide +kernel
theorem dX11_tin_10 : decode cX11_tin 10 = .ok (.iload_n 2, 1) := by decide +kernel
theorem dX11_tin_11 : decode cX11_tin 11 = .ok (.bipush 50, 2) := by decide +kernel
theorem dX11_tin_13 : decode cX11_tin 13 = .ok (.sipush 2000, 3) := by decide +kernel
theorem dX11_tin_16 : decode cX11_tin 16 = .ok (.invokestatic 76, 3) := by decide +kernel
theorem dX11_tin_19 : decode cX11_tin 19 = .ok (.ifCond .eq 14, 3) := by decide +kernel
theorem dX11_tin_22 : decode cX11_tin 22 = .ok (.iload_n 3, 1) := by decide +kernel
theorem dX11_tin_23 : decode cX11_tin 23 = .ok (.iconst 1, 1) := by decide +kernel
theorem dX11_tin_24 : decode cX11_tin 24 = .ok (.sipush 999, 3) := by decide +kernel
theorem dX11_tin_27 : decode cX11_tin 27 = .ok (.invokestatic 76, 3) := by decide +kernel
theorem dX11_tin_30 : decode cX11_tin 30 = .ok (.ifCond .ne 6, 3) := by decide +kernel
theorem dX11_tin_33 : decode cX11_tin 33 = .ok (.bipush (-2), 2) := by decide +kernel
theorem dX11_tin_35 : decode cX11_tin 35 = .ok (.ireturn, 1) := by decide +kernel
theorem dX11_tin_36 : decode cX11_tin 36 = .ok (.aload_n 0, 1) := by decide +kernel
theorem dX11_tin_37 : decode cX11_tin 37 = .ok (.iload_n 1, 1) := by decide +kernel
theorem dX11_tin_38 : decode cX11_tin 38 = .ok (.iconst 2, 1) := by decide +kernel
theorem dX11_tin_39 : decode cX11_tin 39 = .ok (.invokevirtual 87, 3) := by decide +kernel
theorem dX11_tin_42 : decode cX11_tin 42 = .ok (.istore 4, 2) := by decide +kernel
theorem dX11_tin_44 : decode cX11_tin 44 = .ok (.iload 4, 2) := by decide +kernel
theorem dX11_tin_46 : decode cX11_tin 46 = .ok (.iconst 3, 1) := by decide +kernel
theorem dX11_tin_47 : decode cX11_tin 47 = .ok (.if_icmp .ne 6, 3) := by decide +kernel
theorem dX11_tin_50 : decode cX11_tin 50 = .ok (.bipush (-4), 2) := by decide +kernel
theorem dX11_tin_52 : decode cX11_tin 52 = .ok (.ireturn, 1) := by decide +kernel
theorem dX11_tin_53 : decode cX11_tin 53 = .ok (.iconst 0, 1) := by decide +kernel
theorem dX11_tin_54 : decode cX11_tin 54 = .ok (.istore 5, 2) := by decide +kernel
theorem dX11_tin_56 : decode cX11_tin 56 = .ok (.iload 5, 2) := by decide +kernel
theorem dX11_tin_58 : decode cX11_tin 58 = .ok (.iload 4, 2) := by decide +kernel
theorem dX11_tin_60 : decode cX11_tin 60 = .ok (.if_icmp .ge 23, 3) := by decide +kernel
theorem dX11_tin_63 : decode cX11_tin 63 = .ok (.aload_n 0, 1) := by decide +kernel
theorem dX11_tin_64 : decode cX11_tin 64 = .ok (.iload_n 1, 1) := by decide +kernel
theorem dX11_tin_65 : decode cX11_tin 65 = .ok (.iload 5, 2) := by decide +kernel
theorem dX11_tin_67 : decode cX11_tin 67 = .ok (.invokevirtual 94, 3) := by decide +kernel
theorem dX11_tin_70 : decode cX11_tin 70 = .ok (.iload_n 2, 1) := by decide +kernel
theorem dX11_tin_71 : decode cX11_tin 71 = .ok (.if_icmp .ne 6, 3) := by decide +kernel
theorem dX11_tin_74 : decode cX11_tin 74 = .ok (.bipush (-5), 2) := by decide +kernel
theorem dX11_tin_76 : decode cX11_tin 76 = .ok (.ireturn, 1) := by decide +kernel
theorem dX11_tin_77 : decode cX11_tin 77 = .ok (.iinc 5 1, 3) := by decide +kernel
theorem dX11_tin_80 : decode cX11_tin 80 = .ok (.goto (-24), 3) := by decide +kernel
theorem dX11_tin_83 : decode cX11_tin 83 = .ok (.aload_n 0, 1) := by decide +kernel
theorem dX11_tin_84 : decode cX11_tin 84 = .ok (.invokevirtual 80, 3) := by decide +kernel
theorem dX11_tin_87 : decode cX11_tin 87 = .ok (.aload_n 0, 1) := by decide +kernel
theorem dX11_tin_88 : decode cX11_tin 88 = .ok (.iload_n 1, 1) := by decide +kernel
theorem dX11_tin_89 : decode cX11_tin 89 = .ok (.bipush 9, 2) := by decide +kernel
theorem dX11_tin_91 : decode cX11_tin 91 = .ok (.iconst 2, 1) := by decide +kernel
theorem dX11_tin_92 : decode cX11_tin 92 = .ok (.iload 4, 2) := by decide +kernel
theorem dX11_tin_94 : decode cX11_tin 94 = .ok (.imul, 1) := by decide +kernel
theorem dX11_tin_95 : decode cX11_tin 95 = .ok (.iadd, 1) := by decide +kernel
theorem dX11_tin_96 : decode cX11_tin 96 = .ok (.iload_n 2, 1) := by decide +kernel
theorem dX11_tin_97 : decode cX11_tin 97 = .ok (.invokevirtual 83, 3) := by decide +kernel
theorem dX11_tin_100 : decode cX11_tin 100 = .ok (.aload_n 0, 1) := by decide +kernel
theorem dX11_tin_101 : decode cX11_tin 101 = .ok (.iload_n 1, 1) := by decide +kernel
theorem dX11_tin_102 : decode cX11_tin 102 = .ok (.bipush 9, 2) := by decide +kernel
theorem dX11_tin_104 : decode cX11_tin 104 = .ok (.iconst 2, 1) := by decide +kernel
theorem dX11_tin_105 : decode cX11_tin 105 = .ok (.iload 4, 2) := by decide +kernel
theorem dX11_tin_107 : decode cX11_tin 107 = .ok (.imul, 1) := by decide +kernel
theorem dX11_tin_108 : decode cX11_tin 108 = .ok (.iadd, 1) := by decide +kernel
theorem dX11_tin_109 : decode cX11_tin 109 = .ok (.iconst 1, 1) := by decide +kernel
theorem dX11_tin_110 : decode cX11_tin 110 = .ok (.iadd, 1) := by decide +kernel
theorem dX11_tin_111 : decode cX11_tin 111 = .ok (.iload_n 3, 1) := by decide +kernel
theorem dX11_tin_112 : decode cX11_tin 112 = .ok (.invokevirtual 83, 3) := by decide +kernel
theorem dX11_tin_115 : decode cX11_tin 115 = .ok (.aload_n 0, 1) := by decide +kernel
theorem dX11_tin_116 : decode cX11_tin 116 = .ok (.iload_n 1, 1) := by decide +kernel
theorem dX11_tin_117 : decode cX11_tin 117 = .ok (.iconst 2, 1) := by decide +kernel
theorem dX11_tin_118 : decode cX11_tin 118 = .ok (.iload 4, 2) := by decide +kernel
theorem dX11_tin_120 : decode cX11_tin 120 = .ok (.iconst 1, 1) := by decide +kernel
theorem dX11_tin_121 : decode cX11_tin 121 = .ok (.iadd, 1) := by decide +kernel
theorem dX11_tin_122 : decode cX11_tin 122 = .ok (.invokevirtual 83, 3) := by decide +kernel
theorem dX11_tin_125 : decode cX11_tin 125 = .ok (.iload 4, 2) := by decide +kernel
theorem dX11_tin_127 : decode cX11_tin 127 = .ok (.iconst 1, 1) := by decide +kernel
theorem dX11_tin_128 : decode cX11_tin 128 = .ok (.iadd, 1) := by decide +kernel
theorem dX11_tin_129 : decode cX11_tin 129 = .ok (.ireturn, 1) := by decide +kernel
theorem dX11_buyable_0 : decode cX11_buyable 0 = .ok (.aload_n 0, 1) := by decide +kernel
theorem dX11_buyable_1 : decode cX11_buyable 1 = .ok (.iload_n 1, 1) := by decide +kernel
theorem dX11_buyable_2 : decode cX11_buyable 2 = .ok (.invokevirtual 90, 3) := by decide +kernel
theorem dX11_buyable_5 : decode cX11_buyable 5 = .ok (.ifCond .ne 5, 3) := by decide +kernel
theorem dX11_buyable_8 : decode cX11_buyable 8 = .ok (.iconst (-1), 1) := by decide +kernel
theorem dX11_buyable_9 : decode cX11_buyable 9 = .ok (.ireturn, 1) := by decide +kernel
theorem dX11_buyable_10 : decode cX11_buyable 10 = .ok (.iload_n 2, 1) := by decide +kernel
theorem dX11_buyable_11 : decode cX11_buyable 11 = .ok (.iconst 0, 1) := by decide +kernel
theorem dX11_buyable_12 : decode cX11_buyable 12 = .ok (.iconst 1, 1) := by decide +kernel
theorem dX11_buyable_13 : decode cX11_buyable 13 = .ok (.invokestatic 76, 3) := by decide +kernel
theorem dX11_buyable_16 : decode cX11_buyable 16 = .ok (.ifCond .ne 6, 3) := by decide +kernel
theorem dX11_buyable_19 : decode cX11_buyable 19 = .ok (.bipush (-2), 2) := by decide +kernel
theorem dX11_buyable_21 : decode cX11_buyable 21 = .ok (.ireturn, 1) := by decide +kernel
theorem dX11_buyable_22 : decode cX11_buyable 22 = .ok (.aload_n 0, 1) := by decide +kernel
theorem dX11_buyable_23 : decode cX11_buyable 23 = .ok (.invokevirtual 80, 3) := by decide +kernel
theorem dX11_buyable_26 : decode cX11_buyable 26 = .ok (.aload_n 0, 1) := by decide +kernel
theorem dX11_buyable_27 : decode cX11_buyable 27 = .ok (.iload_n 1, 1) := by decide +kernel
theorem dX11_buyable_28 : decode cX11_buyable 28 = .ok (.iconst 1, 1) := by decide +kernel
theorem dX11_buyable_29 : decode cX11_buyable 29 = .ok (.invokevirtual 87, 3) := by decide +kernel
theorem dX11_buyable_32 : decode cX11_buyable 32 = .ok (.istore_n 3, 1) := by decide +kernel
theorem dX11_buyable_33 : decode cX11_buyable 33 = .ok (.aload_n 0, 1) := by decide +kernel
theorem dX11_buyable_34 : decode cX11_buyable 34 = .ok (.iload_n 1, 1) := by decide +kernel
theorem dX11_buyable_35 : decode cX11_buyable 35 = .ok (.iconst 1, 1) := by decide +kernel
theorem dX11_buyable_36 : decode cX11_buyable 36 = .ok (.iload_n 2, 1) := by decide +kernel
theorem dX11_buyable_37 : decode cX11_buyable 37 = .ok (.invokevirtual 83, 3) := by decide +kernel
theorem dX11_buyable_40 : decode cX11_buyable 40 = .ok (.iload_n 3, 1) := by decide +kernel
theorem dX11_buyable_41 : decode cX11_buyable 41 = .ok (.ireturn, 1) := by decide +kernel
theorem dX11_substitute_0 : decode cX11_substitute 0 = .ok (.aload_n 0, 1) := by decide +kernel
theorem dX11_substitute_1 : decode cX11_substitute 1 = .ok (.iload_n 1, 1) := by decide +kernel
theorem dX11_substitute_2 : decode cX11_substitute 2 = .ok (.invokevirtual 90, 3) := by decide +kernel
theorem dX11_substitute_5 : decode cX11_substitute 5 = .ok (.ifCond .eq 17, 3) := by decide +kernel
theorem dX11_substitute_8 : decode cX11_substitute 8 = .ok (.iload_n 2, 1) := by decide +kernel
theorem dX11_substitute_9 : decode cX11_substitute 9 = .ok (.bipush (-6), 2) := by decide +kernel
theorem dX11_substitute_11 : decode cX11_substitute 11 = .ok (.if_icmp .eq 13, 3) := by decide +kernel
theorem dX11_substitute_14 : decode cX11_substitute 14 = .ok (.aload_n 0, 1) := by decide +kernel
theorem dX11_substitute_15 : decode cX11_substitute 15 = .ok (.iload_n 2, 1) := by decide +kernel
theorem dX11_substitute_16 : decode cX11_substitute 16 = .ok (.invokevirtual 90, 3) := by decide +kernel
theorem dX11_substitute_19 : decode cX11_substitute 19 = .ok (.ifCond .ne 5, 3) := by decide +kernel
theorem dX11_substitute_22 : decode cX11_substitute 22 = .ok (.iconst (-1), 1) := by decide +kernel
theorem dX11_substitute_23 : decode cX11_substitute 23 = .ok (.ireturn, 1) := by decide +kernel
theorem dX11_substitute_24 : decode cX11_substitute 24 = .ok (.iload_n 2, 1) := by decide +kernel
theorem dX11_substitute_25 : decode cX11_substitute 25 = .ok (.bipush (-6), 2) := by decide +kernel
theorem dX11_substitute_27 : decode cX11_substitute 27 = .ok (.if_icmp .eq 23, 3) := by decide +kernel
theorem dX11_substitute_30 : decode cX11_substitute 30 = .ok (.iload_n 2, 1) := by decide +kernel
theorem dX11_substitute_31 : decode cX11_substitute 31 = .ok (.iload_n 1, 1) := by decide +kernel
theorem dX11_substitute_32 : decode cX11_substitute 32 = .ok (.if_icmp .le 15, 3) := by decide +kernel
theorem dX11_substitute_35 : decode cX11_substitute 35 = .ok (.iload_n 3, 1) := by decide +kernel
theorem dX11_substitute_36 : decode cX11_substitute 36 = .ok (.bipush 10, 2) := by decide +kernel
theorem dX11_substitute_38 : decode cX11_substitute 38 = .ok (.sipush 200, 3) := by decide +kernel
theorem dX11_substitute_41 : decode cX11_substitute 41 = .ok (.invokestatic 76, 3) := by decide +kernel
theorem dX11_substitute_44 : decode cX11_substitute 44 = .ok (.ifCond .ne 6, 3) := by decide +kernel
theorem dX11_substitute_47 : decode cX11_substitute 47 = .ok (.bipush (-2), 2) := by decide +kernel
theorem dX11_substitute_49 : decode cX11_substitute 49 = .ok (.ireturn, 1) := by decide +kernel
theorem dX11_substitute_50 : decode cX11_substitute 50 = .ok (.aload_n 0, 1) := by decide +kernel
theorem dX11_substitute_51 : decode cX11_substitute 51 = .ok (.invokevirtual 80, 3) := by decide +kernel
theorem dX11_substitute_54 : decode cX11_substitute 54 = .ok (.aload_n 0, 1) := by decide +kernel
theorem dX11_substitute_55 : decode cX11_substitute 55 = .ok (.iload_n 1, 1) := by decide +kernel
theorem dX11_substitute_56 : decode cX11_substitute 56 = .ok (.iconst 3, 1) := by decide +kernel
theorem dX11_substitute_57 : decode cX11_substitute 57 = .ok (.invokevirtual 87, 3) := by decide +kernel
theorem dX11_substitute_60 : decode cX11_substitute 60 = .ok (.istore 4, 2) := by decide +kernel
theorem dX11_substitute_62 : decode cX11_substitute 62 = .ok (.aload_n 0, 1) := by decide +kernel
theorem dX11_substitute_63 : decode cX11_substitute 63 = .ok (.iload_n 1, 1) := by decide +kernel
theorem dX11_substitute_64 : decode cX11_substitute 64 = .ok (.iconst 3, 1) := by decide +kernel
theorem dX11_substitute_65 : decode cX11_substitute 65 = .ok (.iload_n 2, 1) := by decide +kernel
theorem dX11_substitute_66 : decode cX11_substitute 66 = .ok (.invokevirtual 83, 3) := by decide +kernel
theorem dX11_substitute_69 : decode cX11_substitute 69 = .ok (.aload_n 0, 1) := by decide +kernel
theorem dX11_substitute_70 : decode cX11_substitute 70 = .ok (.iload_n 1, 1) := by decide +kernel
theorem dX11_substitute_71 : decode cX11_substitute 71 = .ok (.iconst 4, 1) := by decide +kernel
theorem dX11_substitute_72 : decode cX11_substitute 72 = .ok (.iload_n 3, 1) := by decide +kernel
theorem dX11_substitute_73 : decode cX11_substitute 73 = .ok (.invokevirtual 83, 3) := by decide +kernel
theorem dX11_substitute_76 : decode cX11_substitute 76 = .ok (.iload 4, 2) := by decide +kernel
theorem dX11_substitute_78 : decode cX11_substitute 78 = .ok (.ireturn, 1) := by decide +kernel
theorem dX11_lotOn_0 : decode cX11_lotOn 0 = .ok (.aload_n 0, 1) := by decide +kernel
theorem dX11_lotOn_1 : decode cX11_lotOn 1 = .ok (.iload_n 1, 1) := by decide +kernel
theorem dX11_lotOn_2 : decode cX11_lotOn 2 = .ok (.bipush 15, 2) := by decide +kernel
theorem dX11_lotOn_4 : decode cX11_lotOn 4 = .ok (.iload_n 2, 1) := by decide +kernel
theorem dX11_lotOn_5 : decode cX11_lotOn 5 = .ok (.bipush 31, 2) := by decide +kernel
theorem dX11_lotOn_7 : decode cX11_lotOn 7 = .ok (.irem, 1) := by decide +kernel
theorem dX11_lotOn_8 : decode cX11_lotOn 8 = .ok (.iadd, 1) := by decide +kernel
theorem dX11_lotOn_9 : decode cX11_lotOn 9 = .ok (.invokevirtual 87, 3) := by decide +kernel
theorem dX11_lotOn_12 : decode cX11_lotOn 12 = .ok (.ireturn, 1) := by decide +kernel
theorem dX11_layLot_0 : decode cX11_layLot 0 = .ok (.aload_n 0, 1) := by decide +kernel
theorem dX11_layLot_1 : decode cX11_layLot 1 = .ok (.iload_n 1, 1) := by decide +kernel
theorem dX11_layLot_2 : decode cX11_layLot 2 = .ok (.bipush 15, 2) := by decide +kernel
theorem dX11_layLot_4 : decode cX11_layLot 4 = .ok (.iload_n 2, 1) := by decide +kernel
theorem dX11_layLot_5 : decode cX11_layLot 5 = .ok (.bipush 31, 2) := by decide +kernel
theorem dX11_layLot_7 : decode cX11_layLot 7 = .ok (.irem, 1) := by decide +kernel
theorem dX11_layLot_8 : decode cX11_layLot 8 = .ok (.iadd, 1) := by decide +kernel
theorem dX11_layLot_9 : decode cX11_layLot 9 = .ok (.iload_n 3, 1) := by decide +kernel
theorem dX11_layLot_10 : decode cX11_layLot 10 = .ok (.invokevirtual 83, 3) := by decide +kernel
theorem dX11_layLot_13 : decode cX11_layLot 13 = .ok (.return_, 1) := by decide +kernel
theorem dX11_pantry_0 : decode cX11_pantry 0 = .ok (.iconst 0, 1) := by decide +kernel
theorem dX11_pantry_1 : decode cX11_pantry 1 = .ok (.istore_n 2, 1) := by decide +kernel
theorem dX11_pantry_2 : decode cX11_pantry 2 = .ok (.iconst 0, 1) := by decide +kernel
theorem dX11_pantry_3 : decode cX11_pantry 3 = .ok (.istore_n 3, 1) := by decide +kernel
theorem dX11_pantry_4 : decode cX11_pantry 4 = .ok (.iload_n 3, 1) := by decide +kernel
theorem dX11_pantry_5 : decode cX11_pantry 5 = .ok (.bipush 31, 2) := by decide +kernel
theorem dX11_pantry_7 : decode cX11_pantry 7 = .ok (.if_icmp .ge 21, 3) := by decide +kernel
theorem dX11_pantry_10 : decode cX11_pantry 10 = .ok (.iload_n 2, 1) := by decide +kernel
theorem dX11_pantry_11 : decode cX11_pantry 11 = .ok (.aload_n 0, 1) := by decide +kernel
theorem dX11_pantry_12 : decode cX11_pantry 12 = .ok (.iload_n 1, 1) := by decide +kernel
theorem dX11_pantry_13 : decode cX11_pantry 13 = .ok (.bipush 15, 2) := by decide +kernel
theorem dX11_pantry_15 : decode cX11_pantry 15 = .ok (.iload_n 3, 1) := by decide +kernel
theorem dX11_pantry_16 : decode cX11_pantry 16 = .ok (.iadd, 1) := by decide +kernel
theorem dX11_pantry_17 : decode cX11_pantry 17 = .ok (.invokevirtual 87, 3) := by decide +kernel
theorem dX11_pantry_20 : decode cX11_pantry 20 = .ok (.iadd, 1) := by decide +kernel
theorem dX11_pantry_21 : decode cX11_pantry 21 = .ok (.istore_n 2, 1) := by decide +kernel
theorem dX11_pantry_22 : decode cX11_pantry 22 = .ok (.iinc 3 1, 3) := by decide +kernel
theorem dX11_pantry_25 : decode cX11_pantry 25 = .ok (.goto (-21), 3) := by decide +kernel
theorem dX11_pantry_28 : decode cX11_pantry 28 = .ok (.iload_n 2, 1) := by decide +kernel
theorem dX11_pantry_29 : decode cX11_pantry 29 = .ok (.ireturn, 1) := by decide +kernel
theorem dX11_lots_0 : decode cX11_lots 0 = .ok (.iconst 0, 1) := by decide +kernel
theorem dX11_lots_1 : decode cX11_lots 1 = .ok (.istore_n 2, 1) := by decide +kernel
theorem dX11_lots_2 : decode cX11_lots 2 = .ok (.iconst 0, 1) := by decide +kernel
theorem dX11_lots_3 : decode cX11_lots 3 = .ok (.istore_n 3, 1) := by decide +kernel
theorem dX11_lots_4 : decode cX11_lots 4 = .ok (.iload_n 3, 1) := by decide +kernel
theorem dX11_lots_5 : decode cX11_lots 5 = .ok (.bipush 31, 2) := by decide +kernel
theorem dX11_lots_7 : decode cX11_lots 7 = .ok (.if_icmp .ge 29, 3) := by decide +kernel
theorem dX11_lots_10 : decode cX11_lots 10 = .ok (.iload_n 2, 1) := by decide +kernel
theorem dX11_lots_11 : decode cX11_lots 11 = .ok (.aload_n 0, 1) := by decide +kernel
theorem dX11_lots_12 : decode cX11_lots 12 = .ok (.iload_n 1, 1) := by decide +kernel
theorem dX11_lots_13 : decode cX11_lots 13 = .ok (.bipush 15, 2) := by decide +kernel
theorem dX11_lots_15 : decode cX11_lots 15 = .ok (.iload_n 3, 1) := by decide +kernel
theorem dX11_lots_16 : decode cX11_lots 16 = .ok (.iadd, 1) := by decide +kernel
theorem dX11_lots_17 : decode cX11_lots 17 = .ok (.invokevirtual 87, 3) := by decide +kernel
theorem dX11_lots_20 : decode cX11_lots 20 = .ok (.ifCond .le 7, 3) := by decide +kernel
theorem dX11_lots_23 : decode cX11_lots 23 = .ok (.iconst 1, 1) := by decide +kernel
theorem dX11_lots_24 : decode cX11_lots 24 = .ok (.goto 4, 3) := by decide +kernel
theorem dX11_lots_27 : decode cX11_lots 27 = .ok (.iconst 0, 1) := by decide +kernel
theorem dX11_lots_28 : decode cX11_lots 28 = .ok (.iadd, 1) := by decide +kernel
theorem dX11_lots_29 : decode cX11_lots 29 = .ok (.istore_n 2, 1) := by decide +kernel
theorem dX11_lots_30 : decode cX11_lots 30 = .ok (.iinc 3 1, 3) := by decide +kernel
theorem dX11_lots_33 : decode cX11_lots 33 = .ok (.goto (-29), 3) := by decide +kernel
theorem dX11_lots_36 : decode cX11_lots 36 = .ok (.iload_n 2, 1) := by decide +kernel
theorem dX11_lots_37 : decode cX11_lots 37 = .ok (.ireturn, 1) := by decide +kernel
theorem dX11_firstDay_0 : decode cX11_firstDay 0 = .ok (.aload_n 0, 1) := by decide +kernel
theorem dX11_firstDay_1 : decode cX11_firstDay 1 = .ok (.getfield 7, 3) := by decide +kernel
theorem dX11_firstDay_4 : decode cX11_firstDay 4 = .ok (.iconst 0, 1) := by decide +kernel
theorem dX11_firstDay_5 : decode cX11_firstDay 5 = .ok (.iaload, 1) := by decide +kernel
theorem dX11_firstDay_6 : decode cX11_firstDay 6 = .ok (.iconst 1, 1) := by decide +kernel
theorem dX11_firstDay_7 : decode cX11_firstDay 7 = .ok (.iadd, 1) := by decide +kernel
theorem dX11_firstDay_8 : decode cX11_firstDay 8 = .ok (.istore_n 2, 1) := by decide +kernel
theorem dX11_firstDay_9 : decode cX11_firstDay 9 = .ok (.iload_n 2, 1) := by decide +kernel
theorem dX11_firstDay_10 : decode cX11_firstDay 10 = .ok (.aload_n 0, 1) := by decide +kernel
theorem dX11_firstDay_11 : decode cX11_firstDay 11 = .ok (.getfield 7, 3) := by decide +kernel
theorem dX11_firstDay_14 : decode cX11_firstDay 14 = .ok (.iconst 0, 1) := by decide +kernel
theorem dX11_firstDay_15 : decode cX11_firstDay 15 = .ok (.iaload, 1) := by decide +kernel
theorem dX11_firstDay_16 : decode cX11_firstDay 16 = .ok (.bipush 31, 2) := by decide +kernel
theorem dX11_firstDay_18 : decode cX11_firstDay 18 = .ok (.iadd, 1) := by decide +kernel
theorem dX11_firstDay_19 : decode cX11_firstDay 19 = .ok (.if_icmp .ge 20, 3) := by decide +kernel
theorem dX11_firstDay_22 : decode cX11_firstDay 22 = .ok (.aload_n 0, 1) := by decide +kernel
theorem dX11_firstDay_23 : decode cX11_firstDay 23 = .ok (.iload_n 1, 1) := by decide +kernel
theorem dX11_firstDay_24 : decode cX11_firstDay 24 = .ok (.iload_n 2, 1) := by decide +kernel
theorem dX11_firstDay_25 : decode cX11_firstDay 25 = .ok (.invokevirtual 97, 3) := by decide +kernel
theorem dX11_firstDay_28 : decode cX11_firstDay 28 = .ok (.ifCond .le 5, 3) := by decide +kernel
theorem dX11_firstDay_31 : decode cX11_firstDay 31 = .ok (.iload_n 2, 1) := by decide +kernel
theorem dX11_firstDay_32 : decode cX11_firstDay 32 = .ok (.ireturn, 1) := by decide +kernel
theorem dX11_firstDay_33 : decode cX11_firstDay 33 = .ok (.iinc 2 1, 3) := by decide +kernel
theorem dX11_firstDay_36 : decode cX11_firstDay 36 = .ok (.goto (-27), 3) := by decide +kernel
theorem dX11_firstDay_39 : decode cX11_firstDay 39 = .ok (.bipush (-6), 2) := by decide +kernel
theorem dX11_firstDay_41 : decode cX11_firstDay 41 = .ok (.ireturn, 1) := by decide +kernel
theorem dX11_putIn_0 : decode cX11_putIn 0 = .ok (.aload_n 0, 1) := by decide +kernel
theorem dX11_putIn_1 : decode cX11_putIn 1 = .ok (.getfield 7, 3) := by decide +kernel
theorem dX11_putIn_4 : decode cX11_putIn 4 = .ok (.iconst 0, 1) := by decide +kernel
theorem dX11_putIn_5 : decode cX11_putIn 5 = .ok (.iaload, 1) := by decide +kernel
theorem dX11_putIn_6 : decode cX11_putIn 6 = .ok (.aload_n 0, 1) := by decide +kernel
theorem dX11_putIn_7 : decode cX11_putIn 7 = .ok (.iload_n 1, 1) := by decide +kernel
theorem dX11_putIn_8 : decode cX11_putIn 8 = .ok (.iconst 0, 1) := by decide +kernel
theorem dX11_putIn_9 : decode cX11_putIn 9 = .ok (.invokevirtual 87, 3) := by decide +kernel
theorem dX11_putIn_12 : decode cX11_putIn 12 = .ok (.iadd, 1) := by decide +kernel
theorem dX11_putIn_13 : decode cX11_putIn 13 = .ok (.istore_n 3, 1) := by decide +kernel
theorem dX11_putIn_14 : decode cX11_putIn 14 = .ok (.aload_n 0, 1) := by decide +kernel
theorem dX11_putIn_15 : decode cX11_putIn 15 = .ok (.iload_n 1, 1) := by decide +kernel
theorem dX11_putIn_16 : decode cX11_putIn 16 = .ok (.iload_n 3, 1) := by decide +kernel
theorem dX11_putIn_17 : decode cX11_putIn 17 = .ok (.aload_n 0, 1) := by decide +kernel
theorem dX11_putIn_18 : decode cX11_putIn 18 = .ok (.iload_n 1, 1) := by decide +kernel
theorem dX11_putIn_19 : decode cX11_putIn 19 = .ok (.iload_n 3, 1) := by decide +kernel
theorem dX11_putIn_20 : decode cX11_putIn 20 = .ok (.invokevirtual 97, 3) := by decide +kernel
theorem dX11_putIn_23 : decode cX11_putIn 23 = .ok (.iload_n 2, 1) := by decide +kernel
theorem dX11_putIn_24 : decode cX11_putIn 24 = .ok (.iadd, 1) := by decide +kernel
theorem dX11_putIn_25 : decode cX11_putIn 25 = .ok (.invokevirtual 100, 3) := by decide +kernel
theorem dX11_putIn_28 : decode cX11_putIn 28 = .ok (.return_, 1) := by decide +kernel
theorem dX11_takeOut_0 : decode cX11_takeOut 0 = .ok (.iload_n 2, 1) := by decide +kernel
theorem dX11_takeOut_1 : decode cX11_takeOut 1 = .ok (.istore_n 3, 1) := by decide +kernel
theorem dX11_takeOut_2 : decode cX11_takeOut 2 = .ok (.aload_n 0, 1) := by decide +kernel
theorem dX11_takeOut_3 : decode cX11_takeOut 3 = .ok (.getfield 7, 3) := by decide +kernel
theorem dX11_takeOut_6 : decode cX11_takeOut 6 = .ok (.iconst 0, 1) := by decide +kernel
theorem dX11_takeOut_7 : decode cX11_takeOut 7 = .ok (.iaload, 1) := by decide +kernel
theorem dX11_takeOut_8 : decode cX11_takeOut 8 = .ok (.iconst 1, 1) := by decide +kernel
theorem dX11_takeOut_9 : decode cX11_takeOut 9 = .ok (.iadd, 1) := by decide +kernel
theorem dX11_takeOut_10 : decode cX11_takeOut 10 = .ok (.istore 4, 2) := by decide +kernel
theorem dX11_takeOut_12 : decode cX11_takeOut 12 = .ok (.iload 4, 2) := by decide +kernel
theorem dX11_takeOut_14 : decode cX11_takeOut 14 = .ok (.aload_n 0, 1) := by decide +kernel
theorem dX11_takeOut_15 : decode cX11_takeOut 15 = .ok (.getfield 7, 3) := by decide +kernel
theorem dX11_takeOut_18 : decode cX11_takeOut 18 = .ok (.iconst 0, 1) := by decide +kernel
theorem dX11_takeOut_19 : decode cX11_takeOut 19 = .ok (.iaload, 1) := by decide +kernel
theorem dX11_takeOut_20 : decode cX11_takeOut 20 = .ok (.bipush 31, 2) := by decide +kernel
theorem dX11_takeOut_22 : decode cX11_takeOut 22 = .ok (.iadd, 1) := by decide +kernel
theorem dX11_takeOut_23 : decode cX11_takeOut 23 = .ok (.if_icmp .ge 55, 3) := by decide +kernel
theorem dX11_takeOut_26 : decode cX11_takeOut 26 = .ok (.aload_n 0, 1) := by decide +kernel
theorem dX11_takeOut_27 : decode cX11_takeOut 27 = .ok (.iload_n 1, 1) := by decide +kernel
theorem dX11_takeOut_28 : decode cX11_takeOut 28 = .ok (.iload 4, 2) := by decide +kernel
theorem dX11_takeOut_30 : decode cX11_takeOut 30 = .ok (.invokevirtual 97, 3) := by decide +kernel
theorem dX11_takeOut_33 : decode cX11_takeOut 33 = .ok (.iload_n 3, 1) := by decide +kernel
theorem dX11_takeOut_34 : decode cX11_takeOut 34 = .ok (.if_icmp .ge 13, 3) := by decide +kernel
theorem dX11_takeOut_37 : decode cX11_takeOut 37 = .ok (.aload_n 0, 1) := by decide +kernel
theorem dX11_takeOut_38 : decode cX11_takeOut 38 = .ok (.iload_n 1, 1) := by decide +kernel
theorem dX11_takeOut_39 : decode cX11_takeOut 39 = .ok (.iload 4, 2) := by decide +kernel
theorem dX11_takeOut_41 : decode cX11_takeOut 41 = .ok (.invokevirtual 97, 3) := by decide +kernel
theorem dX11_takeOut_44 : decode cX11_takeOut 44 = .ok (.goto 4, 3) := by decide +kernel
theorem dX11_takeOut_47 : decode cX11_takeOut 47 = .ok (.iload_n 3, 1) := by decide +kernel
theorem dX11_takeOut_48 : decode cX11_takeOut 48 = .ok (.istore 5, 2) := by decide +kernel
theorem dX11_takeOut_50 : decode cX11_takeOut 50 = .ok (.aload_n 0, 1) := by decide +kernel
theorem dX11_takeOut_51 : decode cX11_takeOut 51 = .ok (.iload_n 1, 1) := by decide +kernel
theorem dX11_takeOut_52 : decode cX11_takeOut 52 = .ok (.iload 4, 2) := by decide +kernel
theorem dX11_takeOut_54 : decode cX11_takeOut 54 = .ok (.aload_n 0, 1) := by decide +kernel
theorem dX11_takeOut_55 : decode cX11_takeOut 55 = .ok (.iload_n 1, 1) := by decide +kernel
theorem dX11_takeOut_56 : decode cX11_takeOut 56 = .ok (.iload 4, 2) := by decide +kernel
theorem dX11_takeOut_58 : decode cX11_takeOut 58 = .ok (.invokevirtual 97, 3) := by decide +kernel
theorem dX11_takeOut_61 : decode cX11_takeOut 61 = .ok (.iload 5, 2) := by decide +kernel
theorem dX11_takeOut_63 : decode cX11_takeOut 63 = .ok (.isub, 1) := by decide +kernel
theorem dX11_takeOut_64 : decode cX11_takeOut 64 = .ok (.invokevirtual 100, 3) := by decide +kernel
theorem dX11_takeOut_67 : decode cX11_takeOut 67 = .ok (.iload_n 3, 1) := by decide +kernel
theorem dX11_takeOut_68 : decode cX11_takeOut 68 = .ok (.iload 5, 2) := by decide +kernel
theorem dX11_takeOut_70 : decode cX11_takeOut 70 = .ok (.isub, 1) := by decide +kernel
theorem dX11_takeOut_71 : decode cX11_takeOut 71 = .ok (.istore_n 3, 1) := by decide +kernel
theorem dX11_takeOut_72 : decode cX11_takeOut 72 = .ok (.iinc 4 1, 3) := by decide +kernel
theorem dX11_takeOut_75 : decode cX11_takeOut 75 = .ok (.goto (-63), 3) := by decide +kernel
theorem dX11_takeOut_78 : decode cX11_takeOut 78 = .ok (.return_, 1) := by decide +kernel
theorem dX11_stock_0 : decode cX11_stock 0 = .ok (.aload_n 0, 1) := by decide +kernel
theorem dX11_stock_1 : decode cX11_stock 1 = .ok (.iload_n 1, 1) := by decide +kernel
theorem dX11_stock_2 : decode cX11_stock 2 = .ok (.invokevirtual 90, 3) := by decide +kernel
theorem dX11_stock_5 : decode cX11_stock 5 = .ok (.ifCond .ne 5, 3) := by decide +kernel
theorem dX11_stock_8 : decode cX11_stock 8 = .ok (.iconst (-1), 1) := by decide +kernel
theorem dX11_stock_9 : decode cX11_stock 9 = .ok (.ireturn, 1) := by decide +kernel
theorem dX11_stock_10 : decode cX11_stock 10 = .ok (.iload_n 2, 1) := by decide +kernel
theorem dX11_stock_11 : decode cX11_stock 11 = .ok (.iconst 1, 1) := by decide +kernel
theorem dX11_stock_12 : decode cX11_stock 12 = .ok (.sipush 20000, 3) := by decide +kernel
theorem dX11_stock_15 : decode cX11_stock 15 = .ok (.invokestatic 76, 3) := by decide +kernel
theorem dX11_stock_18 : decode cX11_stock 18 = .ok (.ifCond .ne 6, 3) := by decide +kernel
theorem dX11_stock_21 : decode cX11_stock 21 = .ok (.bipush (-2), 2) := by decide +kernel
theorem dX11_stock_23 : decode cX11_stock 23 = .ok (.ireturn, 1) := by decide +kernel
theorem dX11_stock_24 : decode cX11_stock 24 = .ok (.aload_n 0, 1) := by decide +kernel
theorem dX11_stock_25 : decode cX11_stock 25 = .ok (.iload_n 1, 1) := by decide +kernel
theorem dX11_stock_26 : decode cX11_stock 26 = .ok (.invokevirtual 103, 3) := by decide +kernel
theorem dX11_stock_29 : decode cX11_stock 29 = .ok (.iload_n 2, 1) := by decide +kernel
theorem dX11_stock_30 : decode cX11_stock 30 = .ok (.iadd, 1) := by decide +kernel
theorem dX11_stock_31 : decode cX11_stock 31 = .ok (.ldc 107, 2) := by decide +kernel
theorem dX11_stock_33 : decode cX11_stock 33 = .ok (.if_icmp .le 6, 3) := by decide +kernel
theorem dX11_stock_36 : decode cX11_stock 36 = .ok (.bipush (-5), 2) := by decide +kernel
theorem dX11_stock_38 : decode cX11_stock 38 = .ok (.ireturn, 1) := by decide +kernel
theorem dX11_stock_39 : decode cX11_stock 39 = .ok (.aload_n 0, 1) := by decide +kernel
theorem dX11_stock_40 : decode cX11_stock 40 = .ok (.invokevirtual 80, 3) := by decide +kernel
theorem dX11_stock_43 : decode cX11_stock 43 = .ok (.aload_n 0, 1) := by decide +kernel
theorem dX11_stock_44 : decode cX11_stock 44 = .ok (.iload_n 1, 1) := by decide +kernel
theorem dX11_stock_45 : decode cX11_stock 45 = .ok (.iload_n 2, 1) := by decide +kernel
theorem dX11_stock_46 : decode cX11_stock 46 = .ok (.invokevirtual 108, 3) := by decide +kernel
theorem dX11_stock_49 : decode cX11_stock 49 = .ok (.aload_n 0, 1) := by decide +kernel
theorem dX11_stock_50 : decode cX11_stock 50 = .ok (.iload_n 1, 1) := by decide +kernel
theorem dX11_stock_51 : decode cX11_stock 51 = .ok (.bipush 8, 2) := by decide +kernel
theorem dX11_stock_53 : decode cX11_stock 53 = .ok (.aload_n 0, 1) := by decide +kernel
theorem dX11_stock_54 : decode cX11_stock 54 = .ok (.iload_n 1, 1) := by decide +kernel
theorem dX11_stock_55 : decode cX11_stock 55 = .ok (.bipush 8, 2) := by decide +kernel
theorem dX11_stock_57 : decode cX11_stock 57 = .ok (.invokevirtual 87, 3) := by decide +kernel
theorem dX11_stock_60 : decode cX11_stock 60 = .ok (.iload_n 2, 1) := by decide +kernel
theorem dX11_stock_61 : decode cX11_stock 61 = .ok (.iadd, 1) := by decide +kernel
theorem dX11_stock_62 : decode cX11_stock 62 = .ok (.invokevirtual 83, 3) := by decide +kernel
theorem dX11_stock_65 : decode cX11_stock 65 = .ok (.aload_n 0, 1) := by decide +kernel
theorem dX11_stock_66 : decode cX11_stock 66 = .ok (.iload_n 1, 1) := by decide +kernel
theorem dX11_stock_67 : decode cX11_stock 67 = .ok (.invokevirtual 103, 3) := by decide +kernel
theorem dX11_stock_70 : decode cX11_stock 70 = .ok (.ireturn, 1) := by decide +kernel
theorem dX11_pass_0 : decode cX11_pass 0 = .ok (.iload_n 1, 1) := by decide +kernel
theorem dX11_pass_1 : decode cX11_pass 1 = .ok (.iconst 1, 1) := by decide +kernel
theorem dX11_pass_2 : decode cX11_pass 2 = .ok (.bipush 60, 2) := by decide +kernel
theorem dX11_pass_4 : decode cX11_pass 4 = .ok (.invokestatic 76, 3) := by decide +kernel
theorem dX11_pass_7 : decode cX11_pass 7 = .ok (.ifCond .ne 6, 3) := by decide +kernel
theorem dX11_pass_10 : decode cX11_pass 10 = .ok (.bipush (-2), 2) := by decide +kernel
theorem dX11_pass_12 : decode cX11_pass 12 = .ok (.ireturn, 1) := by decide +kernel
theorem dX11_pass_13 : decode cX11_pass 13 = .ok (.aload_n 0, 1) := by decide +kernel
theorem dX11_pass_14 : decode cX11_pass 14 = .ok (.getfield 7, 3) := by decide +kernel
theorem dX11_pass_17 : decode cX11_pass 17 = .ok (.iconst 0, 1) := by decide +kernel
theorem dX11_pass_18 : decode cX11_pass 18 = .ok (.iaload, 1) := by decide +kernel
theorem dX11_pass_19 : decode cX11_pass 19 = .ok (.iload_n 1, 1) := by decide +kernel
theorem dX11_pass_20 : decode cX11_pass 20 = .ok (.iadd, 1) := by decide +kernel
theorem dX11_pass_21 : decode cX11_pass 21 = .ok (.sipush 3000, 3) := by decide +kernel
theorem dX11_pass_24 : decode cX11_pass 24 = .ok (.if_icmp .le 6, 3) := by decide +kernel
theorem dX11_pass_27 : decode cX11_pass 27 = .ok (.bipush (-5), 2) := by decide +kernel
theorem dX11_pass_29 : decode cX11_pass 29 = .ok (.ireturn, 1) := by decide +kernel
theorem dX11_pass_30 : decode cX11_pass 30 = .ok (.aload_n 0, 1) := by decide +kernel
theorem dX11_pass_31 : decode cX11_pass 31 = .ok (.invokevirtual 80, 3) := by decide +kernel
theorem dX11_pass_34 : decode cX11_pass 34 = .ok (.iconst 0, 1) := by decide +kernel
theorem dX11_pass_35 : decode cX11_pass 35 = .ok (.istore_n 2, 1) := by decide +kernel
theorem dX11_pass_36 : decode cX11_pass 36 = .ok (.iconst 0, 1) := by decide +kernel
theorem dX11_pass_37 : decode cX11_pass 37 = .ok (.istore_n 3, 1) := by decide +kernel
theorem dX11_pass_38 : decode cX11_pass 38 = .ok (.iload_n 3, 1) := by decide +kernel
theorem dX11_pass_39 : decode cX11_pass 39 = .ok (.iload_n 1, 1) := by decide +kernel
theorem dX11_pass_40 : decode cX11_pass 40 = .ok (.if_icmp .ge 90, 3) := by decide +kernel
theorem dX11_pass_43 : decode cX11_pass 43 = .ok (.aload_n 0, 1) := by decide +kernel
theorem dX11_pass_44 : decode cX11_pass 44 = .ok (.getfield 7, 3) := by decide +kernel
theorem dX11_pass_47 : decode cX11_pass 47 = .ok (.iconst 0, 1) := by decide +kernel
theorem dX11_pass_48 : decode cX11_pass 48 = .ok (.dup2, 1) := by decide +kernel
theorem dX11_pass_49 : decode cX11_pass 49 = .ok (.iaload, 1) := by decide +kernel
theorem dX11_pass_50 : decode cX11_pass 50 = .ok (.iconst 1, 1) := by decide +kernel
theorem dX11_pass_51 : decode cX11_pass 51 = .ok (.iadd, 1) := by decide +kernel
theorem dX11_pass_52 : decode cX11_pass 52 = .ok (.iastore, 1) := by decide +kernel
theorem dX11_pass_53 : decode cX11_pass 53 = .ok (.iconst 0, 1) := by decide +kernel
theorem dX11_pass_54 : decode cX11_pass 54 = .ok (.istore 4, 2) := by decide +kernel
theorem dX11_pass_56 : decode cX11_pass 56 = .ok (.iload 4, 2) := by decide +kernel
theorem dX11_pass_58 : decode cX11_pass 58 = .ok (.aload_n 0, 1) := by decide +kernel
theorem dX11_pass_59 : decode cX11_pass 59 = .ok (.getfield 7, 3) := by decide +kernel
theorem dX11_pass_62 : decode cX11_pass 62 = .ok (.iconst 1, 1) := by decide +kernel
theorem dX11_pass_63 : decode cX11_pass 63 = .ok (.iaload, 1) := by decide +kernel
theorem dX11_pass_64 : decode cX11_pass 64 = .ok (.if_icmp .ge 60, 3) := by decide +kernel
theorem dX11_pass_67 : decode cX11_pass 67 = .ok (.aload_n 0, 1) := by decide +kernel
theorem dX11_pass_68 : decode cX11_pass 68 = .ok (.iload 4, 2) := by decide +kernel
theorem dX11_pass_70 : decode cX11_pass 70 = .ok (.aload_n 0, 1) := by decide +kernel
theorem dX11_pass_71 : decode cX11_pass 71 = .ok (.getfield 7, 3) := by decide +kernel
theorem dX11_pass_74 : decode cX11_pass 74 = .ok (.iconst 0, 1) := by decide +kernel
theorem dX11_pass_75 : decode cX11_pass 75 = .ok (.iaload, 1) := by decide +kernel
theorem dX11_pass_76 : decode cX11_pass 76 = .ok (.invokevirtual 97, 3) := by decide +kernel
theorem dX11_pass_79 : decode cX11_pass 79 = .ok (.istore 5, 2) := by decide +kernel
theorem dX11_pass_81 : decode cX11_pass 81 = .ok (.aload_n 0, 1) := by decide +kernel
theorem dX11_pass_82 : decode cX11_pass 82 = .ok (.iload 4, 2) := by decide +kernel
theorem dX11_pass_84 : decode cX11_pass 84 = .ok (.aload_n 0, 1) := by decide +kernel
theorem dX11_pass_85 : decode cX11_pass 85 = .ok (.getfield 7, 3) := by decide +kernel
theorem dX11_pass_88 : decode cX11_pass 88 = .ok (.iconst 0, 1) := by decide +kernel
theorem dX11_pass_89 : decode cX11_pass 89 = .ok (.iaload, 1) := by decide +kernel
theorem dX11_pass_90 : decode cX11_pass 90 = .ok (.iconst 0, 1) := by decide +kernel
theorem dX11_pass_91 : decode cX11_pass 91 = .ok (.invokevirtual 100, 3) := by decide +kernel
theorem dX11_pass_94 : decode cX11_pass 94 = .ok (.aload_n 0, 1) := by decide +kernel
theorem dX11_pass_95 : decode cX11_pass 95 = .ok (.iload 4, 2) := by decide +kernel
theorem dX11_pass_97 : decode cX11_pass 97 = .ok (.bipush 7, 2) := by decide +kernel
theorem dX11_pass_99 : decode cX11_pass 99 = .ok (.aload_n 0, 1) := by decide +kernel
theorem dX11_pass_100 : decode cX11_pass 100 = .ok (.iload 4, 2) := by decide +kernel
theorem dX11_pass_102 : decode cX11_pass 102 = .ok (.bipush 7, 2) := by decide +kernel
theorem dX11_pass_104 : decode cX11_pass 104 = .ok (.invokevirtual 87, 3) := by decide +kernel
theorem dX11_pass_107 : decode cX11_pass 107 = .ok (.iload 5, 2) := by decide +kernel
theorem dX11_pass_109 : decode cX11_pass 109 = .ok (.iadd, 1) := by decide +kernel
theorem dX11_pass_110 : decode cX11_pass 110 = .ok (.invokevirtual 83, 3) := by decide +kernel
theorem dX11_pass_113 : decode cX11_pass 113 = .ok (.iload_n 2, 1) := by decide +kernel
theorem dX11_pass_114 : decode cX11_pass 114 = .ok (.iload 5, 2) := by decide +kernel
theorem dX11_pass_116 : decode cX11_pass 116 = .ok (.iadd, 1) := by decide +kernel
theorem dX11_pass_117 : decode cX11_pass 117 = .ok (.istore_n 2, 1) := by decide +kernel
theorem dX11_pass_118 : decode cX11_pass 118 = .ok (.iinc 4 1, 3) := by decide +kernel
theorem dX11_pass_121 : decode cX11_pass 121 = .ok (.goto (-65), 3) := by decide +kernel
theorem dX11_pass_124 : decode cX11_pass 124 = .ok (.iinc 3 1, 3) := by decide +kernel
theorem dX11_pass_127 : decode cX11_pass 127 = .ok (.goto (-89), 3) := by decide +kernel
theorem dX11_pass_130 : decode cX11_pass 130 = .ok (.iload_n 2, 1) := by decide +kernel
theorem dX11_pass_131 : decode cX11_pass 131 = .ok (.ireturn, 1) := by decide +kernel
theorem dX11_byRecipes_0 : decode cX11_byRecipes 0 = .ok (.iconst 0, 1) := by decide +kernel
theorem dX11_byRecipes_1 : decode cX11_byRecipes 1 = .ok (.istore_n 2, 1) := by decide +kernel
theorem dX11_byRecipes_2 : decode cX11_byRecipes 2 = .ok (.iconst 0, 1) := by decide +kernel
theorem dX11_byRecipes_3 : decode cX11_byRecipes 3 = .ok (.istore_n 3, 1) := by decide +kernel
theorem dX11_byRecipes_4 : decode cX11_byRecipes 4 = .ok (.iload_n 3, 1) := by decide +kernel
theorem dX11_byRecipes_5 : decode cX11_byRecipes 5 = .ok (.aload_n 0, 1) := by decide +kernel
theorem dX11_byRecipes_6 : decode cX11_byRecipes 6 = .ok (.getfield 7, 3) := by decide +kernel
theorem dX11_byRecipes_9 : decode cX11_byRecipes 9 = .ok (.iconst 2, 1) := by decide +kernel
theorem dX11_byRecipes_10 : decode cX11_byRecipes 10 = .ok (.iaload, 1) := by decide +kernel
theorem dX11_byRecipes_11 : decode cX11_byRecipes 11 = .ok (.if_icmp .ge 36, 3) := by decide +kernel
theorem dX11_byRecipes_14 : decode cX11_byRecipes 14 = .ok (.iload_n 2, 1) := by decide +kernel
theorem dX11_byRecipes_15 : decode cX11_byRecipes 15 = .ok (.aload_n 0, 1) := by decide +kernel
theorem dX11_byRecipes_16 : decode cX11_byRecipes 16 = .ok (.iload_n 3, 1) := by decide +kernel
theorem dX11_byRecipes_17 : decode cX11_byRecipes 17 = .ok (.iconst 3, 1) := by decide +kernel
theorem dX11_byRecipes_18 : decode cX11_byRecipes 18 = .ok (.iload_n 1, 1) := by decide +kernel
theorem dX11_byRecipes_19 : decode cX11_byRecipes 19 = .ok (.iadd, 1) := by decide +kernel
theorem dX11_byRecipes_20 : decode cX11_byRecipes 20 = .ok (.invokevirtual 68, 3) := by decide +kernel
theorem dX11_byRecipes_23 : decode cX11_byRecipes 23 = .ok (.aload_n 0, 1) := by decide +kernel
theorem dX11_byRecipes_24 : decode cX11_byRecipes 24 = .ok (.iload_n 3, 1) := by decide +kernel
theorem dX11_byRecipes_25 : decode cX11_byRecipes 25 = .ok (.iconst 2, 1) := by decide +kernel
theorem dX11_byRecipes_26 : decode cX11_byRecipes 26 = .ok (.invokevirtual 68, 3) := by decide +kernel
theorem dX11_byRecipes_29 : decode cX11_byRecipes 29 = .ok (.imul, 1) := by decide +kernel
theorem dX11_byRecipes_30 : decode cX11_byRecipes 30 = .ok (.aload_n 0, 1) := by decide +kernel
theorem dX11_byRecipes_31 : decode cX11_byRecipes 31 = .ok (.iload_n 3, 1) := by decide +kernel
theorem dX11_byRecipes_32 : decode cX11_byRecipes 32 = .ok (.iconst 0, 1) := by decide +kernel
theorem dX11_byRecipes_33 : decode cX11_byRecipes 33 = .ok (.invokevirtual 68, 3) := by decide +kernel
theorem dX11_byRecipes_36 : decode cX11_byRecipes 36 = .ok (.invokestatic 112, 3) := by decide +kernel
theorem dX11_byRecipes_39 : decode cX11_byRecipes 39 = .ok (.iadd, 1) := by decide +kernel
theorem dX11_byRecipes_40 : decode cX11_byRecipes 40 = .ok (.istore_n 2, 1) := by decide +kernel
theorem dX11_byRecipes_41 : decode cX11_byRecipes 41 = .ok (.iinc 3 1, 3) := by decide +kernel
theorem dX11_byRecipes_44 : decode cX11_byRecipes 44 = .ok (.goto (-40), 3) := by decide +kernel
theorem dX11_byRecipes_47 : decode cX11_byRecipes 47 = .ok (.iload_n 2, 1) := by decide +kernel
theorem dX11_byRecipes_48 : decode cX11_byRecipes 48 = .ok (.ireturn, 1) := by decide +kernel
theorem dX11_consider_0 : decode cX11_consider 0 = .ok (.iload_n 2, 1) := by decide +kernel
theorem dX11_consider_1 : decode cX11_consider 1 = .ok (.aload_n 0, 1) := by decide +kernel
theorem dX11_consider_2 : decode cX11_consider 2 = .ok (.iload_n 1, 1) := by decide +kernel
theorem dX11_consider_3 : decode cX11_consider 3 = .ok (.iconst 0, 1) := by decide +kernel
theorem dX11_consider_4 : decode cX11_consider 4 = .ok (.invokevirtual 115, 3) := by decide +kernel
theorem dX11_consider_7 : decode cX11_consider 7 = .ok (.imul, 1) := by decide +kernel
theorem dX11_consider_8 : decode cX11_consider 8 = .ok (.iload_n 3, 1) := by decide +kernel
theorem dX11_consider_9 : decode cX11_consider 9 = .ok (.aload_n 0, 1) := by decide +kernel
theorem dX11_consider_10 : decode cX11_consider 10 = .ok (.iload_n 1, 1) := by decide +kernel
theorem dX11_consider_11 : decode cX11_consider 11 = .ok (.iconst 1, 1) := by decide +kernel
theorem dX11_consider_12 : decode cX11_consider 12 = .ok (.invokevirtual 115, 3) := by decide +kernel
theorem dX11_consider_15 : decode cX11_consider 15 = .ok (.imul, 1) := by decide +kernel
theorem dX11_consider_16 : decode cX11_consider 16 = .ok (.iadd, 1) := by decide +kernel
theorem dX11_consider_17 : decode cX11_consider 17 = .ok (.iload 4, 2) := by decide +kernel
theorem dX11_consider_19 : decode cX11_consider 19 = .ok (.aload_n 0, 1) := by decide +kernel
theorem dX11_consider_20 : decode cX11_consider 20 = .ok (.iload_n 1, 1) := by decide +kernel
theorem dX11_consider_21 : decode cX11_consider 21 = .ok (.iconst 2, 1) := by decide +kernel
theorem dX11_consider_22 : decode cX11_consider 22 = .ok (.invokevirtual 115, 3) := by decide +kernel
theorem dX11_consider_25 : decode cX11_consider 25 = .ok (.imul, 1) := by decide +kernel
theorem dX11_consider_26 : decode cX11_consider 26 = .ok (.iadd, 1) := by decide +kernel
theorem dX11_consider_27 : decode cX11_consider 27 = .ok (.istore 5, 2) := by decide +kernel
theorem dX11_consider_29 : decode cX11_consider 29 = .ok (.iload_n 2, 1) := by decide +kernel
theorem dX11_consider_30 : decode cX11_consider 30 = .ok (.aload_n 0, 1) := by decide +kernel
theorem dX11_consider_31 : decode cX11_consider 31 = .ok (.iload_n 1, 1) := by decide +kernel
theorem dX11_consider_32 : decode cX11_consider 32 = .ok (.iconst 0, 1) := by decide +kernel
theorem dX11_consider_33 : decode cX11_consider 33 = .ok (.invokevirtual 94, 3) := by decide +kernel
theorem dX11_consider_36 : decode cX11_consider 36 = .ok (.imul, 1) := by decide +kernel
theorem dX11_consider_37 : decode cX11_consider 37 = .ok (.iload_n 3, 1) := by decide +kernel
theorem dX11_consider_38 : decode cX11_consider 38 = .ok (.aload_n 0, 1) := by decide +kernel
theorem dX11_consider_39 : decode cX11_consider 39 = .ok (.iload_n 1, 1) := by decide +kernel
theorem dX11_consider_40 : decode cX11_consider 40 = .ok (.iconst 1, 1) := by decide +kernel
theorem dX11_consider_41 : decode cX11_consider 41 = .ok (.invokevirtual 94, 3) := by decide +kernel
theorem dX11_consider_44 : decode cX11_consider 44 = .ok (.imul, 1) := by decide +kernel
theorem dX11_consider_45 : decode cX11_consider 45 = .ok (.iadd, 1) := by decide +kernel
theorem dX11_consider_46 : decode cX11_consider 46 = .ok (.iload 4, 2) := by decide +kernel
theorem dX11_consider_48 : decode cX11_consider 48 = .ok (.aload_n 0, 1) := by decide +kernel
theorem dX11_consider_49 : decode cX11_consider 49 = .ok (.iload_n 1, 1) := by decide +kernel
theorem dX11_consider_50 : decode cX11_consider 50 = .ok (.iconst 2, 1) := by decide +kernel
theorem dX11_consider_51 : decode cX11_consider 51 = .ok (.invokevirtual 94, 3) := by decide +kernel
theorem dX11_consider_54 : decode cX11_consider 54 = .ok (.imul, 1) := by decide +kernel
theorem dX11_consider_55 : decode cX11_consider 55 = .ok (.iadd, 1) := by decide +kernel
theorem dX11_consider_56 : decode cX11_consider 56 = .ok (.istore 6, 2) := by decide +kernel
theorem dX11_consider_58 : decode cX11_consider 58 = .ok (.iload_n 2, 1) := by decide +kernel
theorem dX11_consider_59 : decode cX11_consider 59 = .ok (.iload_n 3, 1) := by decide +kernel
theorem dX11_consider_60 : decode cX11_consider 60 = .ok (.iadd, 1) := by decide +kernel
theorem dX11_consider_61 : decode cX11_consider 61 = .ok (.iload 4, 2) := by decide +kernel
theorem dX11_consider_63 : decode cX11_consider 63 = .ok (.iadd, 1) := by decide +kernel
theorem dX11_consider_64 : decode cX11_consider 64 = .ok (.istore 7, 2) := by decide +kernel
theorem dX11_consider_66 : decode cX11_consider 66 = .ok (.iload 5, 2) := by decide +kernel
theorem dX11_consider_68 : decode cX11_consider 68 = .ok (.aload_n 0, 1) := by decide +kernel
theorem dX11_consider_69 : decode cX11_consider 69 = .ok (.getfield 118, 3) := by decide +kernel
theorem dX11_consider_72 : decode cX11_consider 72 = .ok (.if_icmp .lt 39, 3) := by decide +kernel
theorem dX11_consider_75 : decode cX11_consider 75 = .ok (.iload 5, 2) := by decide +kernel
theorem dX11_consider_77 : decode cX11_consider 77 = .ok (.aload_n 0, 1) := by decide +kernel
theorem dX11_consider_78 : decode cX11_consider 78 = .ok (.getfield 118, 3) := by decide +kernel
theorem dX11_consider_81 : decode cX11_consider 81 = .ok (.if_icmp .ne 34, 3) := by decide +kernel
theorem dX11_consider_84 : decode cX11_consider 84 = .ok (.iload 6, 2) := by decide +kernel
theorem dX11_consider_86 : decode cX11_consider 86 = .ok (.aload_n 0, 1) := by decide +kernel
theorem dX11_consider_87 : decode cX11_consider 87 = .ok (.getfield 121, 3) := by decide +kernel
theorem dX11_consider_90 : decode cX11_consider 90 = .ok (.if_icmp .lt 21, 3) := by decide +kernel
theorem dX11_consider_93 : decode cX11_consider 93 = .ok (.iload 6, 2) := by decide +kernel
theorem dX11_consider_95 : decode cX11_consider 95 = .ok (.aload_n 0, 1) := by decide +kernel
theorem dX11_consider_96 : decode cX11_consider 96 = .ok (.getfield 121, 3) := by decide +kernel
theorem dX11_consider_99 : decode cX11_consider 99 = .ok (.if_icmp .ne 16, 3) := by decide +kernel
theorem dX11_consider_102 : decode cX11_consider 102 = .ok (.iload 7, 2) := by decide +kernel
theorem dX11_consider_104 : decode cX11_consider 104 = .ok (.aload_n 0, 1) := by decide +kernel
theorem dX11_consider_105 : decode cX11_consider 105 = .ok (.getfield 124, 3) := by decide +kernel
theorem dX11_consider_108 : decode cX11_consider 108 = .ok (.if_icmp .ge 7, 3) := by decide +kernel
theorem dX11_consider_111 : decode cX11_consider 111 = .ok (.iconst 1, 1) := by decide +kernel
theorem dX11_consider_112 : decode cX11_consider 112 = .ok (.goto 4, 3) := by decide +kernel
theorem dX11_consider_115 : decode cX11_consider 115 = .ok (.iconst 0, 1) := by decide +kernel
theorem dX11_consider_116 : decode cX11_consider 116 = .ok (.istore 8, 2) := by decide +kernel
theorem dX11_consider_118 : decode cX11_consider 118 = .ok (.iload 8, 2) := by decide +kernel
theorem dX11_consider_120 : decode cX11_consider 120 = .ok (.ifCond .eq 53, 3) := by decide +kernel
theorem dX11_consider_123 : decode cX11_consider 123 = .ok (.aload_n 0, 1) := by decide +kernel
theorem dX11_consider_124 : decode cX11_consider 124 = .ok (.iload 5, 2) := by decide +kernel
theorem dX11_consider_126 : decode cX11_consider 126 = .ok (.putfield 118, 3) := by decide +kernel
theorem dX11_consider_129 : decode cX11_consider 129 = .ok (.aload_n 0, 1) := by decide +kernel
theorem dX11_consider_130 : decode cX11_consider 130 = .ok (.iload 6, 2) := by decide +kernel
theorem dX11_consider_132 : decode cX11_consider 132 = .ok (.putfield 121, 3) := by decide +kernel
theorem dX11_consider_135 : decode cX11_consider 135 = .ok (.aload_n 0, 1) := by decide +kernel
theorem dX11_consider_136 : decode cX11_consider 136 = .ok (.iload 7, 2) := by decide +kernel
theorem dX11_consider_138 : decode cX11_consider 138 = .ok (.putfield 124, 3) := by decide +kernel
theorem dX11_consider_141 : decode cX11_consider 141 = .ok (.aload_n 0, 1) := by decide +kernel
theorem dX11_consider_142 : decode cX11_consider 142 = .ok (.getfield 50, 3) := by decide +kernel
theorem dX11_consider_145 : decode cX11_consider 145 = .ok (.iconst 3, 1) := by decide +kernel
theorem dX11_consider_146 : decode cX11_consider 146 = .ok (.iload_n 1, 1) := by decide +kernel
theorem dX11_consider_147 : decode cX11_consider 147 = .ok (.imul, 1) := by decide +kernel
theorem dX11_consider_148 : decode cX11_consider 148 = .ok (.iload_n 2, 1) := by decide +kernel
theorem dX11_consider_149 : decode cX11_consider 149 = .ok (.iastore, 1) := by decide +kernel
theorem dX11_consider_150 : decode cX11_consider 150 = .ok (.aload_n 0, 1) := by decide +kernel
theorem dX11_consider_151 : decode cX11_consider 151 = .ok (.getfield 50, 3) := by decide +kernel
theorem dX11_consider_154 : decode cX11_consider 154 = .ok (.iconst 3, 1) := by decide +kernel
theorem dX11_consider_155 : decode cX11_consider 155 = .ok (.iload_n 1, 1) := by decide +kernel
theorem dX11_consider_156 : decode cX11_consider 156 = .ok (.imul, 1) := by decide +kernel
theorem dX11_consider_157 : decode cX11_consider 157 = .ok (.iconst 1, 1) := by decide +kernel
theorem dX11_consider_158 : decode cX11_consider 158 = .ok (.iadd, 1) := by decide +kernel
theorem dX11_consider_159 : decode cX11_consider 159 = .ok (.iload_n 3, 1) := by decide +kernel
theorem dX11_consider_160 : decode cX11_consider 160 = .ok (.iastore, 1) := by decide +kernel
theorem dX11_consider_161 : decode cX11_consider 161 = .ok (.aload_n 0, 1) := by decide +kernel
theorem dX11_consider_162 : decode cX11_consider 162 = .ok (.getfield 50, 3) := by decide +kernel
theorem dX11_consider_165 : decode cX11_consider 165 = .ok (.iconst 3, 1) := by decide +kernel
theorem dX11_consider_166 : decode cX11_consider 166 = .ok (.iload_n 1, 1) := by decide +kernel
theorem dX11_consider_167 : decode cX11_consider 167 = .ok (.imul, 1) := by decide +kernel
theorem dX11_consider_168 : decode cX11_consider 168 = .ok (.iconst 2, 1) := by decide +kernel
theorem dX11_consider_169 : decode cX11_consider 169 = .ok (.iadd, 1) := by decide +kernel
theorem dX11_consider_170 : decode cX11_consider 170 = .ok (.iload 4, 2) := by decide +kernel
theorem dX11_consider_172 : decode cX11_consider 172 = .ok (.iastore, 1) := by decide +kernel
theorem dX11_consider_173 : decode cX11_consider 173 = .ok (.return_, 1) := by decide +kernel
theorem dX11_stillNeeded_0 : decode cX11_stillNeeded 0 = .ok (.iload_n 0, 1) := by decide +kernel
theorem dX11_stillNeeded_1 : decode cX11_stillNeeded 1 = .ok (.ifCond .le 7, 3) := by decide +kernel
theorem dX11_stillNeeded_4 : decode cX11_stillNeeded 4 = .ok (.iload_n 0, 1) := by decide +kernel
theorem dX11_stillNeeded_5 : decode cX11_stillNeeded 5 = .ok (.goto 4, 3) := by decide +kernel
theorem dX11_stillNeeded_8 : decode cX11_stillNeeded 8 = .ok (.iconst 0, 1) := by decide +kernel
theorem dX11_stillNeeded_9 : decode cX11_stillNeeded 9 = .ok (.ireturn, 1) := by decide +kernel
theorem dX11_findTins_0 : decode cX11_findTins 0 = .ok (.aload_n 0, 1) := by decide +kernel
theorem dX11_findTins_1 : decode cX11_findTins 1 = .ok (.iload_n 1, 1) := by decide +kernel
theorem dX11_findTins_2 : decode cX11_findTins 2 = .ok (.iconst 2, 1) := by decide +kernel
theorem dX11_findTins_3 : decode cX11_findTins 3 = .ok (.invokevirtual 87, 3) := by decide +kernel
theorem dX11_findTins_6 : decode cX11_findTins 6 = .ok (.istore_n 3, 1) := by decide +kernel
theorem dX11_findTins_7 : decode cX11_findTins 7 = .ok (.iload_n 2, 1) := by decide +kernel
theorem dX11_findTins_8 : decode cX11_findTins 8 = .ok (.aload_n 0, 1) := by decide +kernel
theorem dX11_findTins_9 : decode cX11_findTins 9 = .ok (.iload_n 1, 1) := by decide +kernel
theorem dX11_findTins_10 : decode cX11_findTins 10 = .ok (.iconst 0, 1) := by decide +kernel
theorem dX11_findTins_11 : decode cX11_findTins 11 = .ok (.invokevirtual 94, 3) := by decide +kernel
theorem dX11_findTins_14 : decode cX11_findTins 14 = .ok (.invokestatic 112, 3) := by decide +kernel
theorem dX11_findTins_17 : decode cX11_findTins 17 = .ok (.istore 4, 2) := by decide +kernel
theorem dX11_findTins_19 : decode cX11_findTins 19 = .ok (.aload_n 0, 1) := by decide +kernel
theorem dX11_findTins_20 : decode cX11_findTins 20 = .ok (.ldc 127, 2) := by decide +kernel
theorem dX11_findTins_22 : decode cX11_findTins 22 = .ok (.putfield 118, 3) := by decide +kernel
theorem dX11_findTins_25 : decode cX11_findTins 25 = .ok (.iload_n 3, 1) := by decide +kernel
theorem dX11_findTins_26 : decode cX11_findTins 26 = .ok (.iconst 1, 1) := by decide +kernel
theorem dX11_findTins_27 : decode cX11_findTins 27 = .ok (.if_icmp .ne 8, 3) := by decide +kernel
theorem dX11_findTins_30 : decode cX11_findTins 30 = .ok (.iload 4, 2) := by decide +kernel
theorem dX11_findTins_32 : decode cX11_findTins 32 = .ok (.goto 4, 3) := by decide +kernel
theorem dX11_findTins_35 : decode cX11_findTins 35 = .ok (.iconst 0, 1) := by decide +kernel
theorem dX11_findTins_36 : decode cX11_findTins 36 = .ok (.istore 5, 2) := by decide +kernel
theorem dX11_findTins_38 : decode cX11_findTins 38 = .ok (.iload 5, 2) := by decide +kernel
theorem dX11_findTins_40 : decode cX11_findTins 40 = .ok (.iload 4, 2) := by decide +kernel
theorem dX11_findTins_42 : decode cX11_findTins 42 = .ok (.if_icmp .gt 144, 3) := by decide +kernel
theorem dX11_findTins_45 : decode cX11_findTins 45 = .ok (.iload 5, 2) := by decide +kernel
theorem dX11_findTins_47 : decode cX11_findTins 47 = .ok (.aload_n 0, 1) := by decide +kernel
theorem dX11_findTins_48 : decode cX11_findTins 48 = .ok (.iload_n 1, 1) := by decide +kernel
theorem dX11_findTins_49 : decode cX11_findTins 49 = .ok (.iconst 0, 1) := by decide +kernel
theorem dX11_findTins_50 : decode cX11_findTins 50 = .ok (.invokevirtual 115, 3) := by decide +kernel
theorem dX11_findTins_53 : decode cX11_findTins 53 = .ok (.imul, 1) := by decide +kernel
theorem dX11_findTins_54 : decode cX11_findTins 54 = .ok (.aload_n 0, 1) := by decide +kernel
theorem dX11_findTins_55 : decode cX11_findTins 55 = .ok (.getfield 118, 3) := by decide +kernel
theorem dX11_findTins_58 : decode cX11_findTins 58 = .ok (.if_icmp .gt 128, 3) := by decide +kernel
theorem dX11_findTins_61 : decode cX11_findTins 61 = .ok (.iload_n 2, 1) := by decide +kernel
theorem dX11_findTins_62 : decode cX11_findTins 62 = .ok (.iload 5, 2) := by decide +kernel
theorem dX11_findTins_64 : decode cX11_findTins 64 = .ok (.aload_n 0, 1) := by decide +kernel
theorem dX11_findTins_65 : decode cX11_findTins 65 = .ok (.iload_n 1, 1) := by decide +kernel
theorem dX11_findTins_66 : decode cX11_findTins 66 = .ok (.iconst 0, 1) := by decide +kernel
theorem dX11_findTins_67 : decode cX11_findTins 67 = .ok (.invokevirtual 94, 3) := by decide +kernel
theorem dX11_findTins_70 : decode cX11_findTins 70 = .ok (.imul, 1) := by decide +kernel
theorem dX11_findTins_71 : decode cX11_findTins 71 = .ok (.isub, 1) := by decide +kernel
theorem dX11_findTins_72 : decode cX11_findTins 72 = .ok (.invokestatic 128, 3) := by decide +kernel
theorem dX11_findTins_75 : decode cX11_findTins 75 = .ok (.istore 6, 2) := by decide +kernel
theorem dX11_findTins_77 : decode cX11_findTins 77 = .ok (.iload_n 3, 1) := by decide +kernel
theorem dX11_findTins_78 : decode cX11_findTins 78 = .ok (.iconst 1, 1) := by decide +kernel
theorem dX11_findTins_79 : decode cX11_findTins 79 = .ok (.if_icmp .ne 7, 3) := by decide +kernel
theorem dX11_findTins_82 : decode cX11_findTins 82 = .ok (.iconst 0, 1) := by decide +kernel
theorem dX11_findTins_83 : decode cX11_findTins 83 = .ok (.goto 14, 3) := by decide +kernel
theorem dX11_findTins_86 : decode cX11_findTins 86 = .ok (.iload 6, 2) := by decide +kernel
theorem dX11_findTins_88 : decode cX11_findTins 88 = .ok (.aload_n 0, 1) := by decide +kernel
theorem dX11_findTins_89 : decode cX11_findTins 89 = .ok (.iload_n 1, 1) := by decide +kernel
theorem dX11_findTins_90 : decode cX11_findTins 90 = .ok (.iconst 1, 1) := by decide +kernel
theorem dX11_findTins_91 : decode cX11_findTins 91 = .ok (.invokevirtual 94, 3) := by decide +kernel
theorem dX11_findTins_94 : decode cX11_findTins 94 = .ok (.invokestatic 112, 3) := by decide +kernel
theorem dX11_findTins_97 : decode cX11_findTins 97 = .ok (.istore 7, 2) := by decide +kernel
theorem dX11_findTins_99 : decode cX11_findTins 99 = .ok (.iload_n 3, 1) := by decide +kernel
theorem dX11_findTins_100 : decode cX11_findTins 100 = .ok (.iconst 2, 1) := by decide +kernel
theorem dX11_findTins_101 : decode cX11_findTins 101 = .ok (.if_icmp .ne 8, 3) := by decide +kernel
theorem dX11_findTins_104 : decode cX11_findTins 104 = .ok (.iload 7, 2) := by decide +kernel
theorem dX11_findTins_106 : decode cX11_findTins 106 = .ok (.goto 4, 3) := by decide +kernel
theorem dX11_findTins_109 : decode cX11_findTins 109 = .ok (.iconst 0, 1) := by decide +kernel
theorem dX11_findTins_110 : decode cX11_findTins 110 = .ok (.istore 8, 2) := by decide +kernel
theorem dX11_findTins_112 : decode cX11_findTins 112 = .ok (.iload 8, 2) := by decide +kernel
theorem dX11_findTins_114 : decode cX11_findTins 114 = .ok (.iload 7, 2) := by decide +kernel
theorem dX11_findTins_116 : decode cX11_findTins 116 = .ok (.if_icmp .gt 64, 3) := by decide +kernel
theorem dX11_findTins_119 : decode cX11_findTins 119 = .ok (.iload_n 3, 1) := by decide +kernel
theorem dX11_findTins_120 : decode cX11_findTins 120 = .ok (.iconst 3, 1) := by decide +kernel
theorem dX11_findTins_121 : decode cX11_findTins 121 = .ok (.if_icmp .ge 7, 3) := by decide +kernel
theorem dX11_findTins_124 : decode cX11_findTins 124 = .ok (.iconst 0, 1) := by decide +kernel
theorem dX11_findTins_125 : decode cX11_findTins 125 = .ok (.goto 18, 3) := by decide +kernel
theorem dX11_findTins_128 : decode cX11_findTins 128 = .ok (.iload 6, 2) := by decide +kernel
theorem dX11_findTins_130 : decode cX11_findTins 130 = .ok (.iload 8, 2) := by decide +kernel
theorem dX11_findTins_132 : decode cX11_findTins 132 = .ok (.aload_n 0, 1) := by decide +kernel
theorem dX11_findTins_133 : decode cX11_findTins 133 = .ok (.iload_n 1, 1) := by decide +kernel
theorem dX11_findTins_134 : decode cX11_findTins 134 = .ok (.iconst 1, 1) := by decide +kernel
theorem dX11_findTins_135 : decode cX11_findTins 135 = .ok (.invokevirtual 94, 3) := by decide +kernel
theorem dX11_findTins_138 : decode cX11_findTins 138 = .ok (.imul, 1) := by decide +kernel
theorem dX11_findTins_139 : decode cX11_findTins 139 = .ok (.isub, 1) := by decide +kernel
theorem dX11_findTins_140 : decode cX11_findTins 140 = .ok (.invokestatic 128, 3) := by decide +kernel
theorem dX11_findTins_143 : decode cX11_findTins 143 = .ok (.istore 9, 2) := by decide +kernel
theorem dX11_findTins_145 : decode cX11_findTins 145 = .ok (.aload_n 0, 1) := by decide +kernel
theorem dX11_findTins_146 : decode cX11_findTins 146 = .ok (.iload_n 1, 1) := by decide +kernel
theorem dX11_findTins_147 : decode cX11_findTins 147 = .ok (.iload 5, 2) := by decide +kernel
theorem dX11_findTins_149 : decode cX11_findTins 149 = .ok (.iload 8, 2) := by decide +kernel
theorem dX11_findTins_151 : decode cX11_findTins 151 = .ok (.iload_n 3, 1) := by decide +kernel
theorem dX11_findTins_152 : decode cX11_findTins 152 = .ok (.iconst 3, 1) := by decide +kernel
theorem dX11_findTins_153 : decode cX11_findTins 153 = .ok (.if_icmp .ge 7, 3) := by decide +kernel
theorem dX11_findTins_156 : decode cX11_findTins 156 = .ok (.iconst 0, 1) := by decide +kernel
theorem dX11_findTins_157 : decode cX11_findTins 157 = .ok (.goto 14, 3) := by decide +kernel
theorem dX11_findTins_160 : decode cX11_findTins 160 = .ok (.iload 9, 2) := by decide +kernel
theorem dX11_findTins_162 : decode cX11_findTins 162 = .ok (.aload_n 0, 1) := by decide +kernel
theorem dX11_findTins_163 : decode cX11_findTins 163 = .ok (.iload_n 1, 1) := by decide +kernel
theorem dX11_findTins_164 : decode cX11_findTins 164 = .ok (.iconst 2, 1) := by decide +kernel
theorem dX11_findTins_165 : decode cX11_findTins 165 = .ok (.invokevirtual 94, 3) := by decide +kernel
theorem dX11_findTins_168 : decode cX11_findTins 168 = .ok (.invokestatic 112, 3) := by decide +kernel
theorem dX11_findTins_171 : decode cX11_findTins 171 = .ok (.invokevirtual 131, 3) := by decide +kernel
theorem dX11_findTins_174 : decode cX11_findTins 174 = .ok (.iinc 8 1, 3) := by decide +kernel
theorem dX11_findTins_177 : decode cX11_findTins 177 = .ok (.goto (-65), 3) := by decide +kernel
theorem dX11_findTins_180 : decode cX11_findTins 180 = .ok (.iinc 5 1, 3) := by decide +kernel
theorem dX11_findTins_183 : decode cX11_findTins 183 = .ok (.goto (-145), 3) := by decide +kernel
theorem dX11_findTins_186 : decode cX11_findTins 186 = .ok (.return_, 1) := by decide +kernel
theorem dX11_buy_0 : decode cX11_buy 0 = .ok (.aload_n 0, 1) := by decide +kernel
theorem dX11_buy_1 : decode cX11_buy 1 = .ok (.iload_n 1, 1) := by decide +kernel
theorem dX11_buy_2 : decode cX11_buy 2 = .ok (.iload_n 2, 1) := by decide +kernel
theorem dX11_buy_3 : decode cX11_buy 3 = .ok (.invokevirtual 135, 3) := by decide +kernel
theorem dX11_buy_6 : decode cX11_buy 6 = .ok (.aload_n 0, 1) := by decide +kernel
theorem dX11_buy_7 : decode cX11_buy 7 = .ok (.getfield 47, 3) := by decide +kernel
theorem dX11_buy_10 : decode cX11_buy 10 = .ok (.iload_n 1, 1) := by decide +kernel
theorem dX11_buy_11 : decode cX11_buy 11 = .ok (.aload_n 0, 1) := by decide +kernel
theorem dX11_buy_12 : decode cX11_buy 12 = .ok (.getfield 118, 3) := by decide +kernel
theorem dX11_buy_15 : decode cX11_buy 15 = .ok (.iastore, 1) := by decide +kernel
theorem dX11_buy_16 : decode cX11_buy 16 = .ok (.aload_n 0, 1) := by decide +kernel
theorem dX11_buy_17 : decode cX11_buy 17 = .ok (.getfield 35, 3) := by decide +kernel
theorem dX11_buy_20 : decode cX11_buy 20 = .ok (.iload_n 1, 1) := by decide +kernel
theorem dX11_buy_21 : decode cX11_buy 21 = .ok (.aload_n 0, 1) := by decide +kernel
theorem dX11_buy_22 : decode cX11_buy 22 = .ok (.getfield 121, 3) := by decide +kernel
theorem dX11_buy_25 : decode cX11_buy 25 = .ok (.iastore, 1) := by decide +kernel
theorem dX11_buy_26 : decode cX11_buy 26 = .ok (.aload_n 0, 1) := by decide +kernel
theorem dX11_buy_27 : decode cX11_buy 27 = .ok (.getfield 38, 3) := by decide +kernel
theorem dX11_buy_30 : decode cX11_buy 30 = .ok (.iload_n 1, 1) := by decide +kernel
theorem dX11_buy_31 : decode cX11_buy 31 = .ok (.aload_n 0, 1) := by decide +kernel
theorem dX11_buy_32 : decode cX11_buy 32 = .ok (.getfield 121, 3) := by decide +kernel
theorem dX11_buy_35 : decode cX11_buy 35 = .ok (.iload_n 2, 1) := by decide +kernel
theorem dX11_buy_36 : decode cX11_buy 36 = .ok (.isub, 1) := by decide +kernel
theorem dX11_buy_37 : decode cX11_buy 37 = .ok (.iastore, 1) := by decide +kernel
theorem dX11_buy_38 : decode cX11_buy 38 = .ok (.return_, 1) := by decide +kernel
theorem dX11_clearNeeds_0 : decode cX11_clearNeeds 0 = .ok (.iconst 0, 1) := by decide +kernel
theorem dX11_clearNeeds_1 : decode cX11_clearNeeds 1 = .ok (.istore_n 1, 1) := by decide +kernel
theorem dX11_clearNeeds_2 : decode cX11_clearNeeds 2 = .ok (.iload_n 1, 1) := by decide +kernel
theorem dX11_clearNeeds_3 : decode cX11_clearNeeds 3 = .ok (.bipush 8, 2) := by decide +kernel
theorem dX11_clearNeeds_5 : decode cX11_clearNeeds 5 = .ok (.if_icmp .ge 107, 3) := by decide +kernel
theorem dX11_clearNeeds_8 : decode cX11_clearNeeds 8 = .ok (.aload_n 0, 1) := by decide +kernel
theorem dX11_clearNeeds_9 : decode cX11_clearNeeds 9 = .ok (.getfield 26, 3) := by decide +kernel
theorem dX11_clearNeeds_12 : decode cX11_clearNeeds 12 = .ok (.iload_n 1, 1) := by decide +kernel
theorem dX11_clearNeeds_13 : decode cX11_clearNeeds 13 = .ok (.iload_n 1, 1) := by decide +kernel
theorem dX11_clearNeeds_14 : decode cX11_clearNeeds 14 = .ok (.aload_n 0, 1) := by decide +kernel
theorem dX11_clearNeeds_15 : decode cX11_clearNeeds 15 = .ok (.getfield 7, 3) := by decide +kernel
theorem dX11_clearNeeds_18 : decode cX11_clearNeeds 18 = .ok (.iconst 1, 1) := by decide +kernel
theorem dX11_clearNeeds_19 : decode cX11_clearNeeds 19 = .ok (.iaload, 1) := by decide +kernel
theorem dX11_clearNeeds_20 : decode cX11_clearNeeds 20 = .ok (.if_icmp .ge 11, 3) := by decide +kernel
theorem dX11_clearNeeds_23 : decode cX11_clearNeeds 23 = .ok (.aload_n 0, 1) := by decide +kernel
theorem dX11_clearNeeds_24 : decode cX11_clearNeeds 24 = .ok (.iload_n 1, 1) := by decide +kernel
theorem dX11_clearNeeds_25 : decode cX11_clearNeeds 25 = .ok (.invokevirtual 138, 3) := by decide +kernel
theorem dX11_clearNeeds_28 : decode cX11_clearNeeds 28 = .ok (.goto 4, 3) := by decide +kernel
theorem dX11_clearNeeds_31 : decode cX11_clearNeeds 31 = .ok (.iconst 0, 1) := by decide +kernel
theorem dX11_clearNeeds_32 : decode cX11_clearNeeds 32 = .ok (.iastore, 1) := by decide +kernel
theorem dX11_clearNeeds_33 : decode cX11_clearNeeds 33 = .ok (.aload_n 0, 1) := by decide +kernel
theorem dX11_clearNeeds_34 : decode cX11_clearNeeds 34 = .ok (.getfield 29, 3) := by decide +kernel
theorem dX11_clearNeeds_37 : decode cX11_clearNeeds 37 = .ok (.iload_n 1, 1) := by decide +kernel
theorem dX11_clearNeeds_38 : decode cX11_clearNeeds 38 = .ok (.iconst 0, 1) := by decide +kernel
theorem dX11_clearNeeds_39 : decode cX11_clearNeeds 39 = .ok (.iastore, 1) := by decide +kernel
theorem dX11_clearNeeds_40 : decode cX11_clearNeeds 40 = .ok (.aload_n 0, 1) := by decide +kernel
theorem dX11_clearNeeds_41 : decode cX11_clearNeeds 41 = .ok (.getfield 32, 3) := by decide +kernel
theorem dX11_clearNeeds_44 : decode cX11_clearNeeds 44 = .ok (.iload_n 1, 1) := by decide +kernel
theorem dX11_clearNeeds_45 : decode cX11_clearNeeds 45 = .ok (.iconst 0, 1) := by decide +kernel
theorem dX11_clearNeeds_46 : decode cX11_clearNeeds 46 = .ok (.iastore, 1) := by decide +kernel
theorem dX11_clearNeeds_47 : decode cX11_clearNeeds 47 = .ok (.aload_n 0, 1) := by decide +kernel
theorem dX11_clearNeeds_48 : decode cX11_clearNeeds 48 = .ok (.getfield 35, 3) := by decide +kernel
theorem dX11_clearNeeds_51 : decode cX11_clearNeeds 51 = .ok (.iload_n 1, 1) := by decide +kernel
theorem dX11_clearNeeds_52 : decode cX11_clearNeeds 52 = .ok (.iconst 0, 1) := by decide +kernel
theorem dX11_clearNeeds_53 : decode cX11_clearNeeds 53 = .ok (.iastore, 1) := by decide +kernel
theorem dX11_clearNeeds_54 : decode cX11_clearNeeds 54 = .ok (.aload_n 0, 1) := by decide +kernel
theorem dX11_clearNeeds_55 : decode cX11_clearNeeds 55 = .ok (.getfield 38, 3) := by decide +kernel
theorem dX11_clearNeeds_58 : decode cX11_clearNeeds 58 = .ok (.iload_n 1, 1) := by decide +kernel
theorem dX11_clearNeeds_59 : decode cX11_clearNeeds 59 = .ok (.iconst 0, 1) := by decide +kernel
theorem dX11_clearNeeds_60 : decode cX11_clearNeeds 60 = .ok (.iastore, 1) := by decide +kernel
theorem dX11_clearNeeds_61 : decode cX11_clearNeeds 61 = .ok (.aload_n 0, 1) := by decide +kernel
theorem dX11_clearNeeds_62 : decode cX11_clearNeeds 62 = .ok (.getfield 41, 3) := by decide +kernel
theorem dX11_clearNeeds_65 : decode cX11_clearNeeds 65 = .ok (.iload_n 1, 1) := by decide +kernel
theorem dX11_clearNeeds_66 : decode cX11_clearNeeds 66 = .ok (.iconst 0, 1) := by decide +kernel
theorem dX11_clearNeeds_67 : decode cX11_clearNeeds 67 = .ok (.iastore, 1) := by decide +kernel
theorem dX11_clearNeeds_68 : decode cX11_clearNeeds 68 = .ok (.aload_n 0, 1) := by decide +kernel
theorem dX11_clearNeeds_69 : decode cX11_clearNeeds 69 = .ok (.getfield 44, 3) := by decide +kernel
theorem dX11_clearNeeds_72 : decode cX11_clearNeeds 72 = .ok (.iload_n 1, 1) := by decide +kernel
theorem dX11_clearNeeds_73 : decode cX11_clearNeeds 73 = .ok (.iconst 0, 1) := by decide +kernel
theorem dX11_clearNeeds_74 : decode cX11_clearNeeds 74 = .ok (.iastore, 1) := by decide +kernel
theorem dX11_clearNeeds_75 : decode cX11_clearNeeds 75 = .ok (.aload_n 0, 1) := by decide +kernel
theorem dX11_clearNeeds_76 : decode cX11_clearNeeds 76 = .ok (.getfield 47, 3) := by decide +kernel
theorem dX11_clearNeeds_79 : decode cX11_clearNeeds 79 = .ok (.iload_n 1, 1) := by decide +kernel
theorem dX11_clearNeeds_80 : decode cX11_clearNeeds 80 = .ok (.iconst 0, 1) := by decide +kernel
theorem dX11_clearNeeds_81 : decode cX11_clearNeeds 81 = .ok (.iastore, 1) := by decide +kernel
theorem dX11_clearNeeds_82 : decode cX11_clearNeeds 82 = .ok (.iconst 0, 1) := by decide +kernel
theorem dX11_clearNeeds_83 : decode cX11_clearNeeds 83 = .ok (.istore_n 2, 1) := by decide +kernel
theorem dX11_clearNeeds_84 : decode cX11_clearNeeds 84 = .ok (.iload_n 2, 1) := by decide +kernel
theorem dX11_clearNeeds_85 : decode cX11_clearNeeds 85 = .ok (.iconst 3, 1) := by decide +kernel
theorem dX11_clearNeeds_86 : decode cX11_clearNeeds 86 = .ok (.if_icmp .ge 20, 3) := by decide +kernel
theorem dX11_clearNeeds_89 : decode cX11_clearNeeds 89 = .ok (.aload_n 0, 1) := by decide +kernel
theorem dX11_clearNeeds_90 : decode cX11_clearNeeds 90 = .ok (.getfield 50, 3) := by decide +kernel
theorem dX11_clearNeeds_93 : decode cX11_clearNeeds 93 = .ok (.iconst 3, 1) := by decide +kernel
theorem dX11_clearNeeds_94 : decode cX11_clearNeeds 94 = .ok (.iload_n 1, 1) := by decide +kernel
theorem dX11_clearNeeds_95 : decode cX11_clearNeeds 95 = .ok (.imul, 1) := by decide +kernel
theorem dX11_clearNeeds_96 : decode cX11_clearNeeds 96 = .ok (.iload_n 2, 1) := by decide +kernel
theorem dX11_clearNeeds_97 : decode cX11_clearNeeds 97 = .ok (.iadd, 1) := by decide +kernel
theorem dX11_clearNeeds_98 : decode cX11_clearNeeds 98 = .ok (.iconst 0, 1) := by decide +kernel
theorem dX11_clearNeeds_99 : decode cX11_clearNeeds 99 = .ok (.iastore, 1) := by decide +kernel
theorem dX11_clearNeeds_100 : decode cX11_clearNeeds 100 = .ok (.iinc 2 1, 3) := by decide +kernel
theorem dX11_clearNeeds_103 : decode cX11_clearNeeds 103 = .ok (.goto (-19), 3) := by decide +kernel
theorem dX11_clearNeeds_106 : decode cX11_clearNeeds 106 = .ok (.iinc 1 1, 3) := by decide +kernel
theorem dX11_clearNeeds_109 : decode cX11_clearNeeds 109 = .ok (.goto (-107), 3) := by decide +kernel
theorem dX11_clearNeeds_112 : decode cX11_clearNeeds 112 = .ok (.return_, 1) := by decide +kernel
theorem dX11_findNeeds_0 : decode cX11_findNeeds 0 = .ok (.aload_n 0, 1) := by decide +kernel
theorem dX11_findNeeds_1 : decode cX11_findNeeds 1 = .ok (.invokevirtual 141, 3) := by decide +kernel
theorem dX11_findNeeds_4 : decode cX11_findNeeds 4 = .ok (.iconst 0, 1) := by decide +kernel
theorem dX11_findNeeds_5 : decode cX11_findNeeds 5 = .ok (.istore_n 1, 1) := by decide +kernel
theorem dX11_findNeeds_6 : decode cX11_findNeeds 6 = .ok (.iload_n 1, 1) := by decide +kernel
theorem dX11_findNeeds_7 : decode cX11_findNeeds 7 = .ok (.aload_n 0, 1) := by decide +kernel
theorem dX11_findNeeds_8 : decode cX11_findNeeds 8 = .ok (.getfield 7, 3) := by decide +kernel
theorem dX11_findNeeds_11 : decode cX11_findNeeds 11 = .ok (.iconst 1, 1) := by decide +kernel
theorem dX11_findNeeds_12 : decode cX11_findNeeds 12 = .ok (.iaload, 1) := by decide +kernel
theorem dX11_findNeeds_13 : decode cX11_findNeeds 13 = .ok (.if_icmp .ge 65, 3) := by decide +kernel
theorem dX11_findNeeds_16 : decode cX11_findNeeds 16 = .ok (.aload_n 0, 1) := by decide +kernel
theorem dX11_findNeeds_17 : decode cX11_findNeeds 17 = .ok (.iload_n 1, 1) := by decide +kernel
theorem dX11_findNeeds_18 : decode cX11_findNeeds 18 = .ok (.invokevirtual 103, 3) := by decide +kernel
theorem dX11_findNeeds_21 : decode cX11_findNeeds 21 = .ok (.istore_n 2, 1) := by decide +kernel
theorem dX11_findNeeds_22 : decode cX11_findNeeds 22 = .ok (.aload_n 0, 1) := by decide +kernel
theorem dX11_findNeeds_23 : decode cX11_findNeeds 23 = .ok (.getfield 32, 3) := by decide +kernel
theorem dX11_findNeeds_26 : decode cX11_findNeeds 26 = .ok (.iload_n 1, 1) := by decide +kernel
theorem dX11_findNeeds_27 : decode cX11_findNeeds 27 = .ok (.iload_n 2, 1) := by decide +kernel
theorem dX11_findNeeds_28 : decode cX11_findNeeds 28 = .ok (.aload_n 0, 1) := by decide +kernel
theorem dX11_findNeeds_29 : decode cX11_findNeeds 29 = .ok (.getfield 26, 3) := by decide +kernel
theorem dX11_findNeeds_32 : decode cX11_findNeeds 32 = .ok (.iload_n 1, 1) := by decide +kernel
theorem dX11_findNeeds_33 : decode cX11_findNeeds 33 = .ok (.iaload, 1) := by decide +kernel
theorem dX11_findNeeds_34 : decode cX11_findNeeds 34 = .ok (.if_icmp .ge 7, 3) := by decide +kernel
theorem dX11_findNeeds_37 : decode cX11_findNeeds 37 = .ok (.iload_n 2, 1) := by decide +kernel
theorem dX11_findNeeds_38 : decode cX11_findNeeds 38 = .ok (.goto 9, 3) := by decide +kernel
theorem dX11_findNeeds_41 : decode cX11_findNeeds 41 = .ok (.aload_n 0, 1) := by decide +kernel
theorem dX11_findNeeds_42 : decode cX11_findNeeds 42 = .ok (.getfield 26, 3) := by decide +kernel
theorem dX11_findNeeds_45 : decode cX11_findNeeds 45 = .ok (.iload_n 1, 1) := by decide +kernel
theorem dX11_findNeeds_46 : decode cX11_findNeeds 46 = .ok (.iaload, 1) := by decide +kernel
theorem dX11_findNeeds_47 : decode cX11_findNeeds 47 = .ok (.iastore, 1) := by decide +kernel
theorem dX11_findNeeds_48 : decode cX11_findNeeds 48 = .ok (.aload_n 0, 1) := by decide +kernel
theorem dX11_findNeeds_49 : decode cX11_findNeeds 49 = .ok (.getfield 26, 3) := by decide +kernel
theorem dX11_findNeeds_52 : decode cX11_findNeeds 52 = .ok (.iload_n 1, 1) := by decide +kernel
theorem dX11_findNeeds_53 : decode cX11_findNeeds 53 = .ok (.iaload, 1) := by decide +kernel
theorem dX11_findNeeds_54 : decode cX11_findNeeds 54 = .ok (.aload_n 0, 1) := by decide +kernel
theorem dX11_findNeeds_55 : decode cX11_findNeeds 55 = .ok (.getfield 32, 3) := by decide +kernel
theorem dX11_findNeeds_58 : decode cX11_findNeeds 58 = .ok (.iload_n 1, 1) := by decide +kernel
theorem dX11_findNeeds_59 : decode cX11_findNeeds 59 = .ok (.iaload, 1) := by decide +kernel
theorem dX11_findNeeds_60 : decode cX11_findNeeds 60 = .ok (.isub, 1) := by decide +kernel
theorem dX11_findNeeds_61 : decode cX11_findNeeds 61 = .ok (.istore_n 3, 1) := by decide +kernel
theorem dX11_findNeeds_62 : decode cX11_findNeeds 62 = .ok (.iload_n 3, 1) := by decide +kernel
theorem dX11_findNeeds_63 : decode cX11_findNeeds 63 = .ok (.ifCond .le 9, 3) := by decide +kernel
theorem dX11_findNeeds_66 : decode cX11_findNeeds 66 = .ok (.aload_n 0, 1) := by decide +kernel
theorem dX11_findNeeds_67 : decode cX11_findNeeds 67 = .ok (.iload_n 1, 1) := by decide +kernel
theorem dX11_findNeeds_68 : decode cX11_findNeeds 68 = .ok (.iload_n 3, 1) := by decide +kernel
theorem dX11_findNeeds_69 : decode cX11_findNeeds 69 = .ok (.invokevirtual 144, 3) := by decide +kernel
theorem dX11_findNeeds_72 : decode cX11_findNeeds 72 = .ok (.iinc 1 1, 3) := by decide +kernel
theorem dX11_findNeeds_75 : decode cX11_findNeeds 75 = .ok (.goto (-69), 3) := by decide +kernel
theorem dX11_findNeeds_78 : decode cX11_findNeeds 78 = .ok (.return_, 1) := by decide +kernel
theorem dX11_getRest_0 : decode cX11_getRest 0 = .ok (.aload_n 0, 1) := by decide +kernel
theorem dX11_getRest_1 : decode cX11_getRest 1 = .ok (.iload_n 1, 1) := by decide +kernel
theorem dX11_getRest_2 : decode cX11_getRest 2 = .ok (.iconst 3, 1) := by decide +kernel
theorem dX11_getRest_3 : decode cX11_getRest 3 = .ok (.invokevirtual 87, 3) := by decide +kernel
theorem dX11_getRest_6 : decode cX11_getRest 6 = .ok (.istore_n 3, 1) := by decide +kernel
theorem dX11_getRest_7 : decode cX11_getRest 7 = .ok (.iload_n 3, 1) := by decide +kernel
theorem dX11_getRest_8 : decode cX11_getRest 8 = .ok (.ifCond .ge 7, 3) := by decide +kernel
theorem dX11_getRest_11 : decode cX11_getRest 11 = .ok (.iconst 0, 1) := by decide +kernel
theorem dX11_getRest_12 : decode cX11_getRest 12 = .ok (.goto 16, 3) := by decide +kernel
theorem dX11_getRest_15 : decode cX11_getRest 15 = .ok (.iload_n 2, 1) := by decide +kernel
theorem dX11_getRest_16 : decode cX11_getRest 16 = .ok (.aload_n 0, 1) := by decide +kernel
theorem dX11_getRest_17 : decode cX11_getRest 17 = .ok (.iload_n 1, 1) := by decide +kernel
theorem dX11_getRest_18 : decode cX11_getRest 18 = .ok (.iconst 4, 1) := by decide +kernel
theorem dX11_getRest_19 : decode cX11_getRest 19 = .ok (.invokevirtual 87, 3) := by decide +kernel
theorem dX11_getRest_22 : decode cX11_getRest 22 = .ok (.imul, 1) := by decide +kernel
theorem dX11_getRest_23 : decode cX11_getRest 23 = .ok (.bipush 100, 2) := by decide +kernel
theorem dX11_getRest_25 : decode cX11_getRest 25 = .ok (.invokestatic 112, 3) := by decide +kernel
theorem dX11_getRest_28 : decode cX11_getRest 28 = .ok (.istore 4, 2) := by decide +kernel
theorem dX11_getRest_30 : decode cX11_getRest 30 = .ok (.aload_n 0, 1) := by decide +kernel
theorem dX11_getRest_31 : decode cX11_getRest 31 = .ok (.iload_n 1, 1) := by decide +kernel
theorem dX11_getRest_32 : decode cX11_getRest 32 = .ok (.iconst 1, 1) := by decide +kernel
theorem dX11_getRest_33 : decode cX11_getRest 33 = .ok (.invokevirtual 87, 3) := by decide +kernel
theorem dX11_getRest_36 : decode cX11_getRest 36 = .ok (.iconst 1, 1) := by decide +kernel
theorem dX11_getRest_37 : decode cX11_getRest 37 = .ok (.if_icmp .ne 21, 3) := by decide +kernel
theorem dX11_getRest_40 : decode cX11_getRest 40 = .ok (.aload_n 0, 1) := by decide +kernel
theorem dX11_getRest_41 : decode cX11_getRest 41 = .ok (.iload_n 1, 1) := by decide +kernel
theorem dX11_getRest_42 : decode cX11_getRest 42 = .ok (.iconst 2, 1) := by decide +kernel
theorem dX11_getRest_43 : decode cX11_getRest 43 = .ok (.invokevirtual 87, 3) := by decide +kernel
theorem dX11_getRest_46 : decode cX11_getRest 46 = .ok (.ifCond .le 12, 3) := by decide +kernel
theorem dX11_getRest_49 : decode cX11_getRest 49 = .ok (.aload_n 0, 1) := by decide +kernel
theorem dX11_getRest_50 : decode cX11_getRest 50 = .ok (.iload_n 1, 1) := by decide +kernel
theorem dX11_getRest_51 : decode cX11_getRest 51 = .ok (.iload_n 2, 1) := by decide +kernel
theorem dX11_getRest_52 : decode cX11_getRest 52 = .ok (.invokevirtual 147, 3) := by decide +kernel
theorem dX11_getRest_55 : decode cX11_getRest 55 = .ok (.goto 60, 3) := by decide +kernel
theorem dX11_getRest_58 : decode cX11_getRest 58 = .ok (.iload_n 3, 1) := by decide +kernel
theorem dX11_getRest_59 : decode cX11_getRest 59 = .ok (.ifCond .lt 49, 3) := by decide +kernel
theorem dX11_getRest_62 : decode cX11_getRest 62 = .ok (.aload_n 0, 1) := by decide +kernel
theorem dX11_getRest_63 : decode cX11_getRest 63 = .ok (.getfield 26, 3) := by decide +kernel
theorem dX11_getRest_66 : decode cX11_getRest 66 = .ok (.iload_n 3, 1) := by decide +kernel
theorem dX11_getRest_67 : decode cX11_getRest 67 = .ok (.iaload, 1) := by decide +kernel
theorem dX11_getRest_68 : decode cX11_getRest 68 = .ok (.iload 4, 2) := by decide +kernel
theorem dX11_getRest_70 : decode cX11_getRest 70 = .ok (.iadd, 1) := by decide +kernel
theorem dX11_getRest_71 : decode cX11_getRest 71 = .ok (.ldc 107, 2) := by decide +kernel
theorem dX11_getRest_73 : decode cX11_getRest 73 = .ok (.if_icmp .gt 35, 3) := by decide +kernel
theorem dX11_getRest_76 : decode cX11_getRest 76 = .ok (.aload_n 0, 1) := by decide +kernel
theorem dX11_getRest_77 : decode cX11_getRest 77 = .ok (.getfield 41, 3) := by decide +kernel
theorem dX11_getRest_80 : decode cX11_getRest 80 = .ok (.iload_n 1, 1) := by decide +kernel
theorem dX11_getRest_81 : decode cX11_getRest 81 = .ok (.iload_n 2, 1) := by decide +kernel
theorem dX11_getRest_82 : decode cX11_getRest 82 = .ok (.iastore, 1) := by decide +kernel
theorem dX11_getRest_83 : decode cX11_getRest 83 = .ok (.aload_n 0, 1) := by decide +kernel
theorem dX11_getRest_84 : decode cX11_getRest 84 = .ok (.getfield 29, 3) := by decide +kernel
theorem dX11_getRest_87 : decode cX11_getRest 87 = .ok (.iload_n 3, 1) := by decide +kernel
theorem dX11_getRest_88 : decode cX11_getRest 88 = .ok (.dup2, 1) := by decide +kernel
theorem dX11_getRest_89 : decode cX11_getRest 89 = .ok (.iaload, 1) := by decide +kernel
theorem dX11_getRest_90 : decode cX11_getRest 90 = .ok (.iload 4, 2) := by decide +kernel
theorem dX11_getRest_92 : decode cX11_getRest 92 = .ok (.iadd, 1) := by decide +kernel
theorem dX11_getRest_93 : decode cX11_getRest 93 = .ok (.iastore, 1) := by decide +kernel
theorem dX11_getRest_94 : decode cX11_getRest 94 = .ok (.aload_n 0, 1) := by decide +kernel
theorem dX11_getRest_95 : decode cX11_getRest 95 = .ok (.getfield 26, 3) := by decide +kernel
theorem dX11_getRest_98 : decode cX11_getRest 98 = .ok (.iload_n 3, 1) := by decide +kernel
theorem dX11_getRest_99 : decode cX11_getRest 99 = .ok (.dup2, 1) := by decide +kernel
theorem dX11_getRest_100 : decode cX11_getRest 100 = .ok (.iaload, 1) := by decide +kernel
theorem dX11_getRest_101 : decode cX11_getRest 101 = .ok (.iload 4, 2) := by decide +kernel
theorem dX11_getRest_103 : decode cX11_getRest 103 = .ok (.iadd, 1) := by decide +kernel
theorem dX11_getRest_104 : decode cX11_getRest 104 = .ok (.iastore, 1) := by decide +kernel
theorem dX11_getRest_105 : decode cX11_getRest 105 = .ok (.goto 10, 3) := by decide +kernel
theorem dX11_getRest_108 : decode cX11_getRest 108 = .ok (.aload_n 0, 1) := by decide +kernel
theorem dX11_getRest_109 : decode cX11_getRest 109 = .ok (.getfield 44, 3) := by decide +kernel
theorem dX11_getRest_112 : decode cX11_getRest 112 = .ok (.iload_n 1, 1) := by decide +kernel
theorem dX11_getRest_113 : decode cX11_getRest 113 = .ok (.iload_n 2, 1) := by decide +kernel
theorem dX11_getRest_114 : decode cX11_getRest 114 = .ok (.iastore, 1) := by decide +kernel
theorem dX11_getRest_115 : decode cX11_getRest 115 = .ok (.return_, 1) := by decide +kernel
theorem dX11_sumOf_0 : decode cX11_sumOf 0 = .ok (.iconst 0, 1) := by decide +kernel
theorem dX11_sumOf_1 : decode cX11_sumOf 1 = .ok (.istore_n 2, 1) := by decide +kernel
theorem dX11_sumOf_2 : decode cX11_sumOf 2 = .ok (.iconst 0, 1) := by decide +kernel
theorem dX11_sumOf_3 : decode cX11_sumOf 3 = .ok (.istore_n 3, 1) := by decide +kernel
theorem dX11_sumOf_4 : decode cX11_sumOf 4 = .ok (.iload_n 3, 1) := by decide +kernel
theorem dX11_sumOf_5 : decode cX11_sumOf 5 = .ok (.bipush 8, 2) := by decide +kernel
theorem dX11_sumOf_7 : decode cX11_sumOf 7 = .ok (.if_icmp .ge 15, 3) := by decide +kernel
theorem dX11_sumOf_10 : decode cX11_sumOf 10 = .ok (.iload_n 2, 1) := by decide +kernel
theorem dX11_sumOf_11 : decode cX11_sumOf 11 = .ok (.aload_n 1, 1) := by decide +kernel
theorem dX11_sumOf_12 : decode cX11_sumOf 12 = .ok (.iload_n 3, 1) := by decide +kernel
theorem dX11_sumOf_13 : decode cX11_sumOf 13 = .ok (.iaload, 1) := by decide +kernel
theorem dX11_sumOf_14 : decode cX11_sumOf 14 = .ok (.iadd, 1) := by decide +kernel
theorem dX11_sumOf_15 : decode cX11_sumOf 15 = .ok (.istore_n 2, 1) := by decide +kernel
theorem dX11_sumOf_16 : decode cX11_sumOf 16 = .ok (.iinc 3 1, 3) := by decide +kernel
theorem dX11_sumOf_19 : decode cX11_sumOf 19 = .ok (.goto (-15), 3) := by decide +kernel
theorem dX11_sumOf_22 : decode cX11_sumOf 22 = .ok (.iload_n 2, 1) := by decide +kernel
theorem dX11_sumOf_23 : decode cX11_sumOf 23 = .ok (.ireturn, 1) := by decide +kernel
theorem dX11_missingSet_0 : decode cX11_missingSet 0 = .ok (.iconst 0, 1) := by decide +kernel
theorem dX11_missingSet_1 : decode cX11_missingSet 1 = .ok (.istore_n 1, 1) := by decide +kernel
theorem dX11_missingSet_2 : decode cX11_missingSet 2 = .ok (.iconst 0, 1) := by decide +kernel
theorem dX11_missingSet_3 : decode cX11_missingSet 3 = .ok (.istore_n 2, 1) := by decide +kernel
theorem dX11_missingSet_4 : decode cX11_missingSet 4 = .ok (.iload_n 2, 1) := by decide +kernel
theorem dX11_missingSet_5 : decode cX11_missingSet 5 = .ok (.bipush 8, 2) := by decide +kernel
theorem dX11_missingSet_7 : decode cX11_missingSet 7 = .ok (.if_icmp .ge 28, 3) := by decide +kernel
theorem dX11_missingSet_10 : decode cX11_missingSet 10 = .ok (.iload_n 1, 1) := by decide +kernel
theorem dX11_missingSet_11 : decode cX11_missingSet 11 = .ok (.aload_n 0, 1) := by decide +kernel
theorem dX11_missingSet_12 : decode cX11_missingSet 12 = .ok (.getfield 44, 3) := by decide +kernel
theorem dX11_missingSet_15 : decode cX11_missingSet 15 = .ok (.iload_n 2, 1) := by decide +kernel
theorem dX11_missingSet_16 : decode cX11_missingSet 16 = .ok (.iaload, 1) := by decide +kernel
theorem dX11_missingSet_17 : decode cX11_missingSet 17 = .ok (.ifCond .le 9, 3) := by decide +kernel
theorem dX11_missingSet_20 : decode cX11_missingSet 20 = .ok (.iconst 1, 1) := by decide +kernel
theorem dX11_missingSet_21 : decode cX11_missingSet 21 = .ok (.iload_n 2, 1) := by decide +kernel
theorem dX11_missingSet_22 : decode cX11_missingSet 22 = .ok (.ishl, 1) := by decide +kernel
theorem dX11_missingSet_23 : decode cX11_missingSet 23 = .ok (.goto 4, 3) := by decide +kernel
theorem dX11_missingSet_26 : decode cX11_missingSet 26 = .ok (.iconst 0, 1) := by decide +kernel
theorem dX11_missingSet_27 : decode cX11_missingSet 27 = .ok (.ior, 1) := by decide +kernel
theorem dX11_missingSet_28 : decode cX11_missingSet 28 = .ok (.istore_n 1, 1) := by decide +kernel
theorem dX11_missingSet_29 : decode cX11_missingSet 29 = .ok (.iinc 2 1, 3) := by decide +kernel
theorem dX11_missingSet_32 : decode cX11_missingSet 32 = .ok (.goto (-28), 3) := by decide +kernel
theorem dX11_missingSet_35 : decode cX11_missingSet 35 = .ok (.iload_n 1, 1) := by decide +kernel
theorem dX11_missingSet_36 : decode cX11_missingSet 36 = .ok (.ireturn, 1) := by decide +kernel
theorem dX11_hasPortions_0 : decode cX11_hasPortions 0 = .ok (.iconst 0, 1) := by decide +kernel
theorem dX11_hasPortions_1 : decode cX11_hasPortions 1 = .ok (.istore_n 1, 1) := by decide +kernel
theorem dX11_hasPortions_2 : decode cX11_hasPortions 2 = .ok (.iconst 0, 1) := by decide +kernel
theorem dX11_hasPortions_3 : decode cX11_hasPortions 3 = .ok (.istore_n 2, 1) := by decide +kernel
theorem dX11_hasPortions_4 : decode cX11_hasPortions 4 = .ok (.iload_n 2, 1) := by decide +kernel
theorem dX11_hasPortions_5 : decode cX11_hasPortions 5 = .ok (.aload_n 0, 1) := by decide +kernel
theorem dX11_hasPortions_6 : decode cX11_hasPortions 6 = .ok (.getfield 7, 3) := by decide +kernel
theorem dX11_hasPortions_9 : decode cX11_hasPortions 9 = .ok (.iconst 2, 1) := by decide +kernel
theorem dX11_hasPortions_10 : decode cX11_hasPortions 10 = .ok (.iaload, 1) := by decide +kernel
theorem dX11_hasPortions_11 : decode cX11_hasPortions 11 = .ok (.if_icmp .ge 28, 3) := by decide +kernel
theorem dX11_hasPortions_14 : decode cX11_hasPortions 14 = .ok (.iload_n 1, 1) := by decide +kernel
theorem dX11_hasPortions_15 : decode cX11_hasPortions 15 = .ok (.ifCond .ne 12, 3) := by decide +kernel
theorem dX11_hasPortions_18 : decode cX11_hasPortions 18 = .ok (.aload_n 0, 1) := by decide +kernel
theorem dX11_hasPortions_19 : decode cX11_hasPortions 19 = .ok (.iload_n 2, 1) := by decide +kernel
theorem dX11_hasPortions_20 : decode cX11_hasPortions 20 = .ok (.iconst 2, 1) := by decide +kernel
theorem dX11_hasPortions_21 : decode cX11_hasPortions 21 = .ok (.invokevirtual 68, 3) := by decide +kernel
theorem dX11_hasPortions_24 : decode cX11_hasPortions 24 = .ok (.ifCond .le 7, 3) := by decide +kernel
theorem dX11_hasPortions_27 : decode cX11_hasPortions 27 = .ok (.iconst 1, 1) := by decide +kernel
theorem dX11_hasPortions_28 : decode cX11_hasPortions 28 = .ok (.goto 4, 3) := by decide +kernel
theorem dX11_hasPortions_31 : decode cX11_hasPortions 31 = .ok (.iconst 0, 1) := by decide +kernel
theorem dX11_hasPortions_32 : decode cX11_hasPortions 32 = .ok (.istore_n 1, 1) := by decide +kernel
theorem dX11_hasPortions_33 : decode cX11_hasPortions 33 = .ok (.iinc 2 1, 3) := by decide +kernel
theorem dX11_hasPortions_36 : decode cX11_hasPortions 36 = .ok (.goto (-32), 3) := by decide +kernel
theorem dX11_hasPortions_39 : decode cX11_hasPortions 39 = .ok (.iload_n 1, 1) := by decide +kernel
theorem dX11_hasPortions_40 : decode cX11_hasPortions 40 = .ok (.ireturn, 1) := by decide +kernel
theorem dX11_canCook_0 : decode cX11_canCook 0 = .ok (.aload_n 0, 1) := by decide +kernel
theorem dX11_canCook_1 : decode cX11_canCook 1 = .ok (.invokevirtual 150, 3) := by decide +kernel
theorem dX11_canCook_4 : decode cX11_canCook 4 = .ok (.aload_n 0, 1) := by decide +kernel
theorem dX11_canCook_5 : decode cX11_canCook 5 = .ok (.invokevirtual 153, 3) := by decide +kernel
theorem dX11_canCook_8 : decode cX11_canCook 8 = .ok (.ifCond .eq 14, 3) := by decide +kernel
theorem dX11_canCook_11 : decode cX11_canCook 11 = .ok (.aload_n 0, 1) := by decide +kernel
theorem dX11_canCook_12 : decode cX11_canCook 12 = .ok (.invokevirtual 157, 3) := by decide +kernel
theorem dX11_canCook_15 : decode cX11_canCook 15 = .ok (.ifCond .ne 7, 3) := by decide +kernel
theorem dX11_canCook_18 : decode cX11_canCook 18 = .ok (.iconst 1, 1) := by decide +kernel
theorem dX11_canCook_19 : decode cX11_canCook 19 = .ok (.goto 4, 3) := by decide +kernel
theorem dX11_canCook_22 : decode cX11_canCook 22 = .ok (.iconst 0, 1) := by decide +kernel
theorem dX11_canCook_23 : decode cX11_canCook 23 = .ok (.ireturn, 1) := by decide +kernel
theorem dX11_cook_0 : decode cX11_cook 0 = .ok (.aload_n 0, 1) := by decide +kernel
theorem dX11_cook_1 : decode cX11_cook 1 = .ok (.invokevirtual 161, 3) := by decide +kernel
theorem dX11_cook_4 : decode cX11_cook 4 = .ok (.ifCond .ne 6, 3) := by decide +kernel
theorem dX11_cook_7 : decode cX11_cook 7 = .ok (.bipush (-5), 2) := by decide +kernel
theorem dX11_cook_9 : decode cX11_cook 9 = .ok (.ireturn, 1) := by decide +kernel
theorem dX11_cook_10 : decode cX11_cook 10 = .ok (.aload_n 0, 1) := by decide +kernel
theorem dX11_cook_11 : decode cX11_cook 11 = .ok (.invokevirtual 80, 3) := by decide +kernel
theorem dX11_cook_14 : decode cX11_cook 14 = .ok (.iconst 0, 1) := by decide +kernel
theorem dX11_cook_15 : decode cX11_cook 15 = .ok (.istore_n 1, 1) := by decide +kernel
theorem dX11_cook_16 : decode cX11_cook 16 = .ok (.iload_n 1, 1) := by decide +kernel
theorem dX11_cook_17 : decode cX11_cook 17 = .ok (.aload_n 0, 1) := by decide +kernel
theorem dX11_cook_18 : decode cX11_cook 18 = .ok (.getfield 7, 3) := by decide +kernel
theorem dX11_cook_21 : decode cX11_cook 21 = .ok (.iconst 1, 1) := by decide +kernel
theorem dX11_cook_22 : decode cX11_cook 22 = .ok (.iaload, 1) := by decide +kernel
theorem dX11_cook_23 : decode cX11_cook 23 = .ok (.if_icmp .ge 94, 3) := by decide +kernel
theorem dX11_cook_26 : decode cX11_cook 26 = .ok (.aload_n 0, 1) := by decide +kernel
theorem dX11_cook_27 : decode cX11_cook 27 = .ok (.iload_n 1, 1) := by decide +kernel
theorem dX11_cook_28 : decode cX11_cook 28 = .ok (.aload_n 0, 1) := by decide +kernel
theorem dX11_cook_29 : decode cX11_cook 29 = .ok (.getfield 32, 3) := by decide +kernel
theorem dX11_cook_32 : decode cX11_cook 32 = .ok (.iload_n 1, 1) := by decide +kernel
theorem dX11_cook_33 : decode cX11_cook 33 = .ok (.iaload, 1) := by decide +kernel
theorem dX11_cook_34 : decode cX11_cook 34 = .ok (.invokevirtual 164, 3) := by decide +kernel
theorem dX11_cook_37 : decode cX11_cook 37 = .ok (.aload_n 0, 1) := by decide +kernel
theorem dX11_cook_38 : decode cX11_cook 38 = .ok (.getfield 38, 3) := by decide +kernel
theorem dX11_cook_41 : decode cX11_cook 41 = .ok (.iload_n 1, 1) := by decide +kernel
theorem dX11_cook_42 : decode cX11_cook 42 = .ok (.iaload, 1) := by decide +kernel
theorem dX11_cook_43 : decode cX11_cook 43 = .ok (.ifCond .le 14, 3) := by decide +kernel
theorem dX11_cook_46 : decode cX11_cook 46 = .ok (.aload_n 0, 1) := by decide +kernel
theorem dX11_cook_47 : decode cX11_cook 47 = .ok (.iload_n 1, 1) := by decide +kernel
theorem dX11_cook_48 : decode cX11_cook 48 = .ok (.aload_n 0, 1) := by decide +kernel
theorem dX11_cook_49 : decode cX11_cook 49 = .ok (.getfield 38, 3) := by decide +kernel
theorem dX11_cook_52 : decode cX11_cook 52 = .ok (.iload_n 1, 1) := by decide +kernel
theorem dX11_cook_53 : decode cX11_cook 53 = .ok (.iaload, 1) := by decide +kernel
theorem dX11_cook_54 : decode cX11_cook 54 = .ok (.invokevirtual 108, 3) := by decide +kernel
theorem dX11_cook_57 : decode cX11_cook 57 = .ok (.aload_n 0, 1) := by decide +kernel
theorem dX11_cook_58 : decode cX11_cook 58 = .ok (.iload_n 1, 1) := by decide +kernel
theorem dX11_cook_59 : decode cX11_cook 59 = .ok (.iconst 5, 1) := by decide +kernel
theorem dX11_cook_60 : decode cX11_cook 60 = .ok (.aload_n 0, 1) := by decide +kernel
theorem dX11_cook_61 : decode cX11_cook 61 = .ok (.iload_n 1, 1) := by decide +kernel
theorem dX11_cook_62 : decode cX11_cook 62 = .ok (.iconst 5, 1) := by decide +kernel
theorem dX11_cook_63 : decode cX11_cook 63 = .ok (.invokevirtual 87, 3) := by decide +kernel
theorem dX11_cook_66 : decode cX11_cook 66 = .ok (.aload_n 0, 1) := by decide +kernel
theorem dX11_cook_67 : decode cX11_cook 67 = .ok (.getfield 35, 3) := by decide +kernel
theorem dX11_cook_70 : decode cX11_cook 70 = .ok (.iload_n 1, 1) := by decide +kernel
theorem dX11_cook_71 : decode cX11_cook 71 = .ok (.iaload, 1) := by decide +kernel
theorem dX11_cook_72 : decode cX11_cook 72 = .ok (.iadd, 1) := by decide +kernel
theorem dX11_cook_73 : decode cX11_cook 73 = .ok (.invokevirtual 83, 3) := by decide +kernel
theorem dX11_cook_76 : decode cX11_cook 76 = .ok (.aload_n 0, 1) := by decide +kernel
theorem dX11_cook_77 : decode cX11_cook 77 = .ok (.iload_n 1, 1) := by decide +kernel
theorem dX11_cook_78 : decode cX11_cook 78 = .ok (.bipush 6, 2) := by decide +kernel
theorem dX11_cook_80 : decode cX11_cook 80 = .ok (.aload_n 0, 1) := by decide +kernel
theorem dX11_cook_81 : decode cX11_cook 81 = .ok (.iload_n 1, 1) := by decide +kernel
theorem dX11_cook_82 : decode cX11_cook 82 = .ok (.bipush 6, 2) := by decide +kernel
theorem dX11_cook_84 : decode cX11_cook 84 = .ok (.invokevirtual 87, 3) := by decide +kernel
theorem dX11_cook_87 : decode cX11_cook 87 = .ok (.aload_n 0, 1) := by decide +kernel
theorem dX11_cook_88 : decode cX11_cook 88 = .ok (.getfield 32, 3) := by decide +kernel
theorem dX11_cook_91 : decode cX11_cook 91 = .ok (.iload_n 1, 1) := by decide +kernel
theorem dX11_cook_92 : decode cX11_cook 92 = .ok (.iaload, 1) := by decide +kernel
theorem dX11_cook_93 : decode cX11_cook 93 = .ok (.iadd, 1) := by decide +kernel
theorem dX11_cook_94 : decode cX11_cook 94 = .ok (.aload_n 0, 1) := by decide +kernel
theorem dX11_cook_95 : decode cX11_cook 95 = .ok (.getfield 35, 3) := by decide +kernel
theorem dX11_cook_98 : decode cX11_cook 98 = .ok (.iload_n 1, 1) := by decide +kernel
theorem dX11_cook_99 : decode cX11_cook 99 = .ok (.iaload, 1) := by decide +kernel
theorem dX11_cook_100 : decode cX11_cook 100 = .ok (.iadd, 1) := by decide +kernel
theorem dX11_cook_101 : decode cX11_cook 101 = .ok (.aload_n 0, 1) := by decide +kernel
theorem dX11_cook_102 : decode cX11_cook 102 = .ok (.getfield 38, 3) := by decide +kernel
theorem dX11_cook_105 : decode cX11_cook 105 = .ok (.iload_n 1, 1) := by decide +kernel
theorem dX11_cook_106 : decode cX11_cook 106 = .ok (.iaload, 1) := by decide +kernel
theorem dX11_cook_107 : decode cX11_cook 107 = .ok (.isub, 1) := by decide +kernel
theorem dX11_cook_108 : decode cX11_cook 108 = .ok (.invokevirtual 83, 3) := by decide +kernel
theorem dX11_cook_111 : decode cX11_cook 111 = .ok (.iinc 1 1, 3) := by decide +kernel
theorem dX11_cook_114 : decode cX11_cook 114 = .ok (.goto (-98), 3) := by decide +kernel
theorem dX11_cook_117 : decode cX11_cook 117 = .ok (.iconst 0, 1) := by decide +kernel
theorem dX11_cook_118 : decode cX11_cook 118 = .ok (.istore_n 1, 1) := by decide +kernel
theorem dX11_cook_119 : decode cX11_cook 119 = .ok (.iload_n 1, 1) := by decide +kernel
theorem dX11_cook_120 : decode cX11_cook 120 = .ok (.aload_n 0, 1) := by decide +kernel
theorem dX11_cook_121 : decode cX11_cook 121 = .ok (.getfield 7, 3) := by decide +kernel
theorem dX11_cook_124 : decode cX11_cook 124 = .ok (.iconst 2, 1) := by decide +kernel
theorem dX11_cook_125 : decode cX11_cook 125 = .ok (.iaload, 1) := by decide +kernel
theorem dX11_cook_126 : decode cX11_cook 126 = .ok (.if_icmp .ge 25, 3) := by decide +kernel
theorem dX11_cook_129 : decode cX11_cook 129 = .ok (.aload_n 0, 1) := by decide +kernel
theorem dX11_cook_130 : decode cX11_cook 130 = .ok (.getfield 7, 3) := by decide +kernel
theorem dX11_cook_133 : decode cX11_cook 133 = .ok (.sipush 374, 3) := by decide +kernel
theorem dX11_cook_136 : decode cX11_cook 136 = .ok (.bipush 43, 2) := by decide +kernel
theorem dX11_cook_138 : decode cX11_cook 138 = .ok (.iload_n 1, 1) := by decide +kernel
theorem dX11_cook_139 : decode cX11_cook 139 = .ok (.imul, 1) := by decide +kernel
theorem dX11_cook_140 : decode cX11_cook 140 = .ok (.iadd, 1) := by decide +kernel
theorem dX11_cook_141 : decode cX11_cook 141 = .ok (.iconst 2, 1) := by decide +kernel
theorem dX11_cook_142 : decode cX11_cook 142 = .ok (.iadd, 1) := by decide +kernel
theorem dX11_cook_143 : decode cX11_cook 143 = .ok (.iconst 0, 1) := by decide +kernel
theorem dX11_cook_144 : decode cX11_cook 144 = .ok (.iastore, 1) := by decide +kernel
theorem dX11_cook_145 : decode cX11_cook 145 = .ok (.iinc 1 1, 3) := by decide +kernel
theorem dX11_cook_148 : decode cX11_cook 148 = .ok (.goto (-29), 3) := by decide +kernel
theorem dX11_cook_151 : decode cX11_cook 151 = .ok (.aload_n 0, 1) := by decide +kernel
theorem dX11_cook_152 : decode cX11_cook 152 = .ok (.getfield 7, 3) := by decide +kernel
theorem dX11_cook_155 : decode cX11_cook 155 = .ok (.iconst 4, 1) := by decide +kernel
theorem dX11_cook_156 : decode cX11_cook 156 = .ok (.dup2, 1) := by decide +kernel
theorem dX11_cook_157 : decode cX11_cook 157 = .ok (.iaload, 1) := by decide +kernel
theorem dX11_cook_158 : decode cX11_cook 158 = .ok (.aload_n 0, 1) := by decide +kernel
theorem dX11_cook_159 : decode cX11_cook 159 = .ok (.aload_n 0, 1) := by decide +kernel
theorem dX11_cook_160 : decode cX11_cook 160 = .ok (.getfield 47, 3) := by decide +kernel
theorem dX11_cook_163 : decode cX11_cook 163 = .ok (.invokevirtual 167, 3) := by decide +kernel
theorem dX11_cook_166 : decode cX11_cook 166 = .ok (.iadd, 1) := by decide +kernel
theorem dX11_cook_167 : decode cX11_cook 167 = .ok (.iastore, 1) := by decide +kernel
theorem dX11_cook_168 : decode cX11_cook 168 = .ok (.aload_n 0, 1) := by decide +kernel
theorem dX11_cook_169 : decode cX11_cook 169 = .ok (.getfield 7, 3) := by decide +kernel
theorem dX11_cook_172 : decode cX11_cook 172 = .ok (.iconst 5, 1) := by decide +kernel
theorem dX11_cook_173 : decode cX11_cook 173 = .ok (.dup2, 1) := by decide +kernel
theorem dX11_cook_174 : decode cX11_cook 174 = .ok (.iaload, 1) := by decide +kernel
theorem dX11_cook_175 : decode cX11_cook 175 = .ok (.iconst 1, 1) := by decide +kernel
theorem dX11_cook_176 : decode cX11_cook 176 = .ok (.iadd, 1) := by decide +kernel
theorem dX11_cook_177 : decode cX11_cook 177 = .ok (.iastore, 1) := by decide +kernel
theorem dX11_cook_178 : decode cX11_cook 178 = .ok (.aload_n 0, 1) := by decide +kernel
theorem dX11_cook_179 : decode cX11_cook 179 = .ok (.aload_n 0, 1) := by decide +kernel
theorem dX11_cook_180 : decode cX11_cook 180 = .ok (.getfield 47, 3) := by decide +kernel
theorem dX11_cook_183 : decode cX11_cook 183 = .ok (.invokevirtual 167, 3) := by decide +kernel
theorem dX11_cook_186 : decode cX11_cook 186 = .ok (.ireturn, 1) := by decide +kernel
theorem dX11_lastsOf_0 : decode cX11_lastsOf 0 = .ok (.aload_n 0, 1) := by decide +kernel
theorem dX11_lastsOf_1 : decode cX11_lastsOf 1 = .ok (.iload_n 1, 1) := by decide +kernel
theorem dX11_lastsOf_2 : decode cX11_lastsOf 2 = .ok (.iload_n 2, 1) := by decide +kernel
theorem dX11_lastsOf_3 : decode cX11_lastsOf 3 = .ok (.iconst 0, 1) := by decide +kernel
theorem dX11_lastsOf_4 : decode cX11_lastsOf 4 = .ok (.invokevirtual 171, 3) := by decide +kernel
theorem dX11_lastsOf_7 : decode cX11_lastsOf 7 = .ok (.istore 4, 2) := by decide +kernel
theorem dX11_lastsOf_9 : decode cX11_lastsOf 9 = .ok (.aload_n 0, 1) := by decide +kernel
theorem dX11_lastsOf_10 : decode cX11_lastsOf 10 = .ok (.iload_n 1, 1) := by decide +kernel
theorem dX11_lastsOf_11 : decode cX11_lastsOf 11 = .ok (.iload_n 2, 1) := by decide +kernel
theorem dX11_lastsOf_12 : decode cX11_lastsOf 12 = .ok (.iconst 3, 1) := by decide +kernel
theorem dX11_lastsOf_13 : decode cX11_lastsOf 13 = .ok (.invokevirtual 171, 3) := by decide +kernel
theorem dX11_lastsOf_16 : decode cX11_lastsOf 16 = .ok (.iconst 1, 1) := by decide +kernel
theorem dX11_lastsOf_17 : decode cX11_lastsOf 17 = .ok (.if_icmp .ne 11, 3) := by decide +kernel
theorem dX11_lastsOf_20 : decode cX11_lastsOf 20 = .ok (.iload_n 3, 1) := by decide +kernel
theorem dX11_lastsOf_21 : decode cX11_lastsOf 21 = .ok (.ifCond .le 7, 3) := by decide +kernel
theorem dX11_lastsOf_24 : decode cX11_lastsOf 24 = .ok (.iconst 1, 1) := by decide +kernel
theorem dX11_lastsOf_25 : decode cX11_lastsOf 25 = .ok (.goto 4, 3) := by decide +kernel
theorem dX11_lastsOf_28 : decode cX11_lastsOf 28 = .ok (.iconst 0, 1) := by decide +kernel
theorem dX11_lastsOf_29 : decode cX11_lastsOf 29 = .ok (.istore 5, 2) := by decide +kernel
theorem dX11_lastsOf_31 : decode cX11_lastsOf 31 = .ok (.iload 5, 2) := by decide +kernel
theorem dX11_lastsOf_33 : decode cX11_lastsOf 33 = .ok (.ifCond .eq 19, 3) := by decide +kernel
theorem dX11_lastsOf_36 : decode cX11_lastsOf 36 = .ok (.iload 4, 2) := by decide +kernel
theorem dX11_lastsOf_38 : decode cX11_lastsOf 38 = .ok (.iload_n 3, 1) := by decide +kernel
theorem dX11_lastsOf_39 : decode cX11_lastsOf 39 = .ok (.imul, 1) := by decide +kernel
theorem dX11_lastsOf_40 : decode cX11_lastsOf 40 = .ok (.aload_n 0, 1) := by decide +kernel
theorem dX11_lastsOf_41 : decode cX11_lastsOf 41 = .ok (.iload_n 1, 1) := by decide +kernel
theorem dX11_lastsOf_42 : decode cX11_lastsOf 42 = .ok (.iconst 0, 1) := by decide +kernel
theorem dX11_lastsOf_43 : decode cX11_lastsOf 43 = .ok (.invokevirtual 68, 3) := by decide +kernel
theorem dX11_lastsOf_46 : decode cX11_lastsOf 46 = .ok (.invokestatic 112, 3) := by decide +kernel
theorem dX11_lastsOf_49 : decode cX11_lastsOf 49 = .ok (.goto 5, 3) := by decide +kernel
theorem dX11_lastsOf_52 : decode cX11_lastsOf 52 = .ok (.iload 4, 2) := by decide +kernel
theorem dX11_lastsOf_54 : decode cX11_lastsOf 54 = .ok (.ireturn, 1) := by decide +kernel
theorem dX11_isOn_0 : decode cX11_isOn 0 = .ok (.iload_n 1, 1) := by decide +kernel
theorem dX11_isOn_1 : decode cX11_isOn 1 = .ok (.bipush 8, 2) := by decide +kernel
theorem dX11_isOn_3 : decode cX11_isOn 3 = .ok (.idiv, 1) := by decide +kernel
theorem dX11_isOn_4 : decode cX11_isOn 4 = .ok (.istore_n 2, 1) := by decide +kernel
theorem dX11_isOn_5 : decode cX11_isOn 5 = .ok (.iload_n 2, 1) := by decide +kernel
theorem dX11_isOn_6 : decode cX11_isOn 6 = .ok (.aload_n 0, 1) := by decide +kernel
theorem dX11_isOn_7 : decode cX11_isOn 7 = .ok (.getfield 7, 3) := by decide +kernel
theorem dX11_isOn_10 : decode cX11_isOn 10 = .ok (.iconst 2, 1) := by decide +kernel
theorem dX11_isOn_11 : decode cX11_isOn 11 = .ok (.iaload, 1) := by decide +kernel
theorem dX11_isOn_12 : decode cX11_isOn 12 = .ok (.if_icmp .ge 29, 3) := by decide +kernel
theorem dX11_isOn_15 : decode cX11_isOn 15 = .ok (.aload_n 0, 1) := by decide +kernel
theorem dX11_isOn_16 : decode cX11_isOn 16 = .ok (.iload_n 2, 1) := by decide +kernel
theorem dX11_isOn_17 : decode cX11_isOn 17 = .ok (.iconst 2, 1) := by decide +kernel
theorem dX11_isOn_18 : decode cX11_isOn 18 = .ok (.invokevirtual 68, 3) := by decide +kernel
theorem dX11_isOn_21 : decode cX11_isOn 21 = .ok (.ifCond .le 20, 3) := by decide +kernel
theorem dX11_isOn_24 : decode cX11_isOn 24 = .ok (.iload_n 1, 1) := by decide +kernel
theorem dX11_isOn_25 : decode cX11_isOn 25 = .ok (.bipush 8, 2) := by decide +kernel
theorem dX11_isOn_27 : decode cX11_isOn 27 = .ok (.irem, 1) := by decide +kernel
theorem dX11_isOn_28 : decode cX11_isOn 28 = .ok (.aload_n 0, 1) := by decide +kernel
theorem dX11_isOn_29 : decode cX11_isOn 29 = .ok (.iload_n 2, 1) := by decide +kernel
theorem dX11_isOn_30 : decode cX11_isOn 30 = .ok (.iconst 1, 1) := by decide +kernel
theorem dX11_isOn_31 : decode cX11_isOn 31 = .ok (.invokevirtual 68, 3) := by decide +kernel
theorem dX11_isOn_34 : decode cX11_isOn 34 = .ok (.if_icmp .ge 7, 3) := by decide +kernel
theorem dX11_isOn_37 : decode cX11_isOn 37 = .ok (.iconst 1, 1) := by decide +kernel
theorem dX11_isOn_38 : decode cX11_isOn 38 = .ok (.goto 4, 3) := by decide +kernel
theorem dX11_isOn_41 : decode cX11_isOn 41 = .ok (.iconst 0, 1) := by decide +kernel
theorem dX11_isOn_42 : decode cX11_isOn 42 = .ok (.ireturn, 1) := by decide +kernel
theorem dX11_handsOf_0 : decode cX11_handsOf 0 = .ok (.aload_n 0, 1) := by decide +kernel
theorem dX11_handsOf_1 : decode cX11_handsOf 1 = .ok (.iload_n 1, 1) := by decide +kernel
theorem dX11_handsOf_2 : decode cX11_handsOf 2 = .ok (.bipush 8, 2) := by decide +kernel
theorem dX11_handsOf_4 : decode cX11_handsOf 4 = .ok (.idiv, 1) := by decide +kernel
theorem dX11_handsOf_5 : decode cX11_handsOf 5 = .ok (.iload_n 1, 1) := by decide +kernel
theorem dX11_handsOf_6 : decode cX11_handsOf 6 = .ok (.bipush 8, 2) := by decide +kernel
theorem dX11_handsOf_8 : decode cX11_handsOf 8 = .ok (.irem, 1) := by decide +kernel
theorem dX11_handsOf_9 : decode cX11_handsOf 9 = .ok (.iconst 1, 1) := by decide +kernel
theorem dX11_handsOf_10 : decode cX11_handsOf 10 = .ok (.invokevirtual 171, 3) := by decide +kernel
theorem dX11_handsOf_13 : decode cX11_handsOf 13 = .ok (.ireturn, 1) := by decide +kernel
theorem dX11_aheadOf_0 : decode cX11_aheadOf 0 = .ok (.aload_n 0, 1) := by decide +kernel
theorem dX11_aheadOf_1 : decode cX11_aheadOf 1 = .ok (.iload_n 1, 1) := by decide +kernel
theorem dX11_aheadOf_2 : decode cX11_aheadOf 2 = .ok (.bipush 8, 2) := by decide +kernel
theorem dX11_aheadOf_4 : decode cX11_aheadOf 4 = .ok (.idiv, 1) := by decide +kernel
theorem dX11_aheadOf_5 : decode cX11_aheadOf 5 = .ok (.iload_n 1, 1) := by decide +kernel
theorem dX11_aheadOf_6 : decode cX11_aheadOf 6 = .ok (.bipush 8, 2) := by decide +kernel
theorem dX11_aheadOf_8 : decode cX11_aheadOf 8 = .ok (.irem, 1) := by decide +kernel
theorem dX11_aheadOf_9 : decode cX11_aheadOf 9 = .ok (.iconst 2, 1) := by decide +kernel
theorem dX11_aheadOf_10 : decode cX11_aheadOf 10 = .ok (.invokevirtual 171, 3) := by decide +kernel
theorem dX11_aheadOf_13 : decode cX11_aheadOf 13 = .ok (.ireturn, 1) := by decide +kernel
theorem dX11_findTails_0 : decode cX11_findTails 0 = .ok (.aload_n 0, 1) := by decide +kernel
theorem dX11_findTails_1 : decode cX11_findTails 1 = .ok (.iconst 0, 1) := by decide +kernel
theorem dX11_findTails_2 : decode cX11_findTails 2 = .ok (.putfield 175, 3) := by decide +kernel
theorem dX11_findTails_5 : decode cX11_findTails 5 = .ok (.aload_n 0, 1) := by decide +kernel
theorem dX11_findTails_6 : decode cX11_findTails 6 = .ok (.iconst 0, 1) := by decide +kernel
theorem dX11_findTails_7 : decode cX11_findTails 7 = .ok (.putfield 178, 3) := by decide +kernel
theorem dX11_findTails_10 : decode cX11_findTails 10 = .ok (.bipush 31, 2) := by decide +kernel
theorem dX11_findTails_12 : decode cX11_findTails 12 = .ok (.istore_n 1, 1) := by decide +kernel
theorem dX11_findTails_13 : decode cX11_findTails 13 = .ok (.iload_n 1, 1) := by decide +kernel
theorem dX11_findTails_14 : decode cX11_findTails 14 = .ok (.ifCond .lt 199, 3) := by decide +kernel
theorem dX11_findTails_17 : decode cX11_findTails 17 = .ok (.aload_n 0, 1) := by decide +kernel
theorem dX11_findTails_18 : decode cX11_findTails 18 = .ok (.getfield 59, 3) := by decide +kernel
theorem dX11_findTails_21 : decode cX11_findTails 21 = .ok (.iload_n 1, 1) := by decide +kernel
theorem dX11_findTails_22 : decode cX11_findTails 22 = .ok (.bipush (-6), 2) := by decide +kernel
theorem dX11_findTails_24 : decode cX11_findTails 24 = .ok (.iastore, 1) := by decide +kernel
theorem dX11_findTails_25 : decode cX11_findTails 25 = .ok (.aload_n 0, 1) := by decide +kernel
theorem dX11_findTails_26 : decode cX11_findTails 26 = .ok (.iload_n 1, 1) := by decide +kernel
theorem dX11_findTails_27 : decode cX11_findTails 27 = .ok (.invokevirtual 181, 3) := by decide +kernel
theorem dX11_findTails_30 : decode cX11_findTails 30 = .ok (.ifCond .eq 177, 3) := by decide +kernel
theorem dX11_findTails_33 : decode cX11_findTails 33 = .ok (.aload_n 0, 1) := by decide +kernel
theorem dX11_findTails_34 : decode cX11_findTails 34 = .ok (.getfield 53, 3) := by decide +kernel
theorem dX11_findTails_37 : decode cX11_findTails 37 = .ok (.iload_n 1, 1) := by decide +kernel
theorem dX11_findTails_38 : decode cX11_findTails 38 = .ok (.aload_n 0, 1) := by decide +kernel
theorem dX11_findTails_39 : decode cX11_findTails 39 = .ok (.iload_n 1, 1) := by decide +kernel
theorem dX11_findTails_40 : decode cX11_findTails 40 = .ok (.bipush 8, 2) := by decide +kernel
theorem dX11_findTails_42 : decode cX11_findTails 42 = .ok (.idiv, 1) := by decide +kernel
theorem dX11_findTails_43 : decode cX11_findTails 43 = .ok (.iload_n 1, 1) := by decide +kernel
theorem dX11_findTails_44 : decode cX11_findTails 44 = .ok (.bipush 8, 2) := by decide +kernel
theorem dX11_findTails_46 : decode cX11_findTails 46 = .ok (.irem, 1) := by decide +kernel
theorem dX11_findTails_47 : decode cX11_findTails 47 = .ok (.aload_n 0, 1) := by decide +kernel
theorem dX11_findTails_48 : decode cX11_findTails 48 = .ok (.iload_n 1, 1) := by decide +kernel
theorem dX11_findTails_49 : decode cX11_findTails 49 = .ok (.bipush 8, 2) := by decide +kernel
theorem dX11_findTails_51 : decode cX11_findTails 51 = .ok (.idiv, 1) := by decide +kernel
theorem dX11_findTails_52 : decode cX11_findTails 52 = .ok (.iconst 2, 1) := by decide +kernel
theorem dX11_findTails_53 : decode cX11_findTails 53 = .ok (.invokevirtual 68, 3) := by decide +kernel
theorem dX11_findTails_56 : decode cX11_findTails 56 = .ok (.invokevirtual 184, 3) := by decide +kernel
theorem dX11_findTails_59 : decode cX11_findTails 59 = .ok (.iastore, 1) := by decide +kernel
theorem dX11_findTails_60 : decode cX11_findTails 60 = .ok (.iconst 0, 1) := by decide +kernel
theorem dX11_findTails_61 : decode cX11_findTails 61 = .ok (.istore_n 2, 1) := by decide +kernel
theorem dX11_findTails_62 : decode cX11_findTails 62 = .ok (.iload_n 1, 1) := by decide +kernel
theorem dX11_findTails_63 : decode cX11_findTails 63 = .ok (.iconst 1, 1) := by decide +kernel
theorem dX11_findTails_64 : decode cX11_findTails 64 = .ok (.iadd, 1) := by decide +kernel
theorem dX11_findTails_65 : decode cX11_findTails 65 = .ok (.istore_n 3, 1) := by decide +kernel
theorem dX11_findTails_66 : decode cX11_findTails 66 = .ok (.iload_n 3, 1) := by decide +kernel
theorem dX11_findTails_67 : decode cX11_findTails 67 = .ok (.bipush 8, 2) := by decide +kernel
theorem dX11_findTails_69 : decode cX11_findTails 69 = .ok (.iload_n 1, 1) := by decide +kernel
theorem dX11_findTails_70 : decode cX11_findTails 70 = .ok (.bipush 8, 2) := by decide +kernel
theorem dX11_findTails_72 : decode cX11_findTails 72 = .ok (.idiv, 1) := by decide +kernel
theorem dX11_findTails_73 : decode cX11_findTails 73 = .ok (.iconst 1, 1) := by decide +kernel
theorem dX11_findTails_74 : decode cX11_findTails 74 = .ok (.iadd, 1) := by decide +kernel
theorem dX11_findTails_75 : decode cX11_findTails 75 = .ok (.imul, 1) := by decide +kernel
theorem dX11_findTails_76 : decode cX11_findTails 76 = .ok (.if_icmp .ge 66, 3) := by decide +kernel
theorem dX11_findTails_79 : decode cX11_findTails 79 = .ok (.aload_n 0, 1) := by decide +kernel
theorem dX11_findTails_80 : decode cX11_findTails 80 = .ok (.iload_n 3, 1) := by decide +kernel
theorem dX11_findTails_81 : decode cX11_findTails 81 = .ok (.invokevirtual 181, 3) := by decide +kernel
theorem dX11_findTails_84 : decode cX11_findTails 84 = .ok (.ifCond .eq 23, 3) := by decide +kernel
theorem dX11_findTails_87 : decode cX11_findTails 87 = .ok (.aload_n 0, 1) := by decide +kernel
theorem dX11_findTails_88 : decode cX11_findTails 88 = .ok (.iload_n 3, 1) := by decide +kernel
theorem dX11_findTails_89 : decode cX11_findTails 89 = .ok (.invokevirtual 187, 3) := by decide +kernel
theorem dX11_findTails_92 : decode cX11_findTails 92 = .ok (.iload_n 1, 1) := by decide +kernel
theorem dX11_findTails_93 : decode cX11_findTails 93 = .ok (.bipush 8, 2) := by decide +kernel
theorem dX11_findTails_95 : decode cX11_findTails 95 = .ok (.irem, 1) := by decide +kernel
theorem dX11_findTails_96 : decode cX11_findTails 96 = .ok (.ishr, 1) := by decide +kernel
theorem dX11_findTails_97 : decode cX11_findTails 97 = .ok (.iconst 1, 1) := by decide +kernel
theorem dX11_findTails_98 : decode cX11_findTails 98 = .ok (.iand, 1) := by decide +kernel
theorem dX11_findTails_99 : decode cX11_findTails 99 = .ok (.iconst 1, 1) := by decide +kernel
theorem dX11_findTails_100 : decode cX11_findTails 100 = .ok (.if_icmp .ne 7, 3) := by decide +kernel
theorem dX11_findTails_103 : decode cX11_findTails 103 = .ok (.iconst 1, 1) := by decide +kernel
theorem dX11_findTails_104 : decode cX11_findTails 104 = .ok (.goto 4, 3) := by decide +kernel
theorem dX11_findTails_107 : decode cX11_findTails 107 = .ok (.iconst 0, 1) := by decide +kernel
theorem dX11_findTails_108 : decode cX11_findTails 108 = .ok (.istore 4, 2) := by decide +kernel
theorem dX11_findTails_110 : decode cX11_findTails 110 = .ok (.iload 4, 2) := by decide +kernel
theorem dX11_findTails_112 : decode cX11_findTails 112 = .ok (.ifCond .eq 22, 3) := by decide +kernel
theorem dX11_findTails_115 : decode cX11_findTails 115 = .ok (.aload_n 0, 1) := by decide +kernel
theorem dX11_findTails_116 : decode cX11_findTails 116 = .ok (.getfield 56, 3) := by decide +kernel
theorem dX11_findTails_119 : decode cX11_findTails 119 = .ok (.iload_n 3, 1) := by decide +kernel
theorem dX11_findTails_120 : decode cX11_findTails 120 = .ok (.iaload, 1) := by decide +kernel
theorem dX11_findTails_121 : decode cX11_findTails 121 = .ok (.iload_n 2, 1) := by decide +kernel
theorem dX11_findTails_122 : decode cX11_findTails 122 = .ok (.if_icmp .le 12, 3) := by decide +kernel
theorem dX11_findTails_125 : decode cX11_findTails 125 = .ok (.aload_n 0, 1) := by decide +kernel
theorem dX11_findTails_126 : decode cX11_findTails 126 = .ok (.getfield 56, 3) := by decide +kernel
theorem dX11_findTails_129 : decode cX11_findTails 129 = .ok (.iload_n 3, 1) := by decide +kernel
theorem dX11_findTails_130 : decode cX11_findTails 130 = .ok (.iaload, 1) := by decide +kernel
theorem dX11_findTails_131 : decode cX11_findTails 131 = .ok (.goto 4, 3) := by decide +kernel
theorem dX11_findTails_134 : decode cX11_findTails 134 = .ok (.iload_n 2, 1) := by decide +kernel
theorem dX11_findTails_135 : decode cX11_findTails 135 = .ok (.istore_n 2, 1) := by decide +kernel
theorem dX11_findTails_136 : decode cX11_findTails 136 = .ok (.iinc 3 1, 3) := by decide +kernel
theorem dX11_findTails_139 : decode cX11_findTails 139 = .ok (.goto (-73), 3) := by decide +kernel
theorem dX11_findTails_142 : decode cX11_findTails 142 = .ok (.aload_n 0, 1) := by decide +kernel
