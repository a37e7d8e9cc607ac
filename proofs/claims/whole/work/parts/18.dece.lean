theorem dX11_findTails_143 : decode cX11_findTails 143 = .ok (.getfield 56, 3) := by decide +kernel
theorem dX11_findTails_146 : decode cX11_findTails 146 = .ok (.iload_n 1, 1) := by decide +kernel
theorem dX11_findTails_147 : decode cX11_findTails 147 = .ok (.aload_n 0, 1) := by decide +kernel
theorem dX11_findTails_148 : decode cX11_findTails 148 = .ok (.getfield 53, 3) := by decide +kernel
theorem dX11_findTails_151 : decode cX11_findTails 151 = .ok (.iload_n 1, 1) := by decide +kernel
theorem dX11_findTails_152 : decode cX11_findTails 152 = .ok (.iaload, 1) := by decide +kernel
theorem dX11_findTails_153 : decode cX11_findTails 153 = .ok (.iload_n 2, 1) := by decide +kernel
theorem dX11_findTails_154 : decode cX11_findTails 154 = .ok (.iadd, 1) := by decide +kernel
theorem dX11_findTails_155 : decode cX11_findTails 155 = .ok (.iastore, 1) := by decide +kernel
theorem dX11_findTails_156 : decode cX11_findTails 156 = .ok (.aload_n 0, 1) := by decide +kernel
theorem dX11_findTails_157 : decode cX11_findTails 157 = .ok (.aload_n 0, 1) := by decide +kernel
theorem dX11_findTails_158 : decode cX11_findTails 158 = .ok (.getfield 56, 3) := by decide +kernel
theorem dX11_findTails_161 : decode cX11_findTails 161 = .ok (.iload_n 1, 1) := by decide +kernel
theorem dX11_findTails_162 : decode cX11_findTails 162 = .ok (.iaload, 1) := by decide +kernel
theorem dX11_findTails_163 : decode cX11_findTails 163 = .ok (.aload_n 0, 1) := by decide +kernel
theorem dX11_findTails_164 : decode cX11_findTails 164 = .ok (.getfield 175, 3) := by decide +kernel
theorem dX11_findTails_167 : decode cX11_findTails 167 = .ok (.if_icmp .le 12, 3) := by decide +kernel
theorem dX11_findTails_170 : decode cX11_findTails 170 = .ok (.aload_n 0, 1) := by decide +kernel
theorem dX11_findTails_171 : decode cX11_findTails 171 = .ok (.getfield 56, 3) := by decide +kernel
theorem dX11_findTails_174 : decode cX11_findTails 174 = .ok (.iload_n 1, 1) := by decide +kernel
theorem dX11_findTails_175 : decode cX11_findTails 175 = .ok (.iaload, 1) := by decide +kernel
theorem dX11_findTails_176 : decode cX11_findTails 176 = .ok (.goto 7, 3) := by decide +kernel
theorem dX11_findTails_179 : decode cX11_findTails 179 = .ok (.aload_n 0, 1) := by decide +kernel
theorem dX11_findTails_180 : decode cX11_findTails 180 = .ok (.getfield 175, 3) := by decide +kernel
theorem dX11_findTails_183 : decode cX11_findTails 183 = .ok (.putfield 175, 3) := by decide +kernel
theorem dX11_findTails_186 : decode cX11_findTails 186 = .ok (.aload_n 0, 1) := by decide +kernel
theorem dX11_findTails_187 : decode cX11_findTails 187 = .ok (.dup, 1) := by decide +kernel
theorem dX11_findTails_188 : decode cX11_findTails 188 = .ok (.getfield 178, 3) := by decide +kernel
theorem dX11_findTails_191 : decode cX11_findTails 191 = .ok (.aload_n 0, 1) := by decide +kernel
theorem dX11_findTails_192 : decode cX11_findTails 192 = .ok (.getfield 53, 3) := by decide +kernel
theorem dX11_findTails_195 : decode cX11_findTails 195 = .ok (.iload_n 1, 1) := by decide +kernel
theorem dX11_findTails_196 : decode cX11_findTails 196 = .ok (.iaload, 1) := by decide +kernel
theorem dX11_findTails_197 : decode cX11_findTails 197 = .ok (.aload_n 0, 1) := by decide +kernel
theorem dX11_findTails_198 : decode cX11_findTails 198 = .ok (.iload_n 1, 1) := by decide +kernel
theorem dX11_findTails_199 : decode cX11_findTails 199 = .ok (.invokevirtual 190, 3) := by decide +kernel
theorem dX11_findTails_202 : decode cX11_findTails 202 = .ok (.imul, 1) := by decide +kernel
theorem dX11_findTails_203 : decode cX11_findTails 203 = .ok (.iadd, 1) := by decide +kernel
theorem dX11_findTails_204 : decode cX11_findTails 204 = .ok (.putfield 178, 3) := by decide +kernel
theorem dX11_findTails_207 : decode cX11_findTails 207 = .ok (.iinc 1 (-1), 3) := by decide +kernel
theorem dX11_findTails_210 : decode cX11_findTails 210 = .ok (.goto (-197), 3) := by decide +kernel
theorem dX11_findTails_213 : decode cX11_findTails 213 = .ok (.return_, 1) := by decide +kernel
theorem dX11_hasEnded_0 : decode cX11_hasEnded 0 = .ok (.aload_n 0, 1) := by decide +kernel
theorem dX11_hasEnded_1 : decode cX11_hasEnded 1 = .ok (.getfield 59, 3) := by decide +kernel
theorem dX11_hasEnded_4 : decode cX11_hasEnded 4 = .ok (.iload_n 1, 1) := by decide +kernel
theorem dX11_hasEnded_5 : decode cX11_hasEnded 5 = .ok (.iaload, 1) := by decide +kernel
theorem dX11_hasEnded_6 : decode cX11_hasEnded 6 = .ok (.ifCond .lt 24, 3) := by decide +kernel
theorem dX11_hasEnded_9 : decode cX11_hasEnded 9 = .ok (.aload_n 0, 1) := by decide +kernel
theorem dX11_hasEnded_10 : decode cX11_hasEnded 10 = .ok (.getfield 59, 3) := by decide +kernel
theorem dX11_hasEnded_13 : decode cX11_hasEnded 13 = .ok (.iload_n 1, 1) := by decide +kernel
theorem dX11_hasEnded_14 : decode cX11_hasEnded 14 = .ok (.iaload, 1) := by decide +kernel
theorem dX11_hasEnded_15 : decode cX11_hasEnded 15 = .ok (.aload_n 0, 1) := by decide +kernel
theorem dX11_hasEnded_16 : decode cX11_hasEnded 16 = .ok (.getfield 53, 3) := by decide +kernel
theorem dX11_hasEnded_19 : decode cX11_hasEnded 19 = .ok (.iload_n 1, 1) := by decide +kernel
theorem dX11_hasEnded_20 : decode cX11_hasEnded 20 = .ok (.iaload, 1) := by decide +kernel
theorem dX11_hasEnded_21 : decode cX11_hasEnded 21 = .ok (.iadd, 1) := by decide +kernel
theorem dX11_hasEnded_22 : decode cX11_hasEnded 22 = .ok (.iload_n 2, 1) := by decide +kernel
theorem dX11_hasEnded_23 : decode cX11_hasEnded 23 = .ok (.if_icmp .gt 7, 3) := by decide +kernel
theorem dX11_hasEnded_26 : decode cX11_hasEnded 26 = .ok (.iconst 1, 1) := by decide +kernel
theorem dX11_hasEnded_27 : decode cX11_hasEnded 27 = .ok (.goto 4, 3) := by decide +kernel
theorem dX11_hasEnded_30 : decode cX11_hasEnded 30 = .ok (.iconst 0, 1) := by decide +kernel
theorem dX11_hasEnded_31 : decode cX11_hasEnded 31 = .ok (.ireturn, 1) := by decide +kernel
theorem dX11_isReady_0 : decode cX11_isReady 0 = .ok (.aload_n 0, 1) := by decide +kernel
theorem dX11_isReady_1 : decode cX11_isReady 1 = .ok (.iload_n 1, 1) := by decide +kernel
theorem dX11_isReady_2 : decode cX11_isReady 2 = .ok (.invokevirtual 181, 3) := by decide +kernel
theorem dX11_isReady_5 : decode cX11_isReady 5 = .ok (.ifCond .eq 16, 3) := by decide +kernel
theorem dX11_isReady_8 : decode cX11_isReady 8 = .ok (.aload_n 0, 1) := by decide +kernel
theorem dX11_isReady_9 : decode cX11_isReady 9 = .ok (.getfield 59, 3) := by decide +kernel
theorem dX11_isReady_12 : decode cX11_isReady 12 = .ok (.iload_n 1, 1) := by decide +kernel
theorem dX11_isReady_13 : decode cX11_isReady 13 = .ok (.iaload, 1) := by decide +kernel
theorem dX11_isReady_14 : decode cX11_isReady 14 = .ok (.ifCond .ge 7, 3) := by decide +kernel
theorem dX11_isReady_17 : decode cX11_isReady 17 = .ok (.iconst 1, 1) := by decide +kernel
theorem dX11_isReady_18 : decode cX11_isReady 18 = .ok (.goto 4, 3) := by decide +kernel
theorem dX11_isReady_21 : decode cX11_isReady 21 = .ok (.iconst 0, 1) := by decide +kernel
theorem dX11_isReady_22 : decode cX11_isReady 22 = .ok (.istore_n 3, 1) := by decide +kernel
theorem dX11_isReady_23 : decode cX11_isReady 23 = .ok (.iconst 0, 1) := by decide +kernel
theorem dX11_isReady_24 : decode cX11_isReady 24 = .ok (.istore 4, 2) := by decide +kernel
theorem dX11_isReady_26 : decode cX11_isReady 26 = .ok (.iload 4, 2) := by decide +kernel
theorem dX11_isReady_28 : decode cX11_isReady 28 = .ok (.iload_n 1, 1) := by decide +kernel
theorem dX11_isReady_29 : decode cX11_isReady 29 = .ok (.bipush 8, 2) := by decide +kernel
theorem dX11_isReady_31 : decode cX11_isReady 31 = .ok (.irem, 1) := by decide +kernel
theorem dX11_isReady_32 : decode cX11_isReady 32 = .ok (.if_icmp .ge 49, 3) := by decide +kernel
theorem dX11_isReady_35 : decode cX11_isReady 35 = .ok (.iload_n 3, 1) := by decide +kernel
theorem dX11_isReady_36 : decode cX11_isReady 36 = .ok (.ifCond .eq 45, 3) := by decide +kernel
theorem dX11_isReady_39 : decode cX11_isReady 39 = .ok (.aload_n 0, 1) := by decide +kernel
theorem dX11_isReady_40 : decode cX11_isReady 40 = .ok (.iload_n 1, 1) := by decide +kernel
theorem dX11_isReady_41 : decode cX11_isReady 41 = .ok (.invokevirtual 187, 3) := by decide +kernel
theorem dX11_isReady_44 : decode cX11_isReady 44 = .ok (.iload 4, 2) := by decide +kernel
theorem dX11_isReady_46 : decode cX11_isReady 46 = .ok (.ishr, 1) := by decide +kernel
theorem dX11_isReady_47 : decode cX11_isReady 47 = .ok (.iconst 1, 1) := by decide +kernel
theorem dX11_isReady_48 : decode cX11_isReady 48 = .ok (.iand, 1) := by decide +kernel
theorem dX11_isReady_49 : decode cX11_isReady 49 = .ok (.ifCond .eq 20, 3) := by decide +kernel
theorem dX11_isReady_52 : decode cX11_isReady 52 = .ok (.aload_n 0, 1) := by decide +kernel
theorem dX11_isReady_53 : decode cX11_isReady 53 = .ok (.iload_n 1, 1) := by decide +kernel
theorem dX11_isReady_54 : decode cX11_isReady 54 = .ok (.iload_n 1, 1) := by decide +kernel
theorem dX11_isReady_55 : decode cX11_isReady 55 = .ok (.bipush 8, 2) := by decide +kernel
theorem dX11_isReady_57 : decode cX11_isReady 57 = .ok (.irem, 1) := by decide +kernel
theorem dX11_isReady_58 : decode cX11_isReady 58 = .ok (.isub, 1) := by decide +kernel
theorem dX11_isReady_59 : decode cX11_isReady 59 = .ok (.iload 4, 2) := by decide +kernel
theorem dX11_isReady_61 : decode cX11_isReady 61 = .ok (.iadd, 1) := by decide +kernel
theorem dX11_isReady_62 : decode cX11_isReady 62 = .ok (.iload_n 2, 1) := by decide +kernel
theorem dX11_isReady_63 : decode cX11_isReady 63 = .ok (.invokevirtual 193, 3) := by decide +kernel
theorem dX11_isReady_66 : decode cX11_isReady 66 = .ok (.ifCond .eq 7, 3) := by decide +kernel
theorem dX11_isReady_69 : decode cX11_isReady 69 = .ok (.iconst 1, 1) := by decide +kernel
theorem dX11_isReady_70 : decode cX11_isReady 70 = .ok (.goto 4, 3) := by decide +kernel
theorem dX11_isReady_73 : decode cX11_isReady 73 = .ok (.iconst 0, 1) := by decide +kernel
theorem dX11_isReady_74 : decode cX11_isReady 74 = .ok (.istore_n 3, 1) := by decide +kernel
theorem dX11_isReady_75 : decode cX11_isReady 75 = .ok (.iinc 4 1, 3) := by decide +kernel
theorem dX11_isReady_78 : decode cX11_isReady 78 = .ok (.goto (-52), 3) := by decide +kernel
theorem dX11_isReady_81 : decode cX11_isReady 81 = .ok (.iload_n 3, 1) := by decide +kernel
theorem dX11_isReady_82 : decode cX11_isReady 82 = .ok (.ireturn, 1) := by decide +kernel
theorem dX11_freeAt_0 : decode cX11_freeAt 0 = .ok (.iload_n 2, 1) := by decide +kernel
theorem dX11_freeAt_1 : decode cX11_freeAt 1 = .ok (.istore_n 3, 1) := by decide +kernel
theorem dX11_freeAt_2 : decode cX11_freeAt 2 = .ok (.iconst 0, 1) := by decide +kernel
theorem dX11_freeAt_3 : decode cX11_freeAt 3 = .ok (.istore 4, 2) := by decide +kernel
theorem dX11_freeAt_5 : decode cX11_freeAt 5 = .ok (.iload 4, 2) := by decide +kernel
theorem dX11_freeAt_7 : decode cX11_freeAt 7 = .ok (.bipush 32, 2) := by decide +kernel
theorem dX11_freeAt_9 : decode cX11_freeAt 9 = .ok (.if_icmp .ge 51, 3) := by decide +kernel
theorem dX11_freeAt_12 : decode cX11_freeAt 12 = .ok (.iload_n 3, 1) := by decide +kernel
theorem dX11_freeAt_13 : decode cX11_freeAt 13 = .ok (.aload_n 0, 1) := by decide +kernel
theorem dX11_freeAt_14 : decode cX11_freeAt 14 = .ok (.iload 4, 2) := by decide +kernel
theorem dX11_freeAt_16 : decode cX11_freeAt 16 = .ok (.invokevirtual 181, 3) := by decide +kernel
theorem dX11_freeAt_19 : decode cX11_freeAt 19 = .ok (.ifCond .eq 32, 3) := by decide +kernel
theorem dX11_freeAt_22 : decode cX11_freeAt 22 = .ok (.aload_n 0, 1) := by decide +kernel
theorem dX11_freeAt_23 : decode cX11_freeAt 23 = .ok (.getfield 59, 3) := by decide +kernel
theorem dX11_freeAt_26 : decode cX11_freeAt 26 = .ok (.iload 4, 2) := by decide +kernel
theorem dX11_freeAt_28 : decode cX11_freeAt 28 = .ok (.iaload, 1) := by decide +kernel
theorem dX11_freeAt_29 : decode cX11_freeAt 29 = .ok (.ifCond .lt 22, 3) := by decide +kernel
theorem dX11_freeAt_32 : decode cX11_freeAt 32 = .ok (.aload_n 0, 1) := by decide +kernel
theorem dX11_freeAt_33 : decode cX11_freeAt 33 = .ok (.iload 4, 2) := by decide +kernel
theorem dX11_freeAt_35 : decode cX11_freeAt 35 = .ok (.iload_n 1, 1) := by decide +kernel
theorem dX11_freeAt_36 : decode cX11_freeAt 36 = .ok (.invokevirtual 193, 3) := by decide +kernel
theorem dX11_freeAt_39 : decode cX11_freeAt 39 = .ok (.ifCond .ne 12, 3) := by decide +kernel
theorem dX11_freeAt_42 : decode cX11_freeAt 42 = .ok (.aload_n 0, 1) := by decide +kernel
theorem dX11_freeAt_43 : decode cX11_freeAt 43 = .ok (.iload 4, 2) := by decide +kernel
theorem dX11_freeAt_45 : decode cX11_freeAt 45 = .ok (.invokevirtual 190, 3) := by decide +kernel
theorem dX11_freeAt_48 : decode cX11_freeAt 48 = .ok (.goto 4, 3) := by decide +kernel
theorem dX11_freeAt_51 : decode cX11_freeAt 51 = .ok (.iconst 0, 1) := by decide +kernel
theorem dX11_freeAt_52 : decode cX11_freeAt 52 = .ok (.isub, 1) := by decide +kernel
theorem dX11_freeAt_53 : decode cX11_freeAt 53 = .ok (.istore_n 3, 1) := by decide +kernel
theorem dX11_freeAt_54 : decode cX11_freeAt 54 = .ok (.iinc 4 1, 3) := by decide +kernel
theorem dX11_freeAt_57 : decode cX11_freeAt 57 = .ok (.goto (-52), 3) := by decide +kernel
theorem dX11_freeAt_60 : decode cX11_freeAt 60 = .ok (.iload_n 3, 1) := by decide +kernel
theorem dX11_freeAt_61 : decode cX11_freeAt 61 = .ok (.ireturn, 1) := by decide +kernel
theorem dX11_nextAt_0 : decode cX11_nextAt 0 = .ok (.bipush (-6), 2) := by decide +kernel
theorem dX11_nextAt_2 : decode cX11_nextAt 2 = .ok (.istore_n 3, 1) := by decide +kernel
theorem dX11_nextAt_3 : decode cX11_nextAt 3 = .ok (.iconst 0, 1) := by decide +kernel
theorem dX11_nextAt_4 : decode cX11_nextAt 4 = .ok (.istore 4, 2) := by decide +kernel
theorem dX11_nextAt_6 : decode cX11_nextAt 6 = .ok (.iload 4, 2) := by decide +kernel
theorem dX11_nextAt_8 : decode cX11_nextAt 8 = .ok (.bipush 32, 2) := by decide +kernel
theorem dX11_nextAt_10 : decode cX11_nextAt 10 = .ok (.if_icmp .ge 56, 3) := by decide +kernel
theorem dX11_nextAt_13 : decode cX11_nextAt 13 = .ok (.aload_n 0, 1) := by decide +kernel
theorem dX11_nextAt_14 : decode cX11_nextAt 14 = .ok (.iload 4, 2) := by decide +kernel
theorem dX11_nextAt_16 : decode cX11_nextAt 16 = .ok (.iload_n 1, 1) := by decide +kernel
theorem dX11_nextAt_17 : decode cX11_nextAt 17 = .ok (.invokevirtual 197, 3) := by decide +kernel
theorem dX11_nextAt_20 : decode cX11_nextAt 20 = .ok (.ifCond .eq 40, 3) := by decide +kernel
theorem dX11_nextAt_23 : decode cX11_nextAt 23 = .ok (.aload_n 0, 1) := by decide +kernel
theorem dX11_nextAt_24 : decode cX11_nextAt 24 = .ok (.iload 4, 2) := by decide +kernel
theorem dX11_nextAt_26 : decode cX11_nextAt 26 = .ok (.invokevirtual 190, 3) := by decide +kernel
theorem dX11_nextAt_29 : decode cX11_nextAt 29 = .ok (.iload_n 2, 1) := by decide +kernel
theorem dX11_nextAt_30 : decode cX11_nextAt 30 = .ok (.if_icmp .gt 30, 3) := by decide +kernel
theorem dX11_nextAt_33 : decode cX11_nextAt 33 = .ok (.iload_n 3, 1) := by decide +kernel
theorem dX11_nextAt_34 : decode cX11_nextAt 34 = .ok (.ifCond .lt 19, 3) := by decide +kernel
theorem dX11_nextAt_37 : decode cX11_nextAt 37 = .ok (.aload_n 0, 1) := by decide +kernel
theorem dX11_nextAt_38 : decode cX11_nextAt 38 = .ok (.getfield 56, 3) := by decide +kernel
theorem dX11_nextAt_41 : decode cX11_nextAt 41 = .ok (.iload 4, 2) := by decide +kernel
theorem dX11_nextAt_43 : decode cX11_nextAt 43 = .ok (.iaload, 1) := by decide +kernel
theorem dX11_nextAt_44 : decode cX11_nextAt 44 = .ok (.aload_n 0, 1) := by decide +kernel
theorem dX11_nextAt_45 : decode cX11_nextAt 45 = .ok (.getfield 56, 3) := by decide +kernel
theorem dX11_nextAt_48 : decode cX11_nextAt 48 = .ok (.iload_n 3, 1) := by decide +kernel
theorem dX11_nextAt_49 : decode cX11_nextAt 49 = .ok (.iaload, 1) := by decide +kernel
theorem dX11_nextAt_50 : decode cX11_nextAt 50 = .ok (.if_icmp .le 8, 3) := by decide +kernel
theorem dX11_nextAt_53 : decode cX11_nextAt 53 = .ok (.iload 4, 2) := by decide +kernel
theorem dX11_nextAt_55 : decode cX11_nextAt 55 = .ok (.goto 4, 3) := by decide +kernel
theorem dX11_nextAt_58 : decode cX11_nextAt 58 = .ok (.iload_n 3, 1) := by decide +kernel
theorem dX11_nextAt_59 : decode cX11_nextAt 59 = .ok (.istore_n 3, 1) := by decide +kernel
theorem dX11_nextAt_60 : decode cX11_nextAt 60 = .ok (.iinc 4 1, 3) := by decide +kernel
theorem dX11_nextAt_63 : decode cX11_nextAt 63 = .ok (.goto (-57), 3) := by decide +kernel
theorem dX11_nextAt_66 : decode cX11_nextAt 66 = .ok (.iload_n 3, 1) := by decide +kernel
theorem dX11_nextAt_67 : decode cX11_nextAt 67 = .ok (.ireturn, 1) := by decide +kernel
theorem dX11_nextEnd_0 : decode cX11_nextEnd 0 = .ok (.ldc 127, 2) := by decide +kernel
theorem dX11_nextEnd_2 : decode cX11_nextEnd 2 = .ok (.istore_n 2, 1) := by decide +kernel
theorem dX11_nextEnd_3 : decode cX11_nextEnd 3 = .ok (.iconst 0, 1) := by decide +kernel
theorem dX11_nextEnd_4 : decode cX11_nextEnd 4 = .ok (.istore_n 3, 1) := by decide +kernel
theorem dX11_nextEnd_5 : decode cX11_nextEnd 5 = .ok (.iload_n 3, 1) := by decide +kernel
theorem dX11_nextEnd_6 : decode cX11_nextEnd 6 = .ok (.bipush 32, 2) := by decide +kernel
theorem dX11_nextEnd_8 : decode cX11_nextEnd 8 = .ok (.if_icmp .ge 63, 3) := by decide +kernel
theorem dX11_nextEnd_11 : decode cX11_nextEnd 11 = .ok (.aload_n 0, 1) := by decide +kernel
theorem dX11_nextEnd_12 : decode cX11_nextEnd 12 = .ok (.iload_n 3, 1) := by decide +kernel
theorem dX11_nextEnd_13 : decode cX11_nextEnd 13 = .ok (.invokevirtual 181, 3) := by decide +kernel
theorem dX11_nextEnd_16 : decode cX11_nextEnd 16 = .ok (.ifCond .eq 49, 3) := by decide +kernel
theorem dX11_nextEnd_19 : decode cX11_nextEnd 19 = .ok (.aload_n 0, 1) := by decide +kernel
theorem dX11_nextEnd_20 : decode cX11_nextEnd 20 = .ok (.getfield 59, 3) := by decide +kernel
theorem dX11_nextEnd_23 : decode cX11_nextEnd 23 = .ok (.iload_n 3, 1) := by decide +kernel
theorem dX11_nextEnd_24 : decode cX11_nextEnd 24 = .ok (.iaload, 1) := by decide +kernel
theorem dX11_nextEnd_25 : decode cX11_nextEnd 25 = .ok (.ifCond .lt 40, 3) := by decide +kernel
theorem dX11_nextEnd_28 : decode cX11_nextEnd 28 = .ok (.aload_n 0, 1) := by decide +kernel
theorem dX11_nextEnd_29 : decode cX11_nextEnd 29 = .ok (.iload_n 3, 1) := by decide +kernel
theorem dX11_nextEnd_30 : decode cX11_nextEnd 30 = .ok (.iload_n 1, 1) := by decide +kernel
theorem dX11_nextEnd_31 : decode cX11_nextEnd 31 = .ok (.invokevirtual 193, 3) := by decide +kernel
theorem dX11_nextEnd_34 : decode cX11_nextEnd 34 = .ok (.ifCond .ne 31, 3) := by decide +kernel
theorem dX11_nextEnd_37 : decode cX11_nextEnd 37 = .ok (.aload_n 0, 1) := by decide +kernel
theorem dX11_nextEnd_38 : decode cX11_nextEnd 38 = .ok (.getfield 59, 3) := by decide +kernel
theorem dX11_nextEnd_41 : decode cX11_nextEnd 41 = .ok (.iload_n 3, 1) := by decide +kernel
theorem dX11_nextEnd_42 : decode cX11_nextEnd 42 = .ok (.iaload, 1) := by decide +kernel
theorem dX11_nextEnd_43 : decode cX11_nextEnd 43 = .ok (.aload_n 0, 1) := by decide +kernel
theorem dX11_nextEnd_44 : decode cX11_nextEnd 44 = .ok (.getfield 53, 3) := by decide +kernel
theorem dX11_nextEnd_47 : decode cX11_nextEnd 47 = .ok (.iload_n 3, 1) := by decide +kernel
theorem dX11_nextEnd_48 : decode cX11_nextEnd 48 = .ok (.iaload, 1) := by decide +kernel
theorem dX11_nextEnd_49 : decode cX11_nextEnd 49 = .ok (.iadd, 1) := by decide +kernel
theorem dX11_nextEnd_50 : decode cX11_nextEnd 50 = .ok (.istore 4, 2) := by decide +kernel
theorem dX11_nextEnd_52 : decode cX11_nextEnd 52 = .ok (.iload 4, 2) := by decide +kernel
theorem dX11_nextEnd_54 : decode cX11_nextEnd 54 = .ok (.iload_n 2, 1) := by decide +kernel
theorem dX11_nextEnd_55 : decode cX11_nextEnd 55 = .ok (.if_icmp .ge 8, 3) := by decide +kernel
theorem dX11_nextEnd_58 : decode cX11_nextEnd 58 = .ok (.iload 4, 2) := by decide +kernel
theorem dX11_nextEnd_60 : decode cX11_nextEnd 60 = .ok (.goto 4, 3) := by decide +kernel
theorem dX11_nextEnd_63 : decode cX11_nextEnd 63 = .ok (.iload_n 2, 1) := by decide +kernel
theorem dX11_nextEnd_64 : decode cX11_nextEnd 64 = .ok (.istore_n 2, 1) := by decide +kernel
theorem dX11_nextEnd_65 : decode cX11_nextEnd 65 = .ok (.iinc 3 1, 3) := by decide +kernel
theorem dX11_nextEnd_68 : decode cX11_nextEnd 68 = .ok (.goto (-63), 3) := by decide +kernel
theorem dX11_nextEnd_71 : decode cX11_nextEnd 71 = .ok (.iload_n 2, 1) := by decide +kernel
theorem dX11_nextEnd_72 : decode cX11_nextEnd 72 = .ok (.ireturn, 1) := by decide +kernel
theorem dX11_findTimes_0 : decode cX11_findTimes 0 = .ok (.aload_n 0, 1) := by decide +kernel
theorem dX11_findTimes_1 : decode cX11_findTimes 1 = .ok (.invokevirtual 200, 3) := by decide +kernel
theorem dX11_findTimes_4 : decode cX11_findTimes 4 = .ok (.iconst 0, 1) := by decide +kernel
theorem dX11_findTimes_5 : decode cX11_findTimes 5 = .ok (.istore_n 2, 1) := by decide +kernel
theorem dX11_findTimes_6 : decode cX11_findTimes 6 = .ok (.iconst 0, 1) := by decide +kernel
theorem dX11_findTimes_7 : decode cX11_findTimes 7 = .ok (.istore_n 3, 1) := by decide +kernel
theorem dX11_findTimes_8 : decode cX11_findTimes 8 = .ok (.iload_n 2, 1) := by decide +kernel
theorem dX11_findTimes_9 : decode cX11_findTimes 9 = .ok (.ldc 127, 2) := by decide +kernel
theorem dX11_findTimes_11 : decode cX11_findTimes 11 = .ok (.if_icmp .ge 67, 3) := by decide +kernel
theorem dX11_findTimes_14 : decode cX11_findTimes 14 = .ok (.iload_n 2, 1) := by decide +kernel
theorem dX11_findTimes_15 : decode cX11_findTimes 15 = .ok (.istore_n 3, 1) := by decide +kernel
theorem dX11_findTimes_16 : decode cX11_findTimes 16 = .ok (.aload_n 0, 1) := by decide +kernel
theorem dX11_findTimes_17 : decode cX11_findTimes 17 = .ok (.iload_n 2, 1) := by decide +kernel
theorem dX11_findTimes_18 : decode cX11_findTimes 18 = .ok (.iload_n 1, 1) := by decide +kernel
theorem dX11_findTimes_19 : decode cX11_findTimes 19 = .ok (.invokevirtual 203, 3) := by decide +kernel
theorem dX11_findTimes_22 : decode cX11_findTimes 22 = .ok (.istore 4, 2) := by decide +kernel
theorem dX11_findTimes_24 : decode cX11_findTimes 24 = .ok (.aload_n 0, 1) := by decide +kernel
theorem dX11_findTimes_25 : decode cX11_findTimes 25 = .ok (.iload_n 2, 1) := by decide +kernel
theorem dX11_findTimes_26 : decode cX11_findTimes 26 = .ok (.iload 4, 2) := by decide +kernel
theorem dX11_findTimes_28 : decode cX11_findTimes 28 = .ok (.invokevirtual 206, 3) := by decide +kernel
theorem dX11_findTimes_31 : decode cX11_findTimes 31 = .ok (.istore 5, 2) := by decide +kernel
theorem dX11_findTimes_33 : decode cX11_findTimes 33 = .ok (.iload 5, 2) := by decide +kernel
theorem dX11_findTimes_35 : decode cX11_findTimes 35 = .ok (.ifCond .lt 34, 3) := by decide +kernel
theorem dX11_findTimes_38 : decode cX11_findTimes 38 = .ok (.aload_n 0, 1) := by decide +kernel
theorem dX11_findTimes_39 : decode cX11_findTimes 39 = .ok (.getfield 59, 3) := by decide +kernel
theorem dX11_findTimes_42 : decode cX11_findTimes 42 = .ok (.iload 5, 2) := by decide +kernel
theorem dX11_findTimes_44 : decode cX11_findTimes 44 = .ok (.iload_n 2, 1) := by decide +kernel
theorem dX11_findTimes_45 : decode cX11_findTimes 45 = .ok (.iastore, 1) := by decide +kernel
theorem dX11_findTimes_46 : decode cX11_findTimes 46 = .ok (.iload 4, 2) := by decide +kernel
theorem dX11_findTimes_48 : decode cX11_findTimes 48 = .ok (.aload_n 0, 1) := by decide +kernel
theorem dX11_findTimes_49 : decode cX11_findTimes 49 = .ok (.iload 5, 2) := by decide +kernel
theorem dX11_findTimes_51 : decode cX11_findTimes 51 = .ok (.invokevirtual 190, 3) := by decide +kernel
theorem dX11_findTimes_54 : decode cX11_findTimes 54 = .ok (.isub, 1) := by decide +kernel
theorem dX11_findTimes_55 : decode cX11_findTimes 55 = .ok (.istore 4, 2) := by decide +kernel
theorem dX11_findTimes_57 : decode cX11_findTimes 57 = .ok (.aload_n 0, 1) := by decide +kernel
theorem dX11_findTimes_58 : decode cX11_findTimes 58 = .ok (.iload_n 2, 1) := by decide +kernel
theorem dX11_findTimes_59 : decode cX11_findTimes 59 = .ok (.iload 4, 2) := by decide +kernel
theorem dX11_findTimes_61 : decode cX11_findTimes 61 = .ok (.invokevirtual 206, 3) := by decide +kernel
theorem dX11_findTimes_64 : decode cX11_findTimes 64 = .ok (.istore 5, 2) := by decide +kernel
theorem dX11_findTimes_66 : decode cX11_findTimes 66 = .ok (.goto (-33), 3) := by decide +kernel
theorem dX11_findTimes_69 : decode cX11_findTimes 69 = .ok (.aload_n 0, 1) := by decide +kernel
theorem dX11_findTimes_70 : decode cX11_findTimes 70 = .ok (.iload_n 2, 1) := by decide +kernel
theorem dX11_findTimes_71 : decode cX11_findTimes 71 = .ok (.invokevirtual 209, 3) := by decide +kernel
theorem dX11_findTimes_74 : decode cX11_findTimes 74 = .ok (.istore_n 2, 1) := by decide +kernel
theorem dX11_findTimes_75 : decode cX11_findTimes 75 = .ok (.goto (-67), 3) := by decide +kernel
theorem dX11_findTimes_78 : decode cX11_findTimes 78 = .ok (.iconst 0, 1) := by decide +kernel
theorem dX11_findTimes_79 : decode cX11_findTimes 79 = .ok (.istore 4, 2) := by decide +kernel
theorem dX11_findTimes_81 : decode cX11_findTimes 81 = .ok (.iload 4, 2) := by decide +kernel
theorem dX11_findTimes_83 : decode cX11_findTimes 83 = .ok (.bipush 32, 2) := by decide +kernel
theorem dX11_findTimes_85 : decode cX11_findTimes 85 = .ok (.if_icmp .ge 31, 3) := by decide +kernel
theorem dX11_findTimes_88 : decode cX11_findTimes 88 = .ok (.aload_n 0, 1) := by decide +kernel
theorem dX11_findTimes_89 : decode cX11_findTimes 89 = .ok (.iload 4, 2) := by decide +kernel
theorem dX11_findTimes_91 : decode cX11_findTimes 91 = .ok (.invokevirtual 181, 3) := by decide +kernel
theorem dX11_findTimes_94 : decode cX11_findTimes 94 = .ok (.ifCond .eq 16, 3) := by decide +kernel
theorem dX11_findTimes_97 : decode cX11_findTimes 97 = .ok (.aload_n 0, 1) := by decide +kernel
theorem dX11_findTimes_98 : decode cX11_findTimes 98 = .ok (.getfield 59, 3) := by decide +kernel
theorem dX11_findTimes_101 : decode cX11_findTimes 101 = .ok (.iload 4, 2) := by decide +kernel
theorem dX11_findTimes_103 : decode cX11_findTimes 103 = .ok (.iaload, 1) := by decide +kernel
theorem dX11_findTimes_104 : decode cX11_findTimes 104 = .ok (.ifCond .ge 6, 3) := by decide +kernel
theorem dX11_findTimes_107 : decode cX11_findTimes 107 = .ok (.bipush (-6), 2) := by decide +kernel
theorem dX11_findTimes_109 : decode cX11_findTimes 109 = .ok (.ireturn, 1) := by decide +kernel
theorem dX11_findTimes_110 : decode cX11_findTimes 110 = .ok (.iinc 4 1, 3) := by decide +kernel
theorem dX11_findTimes_113 : decode cX11_findTimes 113 = .ok (.goto (-32), 3) := by decide +kernel
theorem dX11_findTimes_116 : decode cX11_findTimes 116 = .ok (.iload_n 3, 1) := by decide +kernel
theorem dX11_findTimes_117 : decode cX11_findTimes 117 = .ok (.ireturn, 1) := by decide +kernel
theorem dX11_bound_0 : decode cX11_bound 0 = .ok (.aload_n 0, 1) := by decide +kernel
theorem dX11_bound_1 : decode cX11_bound 1 = .ok (.invokevirtual 200, 3) := by decide +kernel
theorem dX11_bound_4 : decode cX11_bound 4 = .ok (.aload_n 0, 1) := by decide +kernel
theorem dX11_bound_5 : decode cX11_bound 5 = .ok (.getfield 178, 3) := by decide +kernel
theorem dX11_bound_8 : decode cX11_bound 8 = .ok (.aload_n 0, 1) := by decide +kernel
theorem dX11_bound_9 : decode cX11_bound 9 = .ok (.getfield 7, 3) := by decide +kernel
theorem dX11_bound_12 : decode cX11_bound 12 = .ok (.iconst 3, 1) := by decide +kernel
theorem dX11_bound_13 : decode cX11_bound 13 = .ok (.iaload, 1) := by decide +kernel
theorem dX11_bound_14 : decode cX11_bound 14 = .ok (.invokestatic 112, 3) := by decide +kernel
theorem dX11_bound_17 : decode cX11_bound 17 = .ok (.istore_n 1, 1) := by decide +kernel
theorem dX11_bound_18 : decode cX11_bound 18 = .ok (.aload_n 0, 1) := by decide +kernel
theorem dX11_bound_19 : decode cX11_bound 19 = .ok (.getfield 175, 3) := by decide +kernel
theorem dX11_bound_22 : decode cX11_bound 22 = .ok (.iload_n 1, 1) := by decide +kernel
theorem dX11_bound_23 : decode cX11_bound 23 = .ok (.if_icmp .le 10, 3) := by decide +kernel
theorem dX11_bound_26 : decode cX11_bound 26 = .ok (.aload_n 0, 1) := by decide +kernel
theorem dX11_bound_27 : decode cX11_bound 27 = .ok (.getfield 175, 3) := by decide +kernel
theorem dX11_bound_30 : decode cX11_bound 30 = .ok (.goto 4, 3) := by decide +kernel
theorem dX11_bound_33 : decode cX11_bound 33 = .ok (.iload_n 1, 1) := by decide +kernel
theorem dX11_bound_34 : decode cX11_bound 34 = .ok (.ireturn, 1) := by decide +kernel
theorem dX11_next_0 : decode cX11_next 0 = .ok (.aload_n 0, 1) := by decide +kernel
theorem dX11_next_1 : decode cX11_next 1 = .ok (.getfield 212, 3) := by decide +kernel
theorem dX11_next_4 : decode cX11_next 4 = .ok (.aload_n 0, 1) := by decide +kernel
theorem dX11_next_5 : decode cX11_next 5 = .ok (.getfield 215, 3) := by decide +kernel
theorem dX11_next_8 : decode cX11_next 8 = .ok (.if_icmp .ge 15, 3) := by decide +kernel
theorem dX11_next_11 : decode cX11_next 11 = .ok (.aload_n 0, 1) := by decide +kernel
theorem dX11_next_12 : decode cX11_next 12 = .ok (.getfield 23, 3) := by decide +kernel
theorem dX11_next_15 : decode cX11_next 15 = .ok (.aload_n 0, 1) := by decide +kernel
theorem dX11_next_16 : decode cX11_next 16 = .ok (.getfield 212, 3) := by decide +kernel
theorem dX11_next_19 : decode cX11_next 19 = .ok (.iaload, 1) := by decide +kernel
theorem dX11_next_20 : decode cX11_next 20 = .ok (.goto 4, 3) := by decide +kernel
theorem dX11_next_23 : decode cX11_next 23 = .ok (.iconst 0, 1) := by decide +kernel
theorem dX11_next_24 : decode cX11_next 24 = .ok (.ireturn, 1) := by decide +kernel
theorem dX11_takeNumber_0 : decode cX11_takeNumber 0 = .ok (.aload_n 0, 1) := by decide +kernel
theorem dX11_takeNumber_1 : decode cX11_takeNumber 1 = .ok (.aload_n 0, 1) := by decide +kernel
theorem dX11_takeNumber_2 : decode cX11_takeNumber 2 = .ok (.getfield 218, 3) := by decide +kernel
theorem dX11_takeNumber_5 : decode cX11_takeNumber 5 = .ok (.ifCond .ne 17, 3) := by decide +kernel
theorem dX11_takeNumber_8 : decode cX11_takeNumber 8 = .ok (.aload_n 0, 1) := by decide +kernel
theorem dX11_takeNumber_9 : decode cX11_takeNumber 9 = .ok (.invokevirtual 222, 3) := by decide +kernel
theorem dX11_takeNumber_12 : decode cX11_takeNumber 12 = .ok (.bipush 49, 2) := by decide +kernel
theorem dX11_takeNumber_14 : decode cX11_takeNumber 14 = .ok (.bipush 57, 2) := by decide +kernel
theorem dX11_takeNumber_16 : decode cX11_takeNumber 16 = .ok (.invokestatic 76, 3) := by decide +kernel
theorem dX11_takeNumber_19 : decode cX11_takeNumber 19 = .ok (.ifCond .ne 7, 3) := by decide +kernel
theorem dX11_takeNumber_22 : decode cX11_takeNumber 22 = .ok (.iconst 1, 1) := by decide +kernel
theorem dX11_takeNumber_23 : decode cX11_takeNumber 23 = .ok (.goto 4, 3) := by decide +kernel
theorem dX11_takeNumber_26 : decode cX11_takeNumber 26 = .ok (.iconst 0, 1) := by decide +kernel
theorem dX11_takeNumber_27 : decode cX11_takeNumber 27 = .ok (.putfield 218, 3) := by decide +kernel
theorem dX11_takeNumber_30 : decode cX11_takeNumber 30 = .ok (.aload_n 0, 1) := by decide +kernel
theorem dX11_takeNumber_31 : decode cX11_takeNumber 31 = .ok (.getfield 218, 3) := by decide +kernel
theorem dX11_takeNumber_34 : decode cX11_takeNumber 34 = .ok (.ifCond .eq 5, 3) := by decide +kernel
theorem dX11_takeNumber_37 : decode cX11_takeNumber 37 = .ok (.iconst 0, 1) := by decide +kernel
theorem dX11_takeNumber_38 : decode cX11_takeNumber 38 = .ok (.ireturn, 1) := by decide +kernel
theorem dX11_takeNumber_39 : decode cX11_takeNumber 39 = .ok (.aload_n 0, 1) := by decide +kernel
theorem dX11_takeNumber_40 : decode cX11_takeNumber 40 = .ok (.invokevirtual 222, 3) := by decide +kernel
theorem dX11_takeNumber_43 : decode cX11_takeNumber 43 = .ok (.bipush 48, 2) := by decide +kernel
theorem dX11_takeNumber_45 : decode cX11_takeNumber 45 = .ok (.isub, 1) := by decide +kernel
theorem dX11_takeNumber_46 : decode cX11_takeNumber 46 = .ok (.istore_n 2, 1) := by decide +kernel
theorem dX11_takeNumber_47 : decode cX11_takeNumber 47 = .ok (.aload_n 0, 1) := by decide +kernel
theorem dX11_takeNumber_48 : decode cX11_takeNumber 48 = .ok (.dup, 1) := by decide +kernel
theorem dX11_takeNumber_49 : decode cX11_takeNumber 49 = .ok (.getfield 212, 3) := by decide +kernel
theorem dX11_takeNumber_52 : decode cX11_takeNumber 52 = .ok (.iconst 1, 1) := by decide +kernel
theorem dX11_takeNumber_53 : decode cX11_takeNumber 53 = .ok (.iadd, 1) := by decide +kernel
theorem dX11_takeNumber_54 : decode cX11_takeNumber 54 = .ok (.putfield 212, 3) := by decide +kernel
theorem dX11_takeNumber_57 : decode cX11_takeNumber 57 = .ok (.aload_n 0, 1) := by decide +kernel
theorem dX11_takeNumber_58 : decode cX11_takeNumber 58 = .ok (.invokevirtual 222, 3) := by decide +kernel
theorem dX11_takeNumber_61 : decode cX11_takeNumber 61 = .ok (.bipush 48, 2) := by decide +kernel
theorem dX11_takeNumber_63 : decode cX11_takeNumber 63 = .ok (.bipush 57, 2) := by decide +kernel
theorem dX11_takeNumber_65 : decode cX11_takeNumber 65 = .ok (.invokestatic 76, 3) := by decide +kernel
theorem dX11_takeNumber_68 : decode cX11_takeNumber 68 = .ok (.ifCond .eq 45, 3) := by decide +kernel
theorem dX11_takeNumber_71 : decode cX11_takeNumber 71 = .ok (.bipush 10, 2) := by decide +kernel
theorem dX11_takeNumber_73 : decode cX11_takeNumber 73 = .ok (.iload_n 2, 1) := by decide +kernel
theorem dX11_takeNumber_74 : decode cX11_takeNumber 74 = .ok (.imul, 1) := by decide +kernel
theorem dX11_takeNumber_75 : decode cX11_takeNumber 75 = .ok (.aload_n 0, 1) := by decide +kernel
theorem dX11_takeNumber_76 : decode cX11_takeNumber 76 = .ok (.invokevirtual 222, 3) := by decide +kernel
theorem dX11_takeNumber_79 : decode cX11_takeNumber 79 = .ok (.iadd, 1) := by decide +kernel
theorem dX11_takeNumber_80 : decode cX11_takeNumber 80 = .ok (.bipush 48, 2) := by decide +kernel
theorem dX11_takeNumber_82 : decode cX11_takeNumber 82 = .ok (.isub, 1) := by decide +kernel
theorem dX11_takeNumber_83 : decode cX11_takeNumber 83 = .ok (.iload_n 1, 1) := by decide +kernel
theorem dX11_takeNumber_84 : decode cX11_takeNumber 84 = .ok (.if_icmp .gt 29, 3) := by decide +kernel
theorem dX11_takeNumber_87 : decode cX11_takeNumber 87 = .ok (.bipush 10, 2) := by decide +kernel
theorem dX11_takeNumber_89 : decode cX11_takeNumber 89 = .ok (.iload_n 2, 1) := by decide +kernel
theorem dX11_takeNumber_90 : decode cX11_takeNumber 90 = .ok (.imul, 1) := by decide +kernel
theorem dX11_takeNumber_91 : decode cX11_takeNumber 91 = .ok (.aload_n 0, 1) := by decide +kernel
theorem dX11_takeNumber_92 : decode cX11_takeNumber 92 = .ok (.invokevirtual 222, 3) := by decide +kernel
theorem dX11_takeNumber_95 : decode cX11_takeNumber 95 = .ok (.iadd, 1) := by decide +kernel
theorem dX11_takeNumber_96 : decode cX11_takeNumber 96 = .ok (.bipush 48, 2) := by decide +kernel
theorem dX11_takeNumber_98 : decode cX11_takeNumber 98 = .ok (.isub, 1) := by decide +kernel
theorem dX11_takeNumber_99 : decode cX11_takeNumber 99 = .ok (.istore_n 2, 1) := by decide +kernel
theorem dX11_takeNumber_100 : decode cX11_takeNumber 100 = .ok (.aload_n 0, 1) := by decide +kernel
theorem dX11_takeNumber_101 : decode cX11_takeNumber 101 = .ok (.dup, 1) := by decide +kernel
theorem dX11_takeNumber_102 : decode cX11_takeNumber 102 = .ok (.getfield 212, 3) := by decide +kernel
theorem dX11_takeNumber_105 : decode cX11_takeNumber 105 = .ok (.iconst 1, 1) := by decide +kernel
theorem dX11_takeNumber_106 : decode cX11_takeNumber 106 = .ok (.iadd, 1) := by decide +kernel
theorem dX11_takeNumber_107 : decode cX11_takeNumber 107 = .ok (.putfield 212, 3) := by decide +kernel
theorem dX11_takeNumber_110 : decode cX11_takeNumber 110 = .ok (.goto (-53), 3) := by decide +kernel
theorem dX11_takeNumber_113 : decode cX11_takeNumber 113 = .ok (.iload_n 2, 1) := by decide +kernel
theorem dX11_takeNumber_114 : decode cX11_takeNumber 114 = .ok (.ireturn, 1) := by decide +kernel
theorem dX11_takeAmount_0 : decode cX11_takeAmount 0 = .ok (.aload_n 0, 1) := by decide +kernel
theorem dX11_takeAmount_1 : decode cX11_takeAmount 1 = .ok (.invokevirtual 222, 3) := by decide +kernel
theorem dX11_takeAmount_4 : decode cX11_takeAmount 4 = .ok (.bipush 97, 2) := by decide +kernel
theorem dX11_takeAmount_6 : decode cX11_takeAmount 6 = .ok (.isub, 1) := by decide +kernel
theorem dX11_takeAmount_7 : decode cX11_takeAmount 7 = .ok (.istore_n 1, 1) := by decide +kernel
theorem dX11_takeAmount_8 : decode cX11_takeAmount 8 = .ok (.aload_n 0, 1) := by decide +kernel
theorem dX11_takeAmount_9 : decode cX11_takeAmount 9 = .ok (.aload_n 0, 1) := by decide +kernel
theorem dX11_takeAmount_10 : decode cX11_takeAmount 10 = .ok (.getfield 62, 3) := by decide +kernel
theorem dX11_takeAmount_13 : decode cX11_takeAmount 13 = .ok (.iload_n 1, 1) := by decide +kernel
theorem dX11_takeAmount_14 : decode cX11_takeAmount 14 = .ok (.iaload, 1) := by decide +kernel
theorem dX11_takeAmount_15 : decode cX11_takeAmount 15 = .ok (.ifCond .le 7, 3) := by decide +kernel
theorem dX11_takeAmount_18 : decode cX11_takeAmount 18 = .ok (.iconst 1, 1) := by decide +kernel
theorem dX11_takeAmount_19 : decode cX11_takeAmount 19 = .ok (.goto 4, 3) := by decide +kernel
theorem dX11_takeAmount_22 : decode cX11_takeAmount 22 = .ok (.iconst 0, 1) := by decide +kernel
theorem dX11_takeAmount_23 : decode cX11_takeAmount 23 = .ok (.putfield 218, 3) := by decide +kernel
theorem dX11_takeAmount_26 : decode cX11_takeAmount 26 = .ok (.aload_n 0, 1) := by decide +kernel
theorem dX11_takeAmount_27 : decode cX11_takeAmount 27 = .ok (.getfield 218, 3) := by decide +kernel
theorem dX11_takeAmount_30 : decode cX11_takeAmount 30 = .ok (.ifCond .ne 26, 3) := by decide +kernel
theorem dX11_takeAmount_33 : decode cX11_takeAmount 33 = .ok (.aload_n 0, 1) := by decide +kernel
theorem dX11_takeAmount_34 : decode cX11_takeAmount 34 = .ok (.dup, 1) := by decide +kernel
theorem dX11_takeAmount_35 : decode cX11_takeAmount 35 = .ok (.getfield 212, 3) := by decide +kernel
theorem dX11_takeAmount_38 : decode cX11_takeAmount 38 = .ok (.iconst 1, 1) := by decide +kernel
theorem dX11_takeAmount_39 : decode cX11_takeAmount 39 = .ok (.iadd, 1) := by decide +kernel
theorem dX11_takeAmount_40 : decode cX11_takeAmount 40 = .ok (.putfield 212, 3) := by decide +kernel
theorem dX11_takeAmount_43 : decode cX11_takeAmount 43 = .ok (.aload_n 0, 1) := by decide +kernel
theorem dX11_takeAmount_44 : decode cX11_takeAmount 44 = .ok (.getfield 62, 3) := by decide +kernel
theorem dX11_takeAmount_47 : decode cX11_takeAmount 47 = .ok (.iload_n 1, 1) := by decide +kernel
theorem dX11_takeAmount_48 : decode cX11_takeAmount 48 = .ok (.aload_n 0, 1) := by decide +kernel
theorem dX11_takeAmount_49 : decode cX11_takeAmount 49 = .ok (.sipush 500, 3) := by decide +kernel
theorem dX11_takeAmount_52 : decode cX11_takeAmount 52 = .ok (.invokevirtual 225, 3) := by decide +kernel
theorem dX11_takeAmount_55 : decode cX11_takeAmount 55 = .ok (.iastore, 1) := by decide +kernel
theorem dX11_takeAmount_56 : decode cX11_takeAmount 56 = .ok (.return_, 1) := by decide +kernel
theorem dX11_takeDigit_0 : decode cX11_takeDigit 0 = .ok (.aload_n 0, 1) := by decide +kernel
theorem dX11_takeDigit_1 : decode cX11_takeDigit 1 = .ok (.invokevirtual 222, 3) := by decide +kernel
theorem dX11_takeDigit_4 : decode cX11_takeDigit 4 = .ok (.bipush 48, 2) := by decide +kernel
theorem dX11_takeDigit_6 : decode cX11_takeDigit 6 = .ok (.isub, 1) := by decide +kernel
theorem dX11_takeDigit_7 : decode cX11_takeDigit 7 = .ok (.istore_n 3, 1) := by decide +kernel
theorem dX11_takeDigit_8 : decode cX11_takeDigit 8 = .ok (.aload_n 0, 1) := by decide +kernel
theorem dX11_takeDigit_9 : decode cX11_takeDigit 9 = .ok (.aload_n 0, 1) := by decide +kernel
theorem dX11_takeDigit_10 : decode cX11_takeDigit 10 = .ok (.getfield 218, 3) := by decide +kernel
theorem dX11_takeDigit_13 : decode cX11_takeDigit 13 = .ok (.ifCond .ne 23, 3) := by decide +kernel
theorem dX11_takeDigit_16 : decode cX11_takeDigit 16 = .ok (.iload_n 3, 1) := by decide +kernel
theorem dX11_takeDigit_17 : decode cX11_takeDigit 17 = .ok (.iconst 0, 1) := by decide +kernel
theorem dX11_takeDigit_18 : decode cX11_takeDigit 18 = .ok (.iload_n 1, 1) := by decide +kernel
theorem dX11_takeDigit_19 : decode cX11_takeDigit 19 = .ok (.iconst 1, 1) := by decide +kernel
theorem dX11_takeDigit_20 : decode cX11_takeDigit 20 = .ok (.isub, 1) := by decide +kernel
theorem dX11_takeDigit_21 : decode cX11_takeDigit 21 = .ok (.invokestatic 76, 3) := by decide +kernel
theorem dX11_takeDigit_24 : decode cX11_takeDigit 24 = .ok (.ifCond .eq 12, 3) := by decide +kernel
theorem dX11_takeDigit_27 : decode cX11_takeDigit 27 = .ok (.iload_n 2, 1) := by decide +kernel
theorem dX11_takeDigit_28 : decode cX11_takeDigit 28 = .ok (.iload_n 3, 1) := by decide +kernel
theorem dX11_takeDigit_29 : decode cX11_takeDigit 29 = .ok (.ishr, 1) := by decide +kernel
theorem dX11_takeDigit_30 : decode cX11_takeDigit 30 = .ok (.iconst 1, 1) := by decide +kernel
theorem dX11_takeDigit_31 : decode cX11_takeDigit 31 = .ok (.iand, 1) := by decide +kernel
theorem dX11_takeDigit_32 : decode cX11_takeDigit 32 = .ok (.iconst 1, 1) := by decide +kernel
theorem dX11_takeDigit_33 : decode cX11_takeDigit 33 = .ok (.if_icmp .ne 7, 3) := by decide +kernel
theorem dX11_takeDigit_36 : decode cX11_takeDigit 36 = .ok (.iconst 1, 1) := by decide +kernel
theorem dX11_takeDigit_37 : decode cX11_takeDigit 37 = .ok (.goto 4, 3) := by decide +kernel
theorem dX11_takeDigit_40 : decode cX11_takeDigit 40 = .ok (.iconst 0, 1) := by decide +kernel
theorem dX11_takeDigit_41 : decode cX11_takeDigit 41 = .ok (.putfield 218, 3) := by decide +kernel
theorem dX11_takeDigit_44 : decode cX11_takeDigit 44 = .ok (.aload_n 0, 1) := by decide +kernel
theorem dX11_takeDigit_45 : decode cX11_takeDigit 45 = .ok (.dup, 1) := by decide +kernel
theorem dX11_takeDigit_46 : decode cX11_takeDigit 46 = .ok (.getfield 212, 3) := by decide +kernel
theorem dX11_takeDigit_49 : decode cX11_takeDigit 49 = .ok (.aload_n 0, 1) := by decide +kernel
theorem dX11_takeDigit_50 : decode cX11_takeDigit 50 = .ok (.getfield 218, 3) := by decide +kernel
theorem dX11_takeDigit_53 : decode cX11_takeDigit 53 = .ok (.ifCond .eq 7, 3) := by decide +kernel
theorem dX11_takeDigit_56 : decode cX11_takeDigit 56 = .ok (.iconst 0, 1) := by decide +kernel
theorem dX11_takeDigit_57 : decode cX11_takeDigit 57 = .ok (.goto 4, 3) := by decide +kernel
theorem dX11_takeDigit_60 : decode cX11_takeDigit 60 = .ok (.iconst 1, 1) := by decide +kernel
theorem dX11_takeDigit_61 : decode cX11_takeDigit 61 = .ok (.iadd, 1) := by decide +kernel
theorem dX11_takeDigit_62 : decode cX11_takeDigit 62 = .ok (.putfield 212, 3) := by decide +kernel
theorem dX11_takeDigit_65 : decode cX11_takeDigit 65 = .ok (.aload_n 0, 1) := by decide +kernel
theorem dX11_takeDigit_66 : decode cX11_takeDigit 66 = .ok (.getfield 218, 3) := by decide +kernel
theorem dX11_takeDigit_69 : decode cX11_takeDigit 69 = .ok (.ifCond .eq 7, 3) := by decide +kernel
theorem dX11_takeDigit_72 : decode cX11_takeDigit 72 = .ok (.iconst 0, 1) := by decide +kernel
theorem dX11_takeDigit_73 : decode cX11_takeDigit 73 = .ok (.goto 4, 3) := by decide +kernel
theorem dX11_takeDigit_76 : decode cX11_takeDigit 76 = .ok (.iload_n 3, 1) := by decide +kernel
theorem dX11_takeDigit_77 : decode cX11_takeDigit 77 = .ok (.ireturn, 1) := by decide +kernel
theorem dX11_takeStep_0 : decode cX11_takeStep 0 = .ok (.iconst 4, 1) := by decide +kernel
theorem dX11_takeStep_1 : decode cX11_takeStep 1 = .ok (.aload_n 0, 1) := by decide +kernel
theorem dX11_takeStep_2 : decode cX11_takeStep 2 = .ok (.getfield 228, 3) := by decide +kernel
theorem dX11_takeStep_5 : decode cX11_takeStep 5 = .ok (.imul, 1) := by decide +kernel
theorem dX11_takeStep_6 : decode cX11_takeStep 6 = .ok (.istore_n 1, 1) := by decide +kernel
theorem dX11_takeStep_7 : decode cX11_takeStep 7 = .ok (.aload_n 0, 1) := by decide +kernel
theorem dX11_takeStep_8 : decode cX11_takeStep 8 = .ok (.getfield 65, 3) := by decide +kernel
theorem dX11_takeStep_11 : decode cX11_takeStep 11 = .ok (.iload_n 1, 1) := by decide +kernel
theorem dX11_takeStep_12 : decode cX11_takeStep 12 = .ok (.aload_n 0, 1) := by decide +kernel
theorem dX11_takeStep_13 : decode cX11_takeStep 13 = .ok (.sipush 240, 3) := by decide +kernel
theorem dX11_takeStep_16 : decode cX11_takeStep 16 = .ok (.invokevirtual 225, 3) := by decide +kernel
theorem dX11_takeStep_19 : decode cX11_takeStep 19 = .ok (.iastore, 1) := by decide +kernel
theorem dX11_takeStep_20 : decode cX11_takeStep 20 = .ok (.aload_n 0, 1) := by decide +kernel
theorem dX11_takeStep_21 : decode cX11_takeStep 21 = .ok (.aload_n 0, 1) := by decide +kernel
theorem dX11_takeStep_22 : decode cX11_takeStep 22 = .ok (.getfield 218, 3) := by decide +kernel
theorem dX11_takeStep_25 : decode cX11_takeStep 25 = .ok (.ifCond .ne 12, 3) := by decide +kernel
theorem dX11_takeStep_28 : decode cX11_takeStep 28 = .ok (.aload_n 0, 1) := by decide +kernel
theorem dX11_takeStep_29 : decode cX11_takeStep 29 = .ok (.invokevirtual 222, 3) := by decide +kernel
theorem dX11_takeStep_32 : decode cX11_takeStep 32 = .ok (.bipush 47, 2) := by decide +kernel
theorem dX11_takeStep_34 : decode cX11_takeStep 34 = .ok (.if_icmp .eq 7, 3) := by decide +kernel
theorem dX11_takeStep_37 : decode cX11_takeStep 37 = .ok (.iconst 1, 1) := by decide +kernel
theorem dX11_takeStep_38 : decode cX11_takeStep 38 = .ok (.goto 4, 3) := by decide +kernel
theorem dX11_takeStep_41 : decode cX11_takeStep 41 = .ok (.iconst 0, 1) := by decide +kernel
theorem dX11_takeStep_42 : decode cX11_takeStep 42 = .ok (.putfield 218, 3) := by decide +kernel
theorem dX11_takeStep_45 : decode cX11_takeStep 45 = .ok (.aload_n 0, 1) := by decide +kernel
theorem dX11_takeStep_46 : decode cX11_takeStep 46 = .ok (.dup, 1) := by decide +kernel
theorem dX11_takeStep_47 : decode cX11_takeStep 47 = .ok (.getfield 212, 3) := by decide +kernel
theorem dX11_takeStep_50 : decode cX11_takeStep 50 = .ok (.aload_n 0, 1) := by decide +kernel
theorem dX11_takeStep_51 : decode cX11_takeStep 51 = .ok (.getfield 218, 3) := by decide +kernel
theorem dX11_takeStep_54 : decode cX11_takeStep 54 = .ok (.ifCond .eq 7, 3) := by decide +kernel
theorem dX11_takeStep_57 : decode cX11_takeStep 57 = .ok (.iconst 0, 1) := by decide +kernel
theorem dX11_takeStep_58 : decode cX11_takeStep 58 = .ok (.goto 4, 3) := by decide +kernel
theorem dX11_takeStep_61 : decode cX11_takeStep 61 = .ok (.iconst 1, 1) := by decide +kernel
theorem dX11_takeStep_62 : decode cX11_takeStep 62 = .ok (.iadd, 1) := by decide +kernel
theorem dX11_takeStep_63 : decode cX11_takeStep 63 = .ok (.putfield 212, 3) := by decide +kernel
theorem dX11_takeStep_66 : decode cX11_takeStep 66 = .ok (.aload_n 0, 1) := by decide +kernel
theorem dX11_takeStep_67 : decode cX11_takeStep 67 = .ok (.getfield 65, 3) := by decide +kernel
theorem dX11_takeStep_70 : decode cX11_takeStep 70 = .ok (.iload_n 1, 1) := by decide +kernel
theorem dX11_takeStep_71 : decode cX11_takeStep 71 = .ok (.iconst 1, 1) := by decide +kernel
theorem dX11_takeStep_72 : decode cX11_takeStep 72 = .ok (.iadd, 1) := by decide +kernel
theorem dX11_takeStep_73 : decode cX11_takeStep 73 = .ok (.aload_n 0, 1) := by decide +kernel
theorem dX11_takeStep_74 : decode cX11_takeStep 74 = .ok (.iconst 4, 1) := by decide +kernel
theorem dX11_takeStep_75 : decode cX11_takeStep 75 = .ok (.iconst 0, 1) := by decide +kernel
theorem dX11_takeStep_76 : decode cX11_takeStep 76 = .ok (.invokevirtual 231, 3) := by decide +kernel
theorem dX11_takeStep_79 : decode cX11_takeStep 79 = .ok (.iastore, 1) := by decide +kernel
theorem dX11_takeStep_80 : decode cX11_takeStep 80 = .ok (.aload_n 0, 1) := by decide +kernel
theorem dX11_takeStep_81 : decode cX11_takeStep 81 = .ok (.getfield 65, 3) := by decide +kernel
theorem dX11_takeStep_84 : decode cX11_takeStep 84 = .ok (.iload_n 1, 1) := by decide +kernel
theorem dX11_takeStep_85 : decode cX11_takeStep 85 = .ok (.iconst 2, 1) := by decide +kernel
theorem dX11_takeStep_86 : decode cX11_takeStep 86 = .ok (.iadd, 1) := by decide +kernel
theorem dX11_takeStep_87 : decode cX11_takeStep 87 = .ok (.iconst 0, 1) := by decide +kernel
theorem dX11_takeStep_88 : decode cX11_takeStep 88 = .ok (.iastore, 1) := by decide +kernel
theorem dX11_takeStep_89 : decode cX11_takeStep 89 = .ok (.aload_n 0, 1) := by decide +kernel
theorem dX11_takeStep_90 : decode cX11_takeStep 90 = .ok (.getfield 65, 3) := by decide +kernel
theorem dX11_takeStep_93 : decode cX11_takeStep 93 = .ok (.iload_n 1, 1) := by decide +kernel
theorem dX11_takeStep_94 : decode cX11_takeStep 94 = .ok (.iconst 3, 1) := by decide +kernel
theorem dX11_takeStep_95 : decode cX11_takeStep 95 = .ok (.iadd, 1) := by decide +kernel
theorem dX11_takeStep_96 : decode cX11_takeStep 96 = .ok (.aload_n 0, 1) := by decide +kernel
theorem dX11_takeStep_97 : decode cX11_takeStep 97 = .ok (.getfield 218, 3) := by decide +kernel
theorem dX11_takeStep_100 : decode cX11_takeStep 100 = .ok (.ifCond .ne 16, 3) := by decide +kernel
theorem dX11_takeStep_103 : decode cX11_takeStep 103 = .ok (.aload_n 0, 1) := by decide +kernel
theorem dX11_takeStep_104 : decode cX11_takeStep 104 = .ok (.invokevirtual 222, 3) := by decide +kernel
theorem dX11_takeStep_107 : decode cX11_takeStep 107 = .ok (.bipush 42, 2) := by decide +kernel
theorem dX11_takeStep_109 : decode cX11_takeStep 109 = .ok (.if_icmp .ne 7, 3) := by decide +kernel
theorem dX11_takeStep_112 : decode cX11_takeStep 112 = .ok (.iconst 1, 1) := by decide +kernel
theorem dX11_takeStep_113 : decode cX11_takeStep 113 = .ok (.goto 4, 3) := by decide +kernel
theorem dX11_takeStep_116 : decode cX11_takeStep 116 = .ok (.iconst 0, 1) := by decide +kernel
theorem dX11_takeStep_117 : decode cX11_takeStep 117 = .ok (.iastore, 1) := by decide +kernel
theorem dX11_takeStep_118 : decode cX11_takeStep 118 = .ok (.aload_n 0, 1) := by decide +kernel
theorem dX11_takeStep_119 : decode cX11_takeStep 119 = .ok (.dup, 1) := by decide +kernel
theorem dX11_takeStep_120 : decode cX11_takeStep 120 = .ok (.getfield 212, 3) := by decide +kernel
theorem dX11_takeStep_123 : decode cX11_takeStep 123 = .ok (.aload_n 0, 1) := by decide +kernel
theorem dX11_takeStep_124 : decode cX11_takeStep 124 = .ok (.getfield 65, 3) := by decide +kernel
theorem dX11_takeStep_127 : decode cX11_takeStep 127 = .ok (.iload_n 1, 1) := by decide +kernel
theorem dX11_takeStep_128 : decode cX11_takeStep 128 = .ok (.iconst 3, 1) := by decide +kernel
theorem dX11_takeStep_129 : decode cX11_takeStep 129 = .ok (.iadd, 1) := by decide +kernel
theorem dX11_takeStep_130 : decode cX11_takeStep 130 = .ok (.iaload, 1) := by decide +kernel
theorem dX11_takeStep_131 : decode cX11_takeStep 131 = .ok (.iadd, 1) := by decide +kernel
theorem dX11_takeStep_132 : decode cX11_takeStep 132 = .ok (.putfield 212, 3) := by decide +kernel
theorem dX11_takeStep_135 : decode cX11_takeStep 135 = .ok (.aload_n 0, 1) := by decide +kernel
theorem dX11_takeStep_136 : decode cX11_takeStep 136 = .ok (.getfield 218, 3) := by decide +kernel
theorem dX11_takeStep_139 : decode cX11_takeStep 139 = .ok (.ifCond .ne 67, 3) := by decide +kernel
theorem dX11_takeStep_142 : decode cX11_takeStep 142 = .ok (.aload_n 0, 1) := by decide +kernel
theorem dX11_takeStep_143 : decode cX11_takeStep 143 = .ok (.invokevirtual 222, 3) := by decide +kernel
theorem dX11_takeStep_146 : decode cX11_takeStep 146 = .ok (.bipush 64, 2) := by decide +kernel
theorem dX11_takeStep_148 : decode cX11_takeStep 148 = .ok (.if_icmp .ne 58, 3) := by decide +kernel
theorem dX11_takeStep_151 : decode cX11_takeStep 151 = .ok (.aload_n 0, 1) := by decide +kernel
theorem dX11_takeStep_152 : decode cX11_takeStep 152 = .ok (.dup, 1) := by decide +kernel
theorem dX11_takeStep_153 : decode cX11_takeStep 153 = .ok (.getfield 212, 3) := by decide +kernel
theorem dX11_takeStep_156 : decode cX11_takeStep 156 = .ok (.iconst 1, 1) := by decide +kernel
theorem dX11_takeStep_157 : decode cX11_takeStep 157 = .ok (.iadd, 1) := by decide +kernel
theorem dX11_takeStep_158 : decode cX11_takeStep 158 = .ok (.putfield 212, 3) := by decide +kernel
theorem dX11_takeStep_161 : decode cX11_takeStep 161 = .ok (.aload_n 0, 1) := by decide +kernel
theorem dX11_takeStep_162 : decode cX11_takeStep 162 = .ok (.aload_n 0, 1) := by decide +kernel
theorem dX11_takeStep_163 : decode cX11_takeStep 163 = .ok (.getfield 228, 3) := by decide +kernel
theorem dX11_takeStep_166 : decode cX11_takeStep 166 = .ok (.aload_n 0, 1) := by decide +kernel
theorem dX11_takeStep_167 : decode cX11_takeStep 167 = .ok (.getfield 65, 3) := by decide +kernel
theorem dX11_takeStep_170 : decode cX11_takeStep 170 = .ok (.iload_n 1, 1) := by decide +kernel
theorem dX11_takeStep_171 : decode cX11_takeStep 171 = .ok (.iconst 2, 1) := by decide +kernel
theorem dX11_takeStep_172 : decode cX11_takeStep 172 = .ok (.iadd, 1) := by decide +kernel
theorem dX11_takeStep_173 : decode cX11_takeStep 173 = .ok (.iaload, 1) := by decide +kernel
theorem dX11_takeStep_174 : decode cX11_takeStep 174 = .ok (.invokevirtual 231, 3) := by decide +kernel
theorem dX11_takeStep_177 : decode cX11_takeStep 177 = .ok (.istore_n 2, 1) := by decide +kernel
theorem dX11_takeStep_178 : decode cX11_takeStep 178 = .ok (.aload_n 0, 1) := by decide +kernel
theorem dX11_takeStep_179 : decode cX11_takeStep 179 = .ok (.getfield 65, 3) := by decide +kernel
theorem dX11_takeStep_182 : decode cX11_takeStep 182 = .ok (.iload_n 1, 1) := by decide +kernel
theorem dX11_takeStep_183 : decode cX11_takeStep 183 = .ok (.iconst 2, 1) := by decide +kernel
theorem dX11_takeStep_184 : decode cX11_takeStep 184 = .ok (.iadd, 1) := by decide +kernel
theorem dX11_takeStep_185 : decode cX11_takeStep 185 = .ok (.dup2, 1) := by decide +kernel
theorem dX11_takeStep_186 : decode cX11_takeStep 186 = .ok (.iaload, 1) := by decide +kernel
theorem dX11_takeStep_187 : decode cX11_takeStep 187 = .ok (.aload_n 0, 1) := by decide +kernel
theorem dX11_takeStep_188 : decode cX11_takeStep 188 = .ok (.getfield 218, 3) := by decide +kernel
theorem dX11_takeStep_191 : decode cX11_takeStep 191 = .ok (.ifCond .eq 7, 3) := by decide +kernel
theorem dX11_takeStep_194 : decode cX11_takeStep 194 = .ok (.iconst 0, 1) := by decide +kernel
theorem dX11_takeStep_195 : decode cX11_takeStep 195 = .ok (.goto 6, 3) := by decide +kernel
theorem dX11_takeStep_198 : decode cX11_takeStep 198 = .ok (.iconst 1, 1) := by decide +kernel
theorem dX11_takeStep_199 : decode cX11_takeStep 199 = .ok (.iload_n 2, 1) := by decide +kernel
theorem dX11_takeStep_200 : decode cX11_takeStep 200 = .ok (.ishl, 1) := by decide +kernel
theorem dX11_takeStep_201 : decode cX11_takeStep 201 = .ok (.ior, 1) := by decide +kernel
theorem dX11_takeStep_202 : decode cX11_takeStep 202 = .ok (.iastore, 1) := by decide +kernel
theorem dX11_takeStep_203 : decode cX11_takeStep 203 = .ok (.goto (-68), 3) := by decide +kernel
theorem dX11_takeStep_206 : decode cX11_takeStep 206 = .ok (.aload_n 0, 1) := by decide +kernel
theorem dX11_takeStep_207 : decode cX11_takeStep 207 = .ok (.dup, 1) := by decide +kernel
theorem dX11_takeStep_208 : decode cX11_takeStep 208 = .ok (.getfield 228, 3) := by decide +kernel
theorem dX11_takeStep_211 : decode cX11_takeStep 211 = .ok (.iconst 1, 1) := by decide +kernel
theorem dX11_takeStep_212 : decode cX11_takeStep 212 = .ok (.iadd, 1) := by decide +kernel
theorem dX11_takeStep_213 : decode cX11_takeStep 213 = .ok (.putfield 228, 3) := by decide +kernel
theorem dX11_takeStep_216 : decode cX11_takeStep 216 = .ok (.return_, 1) := by decide +kernel
theorem dX11_fault_0 : decode cX11_fault 0 = .ok (.aload_n 0, 1) := by decide +kernel
theorem dX11_fault_1 : decode cX11_fault 1 = .ok (.iconst 0, 1) := by decide +kernel
theorem dX11_fault_2 : decode cX11_fault 2 = .ok (.putfield 212, 3) := by decide +kernel
theorem dX11_fault_5 : decode cX11_fault 5 = .ok (.aload_n 0, 1) := by decide +kernel
theorem dX11_fault_6 : decode cX11_fault 6 = .ok (.iconst 0, 1) := by decide +kernel
theorem dX11_fault_7 : decode cX11_fault 7 = .ok (.putfield 218, 3) := by decide +kernel
theorem dX11_fault_10 : decode cX11_fault 10 = .ok (.aload_n 0, 1) := by decide +kernel
theorem dX11_fault_11 : decode cX11_fault 11 = .ok (.iconst 0, 1) := by decide +kernel
theorem dX11_fault_12 : decode cX11_fault 12 = .ok (.putfield 228, 3) := by decide +kernel
theorem dX11_fault_15 : decode cX11_fault 15 = .ok (.iconst 0, 1) := by decide +kernel
theorem dX11_fault_16 : decode cX11_fault 16 = .ok (.istore_n 1, 1) := by decide +kernel
theorem dX11_fault_17 : decode cX11_fault 17 = .ok (.iload_n 1, 1) := by decide +kernel
theorem dX11_fault_18 : decode cX11_fault 18 = .ok (.bipush 8, 2) := by decide +kernel
theorem dX11_fault_20 : decode cX11_fault 20 = .ok (.if_icmp .ge 16, 3) := by decide +kernel
theorem dX11_fault_23 : decode cX11_fault 23 = .ok (.aload_n 0, 1) := by decide +kernel
theorem dX11_fault_24 : decode cX11_fault 24 = .ok (.getfield 62, 3) := by decide +kernel
theorem dX11_fault_27 : decode cX11_fault 27 = .ok (.iload_n 1, 1) := by decide +kernel
theorem dX11_fault_28 : decode cX11_fault 28 = .ok (.iconst 0, 1) := by decide +kernel
theorem dX11_fault_29 : decode cX11_fault 29 = .ok (.iastore, 1) := by decide +kernel
theorem dX11_fault_30 : decode cX11_fault 30 = .ok (.iinc 1 1, 3) := by decide +kernel
theorem dX11_fault_33 : decode cX11_fault 33 = .ok (.goto (-16), 3) := by decide +kernel
theorem dX11_fault_36 : decode cX11_fault 36 = .ok (.aload_n 0, 1) := by decide +kernel
theorem dX11_fault_37 : decode cX11_fault 37 = .ok (.aload_n 0, 1) := by decide +kernel
theorem dX11_fault_38 : decode cX11_fault 38 = .ok (.bipush 20, 2) := by decide +kernel
theorem dX11_fault_40 : decode cX11_fault 40 = .ok (.invokevirtual 225, 3) := by decide +kernel
theorem dX11_fault_43 : decode cX11_fault 43 = .ok (.putfield 234, 3) := by decide +kernel
theorem dX11_fault_46 : decode cX11_fault 46 = .ok (.aload_n 0, 1) := by decide +kernel
theorem dX11_fault_47 : decode cX11_fault 47 = .ok (.getfield 218, 3) := by decide +kernel
theorem dX11_fault_50 : decode cX11_fault 50 = .ok (.ifCond .ne 24, 3) := by decide +kernel
theorem dX11_fault_53 : decode cX11_fault 53 = .ok (.aload_n 0, 1) := by decide +kernel
theorem dX11_fault_54 : decode cX11_fault 54 = .ok (.invokevirtual 222, 3) := by decide +kernel
theorem dX11_fault_57 : decode cX11_fault 57 = .ok (.bipush 97, 2) := by decide +kernel
theorem dX11_fault_59 : decode cX11_fault 59 = .ok (.bipush 104, 2) := by decide +kernel
theorem dX11_fault_61 : decode cX11_fault 61 = .ok (.invokestatic 76, 3) := by decide +kernel
theorem dX11_fault_64 : decode cX11_fault 64 = .ok (.ifCond .eq 10, 3) := by decide +kernel
theorem dX11_fault_67 : decode cX11_fault 67 = .ok (.aload_n 0, 1) := by decide +kernel
theorem dX11_fault_68 : decode cX11_fault 68 = .ok (.invokevirtual 237, 3) := by decide +kernel
theorem dX11_fault_71 : decode cX11_fault 71 = .ok (.goto (-25), 3) := by decide +kernel
theorem dX11_fault_74 : decode cX11_fault 74 = .ok (.aload_n 0, 1) := by decide +kernel
theorem dX11_fault_75 : decode cX11_fault 75 = .ok (.getfield 218, 3) := by decide +kernel
theorem dX11_fault_78 : decode cX11_fault 78 = .ok (.ifCond .ne 38, 3) := by decide +kernel
theorem dX11_fault_81 : decode cX11_fault 81 = .ok (.aload_n 0, 1) := by decide +kernel
theorem dX11_fault_82 : decode cX11_fault 82 = .ok (.invokevirtual 222, 3) := by decide +kernel
theorem dX11_fault_85 : decode cX11_fault 85 = .ok (.bipush 59, 2) := by decide +kernel
theorem dX11_fault_87 : decode cX11_fault 87 = .ok (.if_icmp .ne 29, 3) := by decide +kernel
theorem dX11_fault_90 : decode cX11_fault 90 = .ok (.aload_n 0, 1) := by decide +kernel
theorem dX11_fault_91 : decode cX11_fault 91 = .ok (.getfield 228, 3) := by decide +kernel
theorem dX11_fault_94 : decode cX11_fault 94 = .ok (.bipush 8, 2) := by decide +kernel
theorem dX11_fault_96 : decode cX11_fault 96 = .ok (.if_icmp .ge 20, 3) := by decide +kernel
theorem dX11_fault_99 : decode cX11_fault 99 = .ok (.aload_n 0, 1) := by decide +kernel
theorem dX11_fault_100 : decode cX11_fault 100 = .ok (.dup, 1) := by decide +kernel
theorem dX11_fault_101 : decode cX11_fault 101 = .ok (.getfield 212, 3) := by decide +kernel
theorem dX11_fault_104 : decode cX11_fault 104 = .ok (.iconst 1, 1) := by decide +kernel
theorem dX11_fault_105 : decode cX11_fault 105 = .ok (.iadd, 1) := by decide +kernel
theorem dX11_fault_106 : decode cX11_fault 106 = .ok (.putfield 212, 3) := by decide +kernel
theorem dX11_fault_109 : decode cX11_fault 109 = .ok (.aload_n 0, 1) := by decide +kernel
theorem dX11_fault_110 : decode cX11_fault 110 = .ok (.invokevirtual 240, 3) := by decide +kernel
theorem dX11_fault_113 : decode cX11_fault 113 = .ok (.goto (-39), 3) := by decide +kernel
theorem dX11_fault_116 : decode cX11_fault 116 = .ok (.aload_n 0, 1) := by decide +kernel
theorem dX11_fault_117 : decode cX11_fault 117 = .ok (.getfield 218, 3) := by decide +kernel
theorem dX11_fault_120 : decode cX11_fault 120 = .ok (.ifCond .ne 14, 3) := by decide +kernel
theorem dX11_fault_123 : decode cX11_fault 123 = .ok (.aload_n 0, 1) := by decide +kernel
theorem dX11_fault_124 : decode cX11_fault 124 = .ok (.getfield 212, 3) := by decide +kernel
theorem dX11_fault_127 : decode cX11_fault 127 = .ok (.aload_n 0, 1) := by decide +kernel
theorem dX11_fault_128 : decode cX11_fault 128 = .ok (.getfield 215, 3) := by decide +kernel
theorem dX11_fault_131 : decode cX11_fault 131 = .ok (.if_icmp .ge 10, 3) := by decide +kernel
theorem dX11_fault_134 : decode cX11_fault 134 = .ok (.aload_n 0, 1) := by decide +kernel
theorem dX11_fault_135 : decode cX11_fault 135 = .ok (.getfield 212, 3) := by decide +kernel
theorem dX11_fault_138 : decode cX11_fault 138 = .ok (.goto 5, 3) := by decide +kernel
theorem dX11_fault_141 : decode cX11_fault 141 = .ok (.bipush (-6), 2) := by decide +kernel
theorem dX11_fault_143 : decode cX11_fault 143 = .ok (.ireturn, 1) := by decide +kernel
theorem dX11_recipe_0 : decode cX11_recipe 0 = .ok (.aload_n 0, 1) := by decide +kernel
theorem dX11_recipe_1 : decode cX11_recipe 1 = .ok (.invokevirtual 243, 3) := by decide +kernel
theorem dX11_recipe_4 : decode cX11_recipe 4 = .ok (.bipush (-6), 2) := by decide +kernel
theorem dX11_recipe_6 : decode cX11_recipe 6 = .ok (.if_icmp .eq 6, 3) := by decide +kernel
theorem dX11_recipe_9 : decode cX11_recipe 9 = .ok (.bipush (-3), 2) := by decide +kernel
theorem dX11_recipe_11 : decode cX11_recipe 11 = .ok (.ireturn, 1) := by decide +kernel
theorem dX11_recipe_12 : decode cX11_recipe 12 = .ok (.aload_n 0, 1) := by decide +kernel
theorem dX11_recipe_13 : decode cX11_recipe 13 = .ok (.getfield 7, 3) := by decide +kernel
theorem dX11_recipe_16 : decode cX11_recipe 16 = .ok (.iconst 2, 1) := by decide +kernel
theorem dX11_recipe_17 : decode cX11_recipe 17 = .ok (.iaload, 1) := by decide +kernel
theorem dX11_recipe_18 : decode cX11_recipe 18 = .ok (.iconst 4, 1) := by decide +kernel
theorem dX11_recipe_19 : decode cX11_recipe 19 = .ok (.if_icmp .ne 6, 3) := by decide +kernel
theorem dX11_recipe_22 : decode cX11_recipe 22 = .ok (.bipush (-4), 2) := by decide +kernel
theorem dX11_recipe_24 : decode cX11_recipe 24 = .ok (.ireturn, 1) := by decide +kernel
theorem dX11_recipe_25 : decode cX11_recipe 25 = .ok (.aload_n 0, 1) := by decide +kernel
theorem dX11_recipe_26 : decode cX11_recipe 26 = .ok (.getfield 7, 3) := by decide +kernel
theorem dX11_recipe_29 : decode cX11_recipe 29 = .ok (.iconst 1, 1) := by decide +kernel
theorem dX11_recipe_30 : decode cX11_recipe 30 = .ok (.iaload, 1) := by decide +kernel
theorem dX11_recipe_31 : decode cX11_recipe 31 = .ok (.istore_n 1, 1) := by decide +kernel
theorem dX11_recipe_32 : decode cX11_recipe 32 = .ok (.iload_n 1, 1) := by decide +kernel
theorem dX11_recipe_33 : decode cX11_recipe 33 = .ok (.bipush 8, 2) := by decide +kernel
theorem dX11_recipe_35 : decode cX11_recipe 35 = .ok (.if_icmp .ge 21, 3) := by decide +kernel
theorem dX11_recipe_38 : decode cX11_recipe 38 = .ok (.aload_n 0, 1) := by decide +kernel
theorem dX11_recipe_39 : decode cX11_recipe 39 = .ok (.getfield 62, 3) := by decide +kernel
theorem dX11_recipe_42 : decode cX11_recipe 42 = .ok (.iload_n 1, 1) := by decide +kernel
theorem dX11_recipe_43 : decode cX11_recipe 43 = .ok (.iaload, 1) := by decide +kernel
theorem dX11_recipe_44 : decode cX11_recipe 44 = .ok (.ifCond .le 6, 3) := by decide +kernel
theorem dX11_recipe_47 : decode cX11_recipe 47 = .ok (.bipush (-5), 2) := by decide +kernel
theorem dX11_recipe_49 : decode cX11_recipe 49 = .ok (.ireturn, 1) := by decide +kernel
theorem dX11_recipe_50 : decode cX11_recipe 50 = .ok (.iinc 1 1, 3) := by decide +kernel
theorem dX11_recipe_53 : decode cX11_recipe 53 = .ok (.goto (-21), 3) := by decide +kernel
theorem dX11_recipe_56 : decode cX11_recipe 56 = .ok (.aload_n 0, 1) := by decide +kernel
theorem dX11_recipe_57 : decode cX11_recipe 57 = .ok (.invokevirtual 80, 3) := by decide +kernel
theorem dX11_recipe_60 : decode cX11_recipe 60 = .ok (.sipush 374, 3) := by decide +kernel
theorem dX11_recipe_63 : decode cX11_recipe 63 = .ok (.bipush 43, 2) := by decide +kernel
theorem dX11_recipe_65 : decode cX11_recipe 65 = .ok (.aload_n 0, 1) := by decide +kernel
theorem dX11_recipe_66 : decode cX11_recipe 66 = .ok (.getfield 7, 3) := by decide +kernel
theorem dX11_recipe_69 : decode cX11_recipe 69 = .ok (.iconst 2, 1) := by decide +kernel
theorem dX11_recipe_70 : decode cX11_recipe 70 = .ok (.iaload, 1) := by decide +kernel
theorem dX11_recipe_71 : decode cX11_recipe 71 = .ok (.imul, 1) := by decide +kernel
theorem dX11_recipe_72 : decode cX11_recipe 72 = .ok (.iadd, 1) := by decide +kernel
theorem dX11_recipe_73 : decode cX11_recipe 73 = .ok (.istore_n 1, 1) := by decide +kernel
theorem dX11_recipe_74 : decode cX11_recipe 74 = .ok (.aload_n 0, 1) := by decide +kernel
theorem dX11_recipe_75 : decode cX11_recipe 75 = .ok (.getfield 7, 3) := by decide +kernel
theorem dX11_recipe_78 : decode cX11_recipe 78 = .ok (.iconst 2, 1) := by decide +kernel
theorem dX11_recipe_79 : decode cX11_recipe 79 = .ok (.dup2, 1) := by decide +kernel
theorem dX11_recipe_80 : decode cX11_recipe 80 = .ok (.iaload, 1) := by decide +kernel
theorem dX11_recipe_81 : decode cX11_recipe 81 = .ok (.iconst 1, 1) := by decide +kernel
theorem dX11_recipe_82 : decode cX11_recipe 82 = .ok (.iadd, 1) := by decide +kernel
theorem dX11_recipe_83 : decode cX11_recipe 83 = .ok (.iastore, 1) := by decide +kernel
theorem dX11_recipe_84 : decode cX11_recipe 84 = .ok (.aload_n 0, 1) := by decide +kernel
theorem dX11_recipe_85 : decode cX11_recipe 85 = .ok (.getfield 7, 3) := by decide +kernel
theorem dX11_recipe_88 : decode cX11_recipe 88 = .ok (.iload_n 1, 1) := by decide +kernel
theorem dX11_recipe_89 : decode cX11_recipe 89 = .ok (.iconst 0, 1) := by decide +kernel
theorem dX11_recipe_90 : decode cX11_recipe 90 = .ok (.iadd, 1) := by decide +kernel
theorem dX11_recipe_91 : decode cX11_recipe 91 = .ok (.aload_n 0, 1) := by decide +kernel
theorem dX11_recipe_92 : decode cX11_recipe 92 = .ok (.getfield 234, 3) := by decide +kernel
theorem dX11_recipe_95 : decode cX11_recipe 95 = .ok (.iastore, 1) := by decide +kernel
theorem dX11_recipe_96 : decode cX11_recipe 96 = .ok (.aload_n 0, 1) := by decide +kernel
theorem dX11_recipe_97 : decode cX11_recipe 97 = .ok (.getfield 7, 3) := by decide +kernel
theorem dX11_recipe_100 : decode cX11_recipe 100 = .ok (.iload_n 1, 1) := by decide +kernel
theorem dX11_recipe_101 : decode cX11_recipe 101 = .ok (.iconst 1, 1) := by decide +kernel
theorem dX11_recipe_102 : decode cX11_recipe 102 = .ok (.iadd, 1) := by decide +kernel
theorem dX11_recipe_103 : decode cX11_recipe 103 = .ok (.aload_n 0, 1) := by decide +kernel
theorem dX11_recipe_104 : decode cX11_recipe 104 = .ok (.getfield 228, 3) := by decide +kernel
theorem dX11_recipe_107 : decode cX11_recipe 107 = .ok (.iastore, 1) := by decide +kernel
theorem dX11_recipe_108 : decode cX11_recipe 108 = .ok (.aload_n 0, 1) := by decide +kernel
theorem dX11_recipe_109 : decode cX11_recipe 109 = .ok (.getfield 7, 3) := by decide +kernel
theorem dX11_recipe_112 : decode cX11_recipe 112 = .ok (.iload_n 1, 1) := by decide +kernel
theorem dX11_recipe_113 : decode cX11_recipe 113 = .ok (.iconst 2, 1) := by decide +kernel
theorem dX11_recipe_114 : decode cX11_recipe 114 = .ok (.iadd, 1) := by decide +kernel
theorem dX11_recipe_115 : decode cX11_recipe 115 = .ok (.iconst 0, 1) := by decide +kernel
theorem dX11_recipe_116 : decode cX11_recipe 116 = .ok (.iastore, 1) := by decide +kernel
theorem dX11_recipe_117 : decode cX11_recipe 117 = .ok (.iconst 0, 1) := by decide +kernel
theorem dX11_recipe_118 : decode cX11_recipe 118 = .ok (.istore_n 2, 1) := by decide +kernel
theorem dX11_recipe_119 : decode cX11_recipe 119 = .ok (.iload_n 2, 1) := by decide +kernel
theorem dX11_recipe_120 : decode cX11_recipe 120 = .ok (.bipush 8, 2) := by decide +kernel
theorem dX11_recipe_122 : decode cX11_recipe 122 = .ok (.if_icmp .ge 25, 3) := by decide +kernel
theorem dX11_recipe_125 : decode cX11_recipe 125 = .ok (.aload_n 0, 1) := by decide +kernel
theorem dX11_recipe_126 : decode cX11_recipe 126 = .ok (.getfield 7, 3) := by decide +kernel
theorem dX11_recipe_129 : decode cX11_recipe 129 = .ok (.iload_n 1, 1) := by decide +kernel
theorem dX11_recipe_130 : decode cX11_recipe 130 = .ok (.iconst 3, 1) := by decide +kernel
theorem dX11_recipe_131 : decode cX11_recipe 131 = .ok (.iadd, 1) := by decide +kernel
theorem dX11_recipe_132 : decode cX11_recipe 132 = .ok (.iload_n 2, 1) := by decide +kernel
theorem dX11_recipe_133 : decode cX11_recipe 133 = .ok (.iadd, 1) := by decide +kernel
theorem dX11_recipe_134 : decode cX11_recipe 134 = .ok (.aload_n 0, 1) := by decide +kernel
theorem dX11_recipe_135 : decode cX11_recipe 135 = .ok (.getfield 62, 3) := by decide +kernel
theorem dX11_recipe_138 : decode cX11_recipe 138 = .ok (.iload_n 2, 1) := by decide +kernel
theorem dX11_recipe_139 : decode cX11_recipe 139 = .ok (.iaload, 1) := by decide +kernel
theorem dX11_recipe_140 : decode cX11_recipe 140 = .ok (.iastore, 1) := by decide +kernel
theorem dX11_recipe_141 : decode cX11_recipe 141 = .ok (.iinc 2 1, 3) := by decide +kernel
theorem dX11_recipe_144 : decode cX11_recipe 144 = .ok (.goto (-25), 3) := by decide +kernel
theorem dX11_recipe_147 : decode cX11_recipe 147 = .ok (.iconst 0, 1) := by decide +kernel
theorem dX11_recipe_148 : decode cX11_recipe 148 = .ok (.istore_n 2, 1) := by decide +kernel
theorem dX11_recipe_149 : decode cX11_recipe 149 = .ok (.iload_n 2, 1) := by decide +kernel
theorem dX11_recipe_150 : decode cX11_recipe 150 = .ok (.iconst 4, 1) := by decide +kernel
theorem dX11_recipe_151 : decode cX11_recipe 151 = .ok (.aload_n 0, 1) := by decide +kernel
theorem dX11_recipe_152 : decode cX11_recipe 152 = .ok (.getfield 228, 3) := by decide +kernel
theorem dX11_recipe_155 : decode cX11_recipe 155 = .ok (.imul, 1) := by decide +kernel
theorem dX11_recipe_156 : decode cX11_recipe 156 = .ok (.if_icmp .ge 26, 3) := by decide +kernel
theorem dX11_recipe_159 : decode cX11_recipe 159 = .ok (.aload_n 0, 1) := by decide +kernel
theorem dX11_recipe_160 : decode cX11_recipe 160 = .ok (.getfield 7, 3) := by decide +kernel
theorem dX11_recipe_163 : decode cX11_recipe 163 = .ok (.iload_n 1, 1) := by decide +kernel
theorem dX11_recipe_164 : decode cX11_recipe 164 = .ok (.bipush 11, 2) := by decide +kernel
theorem dX11_recipe_166 : decode cX11_recipe 166 = .ok (.iadd, 1) := by decide +kernel
theorem dX11_recipe_167 : decode cX11_recipe 167 = .ok (.iload_n 2, 1) := by decide +kernel
theorem dX11_recipe_168 : decode cX11_recipe 168 = .ok (.iadd, 1) := by decide +kernel
theorem dX11_recipe_169 : decode cX11_recipe 169 = .ok (.aload_n 0, 1) := by decide +kernel
theorem dX11_recipe_170 : decode cX11_recipe 170 = .ok (.getfield 65, 3) := by decide +kernel
theorem dX11_recipe_173 : decode cX11_recipe 173 = .ok (.iload_n 2, 1) := by decide +kernel
theorem dX11_recipe_174 : decode cX11_recipe 174 = .ok (.iaload, 1) := by decide +kernel
theorem dX11_recipe_175 : decode cX11_recipe 175 = .ok (.iastore, 1) := by decide +kernel
theorem dX11_recipe_176 : decode cX11_recipe 176 = .ok (.iinc 2 1, 3) := by decide +kernel
theorem dX11_recipe_179 : decode cX11_recipe 179 = .ok (.goto (-30), 3) := by decide +kernel
theorem dX11_recipe_182 : decode cX11_recipe 182 = .ok (.aload_n 0, 1) := by decide +kernel
theorem dX11_recipe_183 : decode cX11_recipe 183 = .ok (.iconst 0, 1) := by decide +kernel
theorem dX11_recipe_184 : decode cX11_recipe 184 = .ok (.putfield 215, 3) := by decide +kernel
theorem dX11_recipe_187 : decode cX11_recipe 187 = .ok (.aload_n 0, 1) := by decide +kernel
theorem dX11_recipe_188 : decode cX11_recipe 188 = .ok (.getfield 7, 3) := by decide +kernel
theorem dX11_recipe_191 : decode cX11_recipe 191 = .ok (.iconst 2, 1) := by decide +kernel
theorem dX11_recipe_192 : decode cX11_recipe 192 = .ok (.iaload, 1) := by decide +kernel
theorem dX11_recipe_193 : decode cX11_recipe 193 = .ok (.iconst 1, 1) := by decide +kernel
theorem dX11_recipe_194 : decode cX11_recipe 194 = .ok (.isub, 1) := by decide +kernel
theorem dX11_recipe_195 : decode cX11_recipe 195 = .ok (.ireturn, 1) := by decide +kernel
theorem dX11_amount_0 : decode cX11_amount 0 = .ok (.aload_n 0, 1) := by decide +kernel
theorem dX11_amount_1 : decode cX11_amount 1 = .ok (.iload_n 1, 1) := by decide +kernel
theorem dX11_amount_2 : decode cX11_amount 2 = .ok (.invokevirtual 246, 3) := by decide +kernel
theorem dX11_amount_5 : decode cX11_amount 5 = .ok (.ifCond .eq 11, 3) := by decide +kernel
theorem dX11_amount_8 : decode cX11_amount 8 = .ok (.aload_n 0, 1) := by decide +kernel
theorem dX11_amount_9 : decode cX11_amount 9 = .ok (.iload_n 2, 1) := by decide +kernel
theorem dX11_amount_10 : decode cX11_amount 10 = .ok (.invokevirtual 90, 3) := by decide +kernel
theorem dX11_amount_13 : decode cX11_amount 13 = .ok (.ifCond .ne 5, 3) := by decide +kernel
theorem dX11_amount_16 : decode cX11_amount 16 = .ok (.iconst (-1), 1) := by decide +kernel
theorem dX11_amount_17 : decode cX11_amount 17 = .ok (.ireturn, 1) := by decide +kernel
theorem dX11_amount_18 : decode cX11_amount 18 = .ok (.iload_n 3, 1) := by decide +kernel
theorem dX11_amount_19 : decode cX11_amount 19 = .ok (.iconst 0, 1) := by decide +kernel
theorem dX11_amount_20 : decode cX11_amount 20 = .ok (.sipush 500, 3) := by decide +kernel
theorem dX11_amount_23 : decode cX11_amount 23 = .ok (.invokestatic 76, 3) := by decide +kernel
theorem dX11_amount_26 : decode cX11_amount 26 = .ok (.ifCond .ne 6, 3) := by decide +kernel
theorem dX11_amount_29 : decode cX11_amount 29 = .ok (.bipush (-2), 2) := by decide +kernel
theorem dX11_amount_31 : decode cX11_amount 31 = .ok (.ireturn, 1) := by decide +kernel
theorem dX11_amount_32 : decode cX11_amount 32 = .ok (.aload_n 0, 1) := by decide +kernel
theorem dX11_amount_33 : decode cX11_amount 33 = .ok (.invokevirtual 80, 3) := by decide +kernel
theorem dX11_amount_36 : decode cX11_amount 36 = .ok (.aload_n 0, 1) := by decide +kernel
theorem dX11_amount_37 : decode cX11_amount 37 = .ok (.iload_n 1, 1) := by decide +kernel
theorem dX11_amount_38 : decode cX11_amount 38 = .ok (.iconst 3, 1) := by decide +kernel
theorem dX11_amount_39 : decode cX11_amount 39 = .ok (.iload_n 2, 1) := by decide +kernel
theorem dX11_amount_40 : decode cX11_amount 40 = .ok (.iadd, 1) := by decide +kernel
theorem dX11_amount_41 : decode cX11_amount 41 = .ok (.invokevirtual 68, 3) := by decide +kernel
theorem dX11_amount_44 : decode cX11_amount 44 = .ok (.istore 4, 2) := by decide +kernel
theorem dX11_amount_46 : decode cX11_amount 46 = .ok (.aload_n 0, 1) := by decide +kernel
theorem dX11_amount_47 : decode cX11_amount 47 = .ok (.getfield 7, 3) := by decide +kernel
theorem dX11_amount_50 : decode cX11_amount 50 = .ok (.sipush 374, 3) := by decide +kernel
theorem dX11_amount_53 : decode cX11_amount 53 = .ok (.bipush 43, 2) := by decide +kernel
theorem dX11_amount_55 : decode cX11_amount 55 = .ok (.iload_n 1, 1) := by decide +kernel
theorem dX11_amount_56 : decode cX11_amount 56 = .ok (.imul, 1) := by decide +kernel
theorem dX11_amount_57 : decode cX11_amount 57 = .ok (.iadd, 1) := by decide +kernel
theorem dX11_amount_58 : decode cX11_amount 58 = .ok (.iconst 3, 1) := by decide +kernel
theorem dX11_amount_59 : decode cX11_amount 59 = .ok (.iadd, 1) := by decide +kernel
theorem dX11_amount_60 : decode cX11_amount 60 = .ok (.iload_n 2, 1) := by decide +kernel
theorem dX11_amount_61 : decode cX11_amount 61 = .ok (.iadd, 1) := by decide +kernel
theorem dX11_amount_62 : decode cX11_amount 62 = .ok (.iload_n 3, 1) := by decide +kernel
theorem dX11_amount_63 : decode cX11_amount 63 = .ok (.iastore, 1) := by decide +kernel
theorem dX11_amount_64 : decode cX11_amount 64 = .ok (.iload 4, 2) := by decide +kernel
theorem dX11_amount_66 : decode cX11_amount 66 = .ok (.ireturn, 1) := by decide +kernel
theorem dX11_menu_0 : decode cX11_menu 0 = .ok (.aload_n 0, 1) := by decide +kernel
theorem dX11_menu_1 : decode cX11_menu 1 = .ok (.iload_n 1, 1) := by decide +kernel
theorem dX11_menu_2 : decode cX11_menu 2 = .ok (.invokevirtual 246, 3) := by decide +kernel
theorem dX11_menu_5 : decode cX11_menu 5 = .ok (.ifCond .ne 5, 3) := by decide +kernel
theorem dX11_menu_8 : decode cX11_menu 8 = .ok (.iconst (-1), 1) := by decide +kernel
theorem dX11_menu_9 : decode cX11_menu 9 = .ok (.ireturn, 1) := by decide +kernel
theorem dX11_menu_10 : decode cX11_menu 10 = .ok (.iload_n 2, 1) := by decide +kernel
theorem dX11_menu_11 : decode cX11_menu 11 = .ok (.iconst 0, 1) := by decide +kernel
theorem dX11_menu_12 : decode cX11_menu 12 = .ok (.bipush 20, 2) := by decide +kernel
theorem dX11_menu_14 : decode cX11_menu 14 = .ok (.invokestatic 76, 3) := by decide +kernel
theorem dX11_menu_17 : decode cX11_menu 17 = .ok (.ifCond .ne 6, 3) := by decide +kernel
theorem dX11_menu_20 : decode cX11_menu 20 = .ok (.bipush (-2), 2) := by decide +kernel
theorem dX11_menu_22 : decode cX11_menu 22 = .ok (.ireturn, 1) := by decide +kernel
theorem dX11_menu_23 : decode cX11_menu 23 = .ok (.aload_n 0, 1) := by decide +kernel
theorem dX11_menu_24 : decode cX11_menu 24 = .ok (.invokevirtual 80, 3) := by decide +kernel
theorem dX11_menu_27 : decode cX11_menu 27 = .ok (.aload_n 0, 1) := by decide +kernel
theorem dX11_menu_28 : decode cX11_menu 28 = .ok (.iload_n 1, 1) := by decide +kernel
theorem dX11_menu_29 : decode cX11_menu 29 = .ok (.iconst 2, 1) := by decide +kernel
theorem dX11_menu_30 : decode cX11_menu 30 = .ok (.invokevirtual 68, 3) := by decide +kernel
theorem dX11_menu_33 : decode cX11_menu 33 = .ok (.istore_n 3, 1) := by decide +kernel
theorem dX11_menu_34 : decode cX11_menu 34 = .ok (.aload_n 0, 1) := by decide +kernel
theorem dX11_menu_35 : decode cX11_menu 35 = .ok (.getfield 7, 3) := by decide +kernel
theorem dX11_menu_38 : decode cX11_menu 38 = .ok (.sipush 374, 3) := by decide +kernel
theorem dX11_menu_41 : decode cX11_menu 41 = .ok (.bipush 43, 2) := by decide +kernel
theorem dX11_menu_43 : decode cX11_menu 43 = .ok (.iload_n 1, 1) := by decide +kernel
theorem dX11_menu_44 : decode cX11_menu 44 = .ok (.imul, 1) := by decide +kernel
theorem dX11_menu_45 : decode cX11_menu 45 = .ok (.iadd, 1) := by decide +kernel
theorem dX11_menu_46 : decode cX11_menu 46 = .ok (.iconst 2, 1) := by decide +kernel
theorem dX11_menu_47 : decode cX11_menu 47 = .ok (.iadd, 1) := by decide +kernel
theorem dX11_menu_48 : decode cX11_menu 48 = .ok (.iload_n 2, 1) := by decide +kernel
theorem dX11_menu_49 : decode cX11_menu 49 = .ok (.iastore, 1) := by decide +kernel
theorem dX11_menu_50 : decode cX11_menu 50 = .ok (.iload_n 3, 1) := by decide +kernel
theorem dX11_menu_51 : decode cX11_menu 51 = .ok (.ireturn, 1) := by decide +kernel
theorem dX11_hands_0 : decode cX11_hands 0 = .ok (.iload_n 1, 1) := by decide +kernel
theorem dX11_hands_1 : decode cX11_hands 1 = .ok (.iconst 1, 1) := by decide +kernel
theorem dX11_hands_2 : decode cX11_hands 2 = .ok (.bipush 6, 2) := by decide +kernel
theorem dX11_hands_4 : decode cX11_hands 4 = .ok (.invokestatic 76, 3) := by decide +kernel
theorem dX11_hands_7 : decode cX11_hands 7 = .ok (.ifCond .ne 6, 3) := by decide +kernel
theorem dX11_hands_10 : decode cX11_hands 10 = .ok (.bipush (-2), 2) := by decide +kernel
theorem dX11_hands_12 : decode cX11_hands 12 = .ok (.ireturn, 1) := by decide +kernel
theorem dX11_hands_13 : decode cX11_hands 13 = .ok (.aload_n 0, 1) := by decide +kernel
theorem dX11_hands_14 : decode cX11_hands 14 = .ok (.invokevirtual 80, 3) := by decide +kernel
theorem dX11_hands_17 : decode cX11_hands 17 = .ok (.aload_n 0, 1) := by decide +kernel
theorem dX11_hands_18 : decode cX11_hands 18 = .ok (.getfield 7, 3) := by decide +kernel
theorem dX11_hands_21 : decode cX11_hands 21 = .ok (.iconst 3, 1) := by decide +kernel
theorem dX11_hands_22 : decode cX11_hands 22 = .ok (.iaload, 1) := by decide +kernel
theorem dX11_hands_23 : decode cX11_hands 23 = .ok (.istore_n 2, 1) := by decide +kernel
theorem dX11_hands_24 : decode cX11_hands 24 = .ok (.aload_n 0, 1) := by decide +kernel
theorem dX11_hands_25 : decode cX11_hands 25 = .ok (.getfield 7, 3) := by decide +kernel
theorem dX11_hands_28 : decode cX11_hands 28 = .ok (.iconst 3, 1) := by decide +kernel
theorem dX11_hands_29 : decode cX11_hands 29 = .ok (.iload_n 1, 1) := by decide +kernel
theorem dX11_hands_30 : decode cX11_hands 30 = .ok (.iastore, 1) := by decide +kernel
theorem dX11_hands_31 : decode cX11_hands 31 = .ok (.iload_n 2, 1) := by decide +kernel
theorem dX11_hands_32 : decode cX11_hands 32 = .ok (.ireturn, 1) := by decide +kernel
theorem dX11_about_0 : decode cX11_about 0 = .ok (.aload_n 0, 1) := by decide +kernel
theorem dX11_about_1 : decode cX11_about 1 = .ok (.iload_n 1, 1) := by decide +kernel
theorem dX11_about_2 : decode cX11_about 2 = .ok (.invokevirtual 90, 3) := by decide +kernel
theorem dX11_about_5 : decode cX11_about 5 = .ok (.ifCond .ne 5, 3) := by decide +kernel
theorem dX11_about_8 : decode cX11_about 8 = .ok (.iconst (-1), 1) := by decide +kernel
theorem dX11_about_9 : decode cX11_about 9 = .ok (.ireturn, 1) := by decide +kernel
theorem dX11_about_10 : decode cX11_about 10 = .ok (.iload_n 2, 1) := by decide +kernel
theorem dX11_about_11 : decode cX11_about 11 = .ok (.tableswitch 119 0 11 #[61, 61, 61, 61, 68, 89, 95, 101, 107, 107, 107, 107], 61) := by decide +kernel
theorem dX11_about_72 : decode cX11_about 72 = .ok (.aload_n 0, 1) := by decide +kernel
theorem dX11_about_73 : decode cX11_about 73 = .ok (.iload_n 1, 1) := by decide +kernel
theorem dX11_about_74 : decode cX11_about 74 = .ok (.iload_n 2, 1) := by decide +kernel
theorem dX11_about_75 : decode cX11_about 75 = .ok (.invokevirtual 87, 3) := by decide +kernel
theorem dX11_about_78 : decode cX11_about 78 = .ok (.ireturn, 1) := by decide +kernel
theorem dX11_about_79 : decode cX11_about 79 = .ok (.aload_n 0, 1) := by decide +kernel
theorem dX11_about_80 : decode cX11_about 80 = .ok (.iload_n 1, 1) := by decide +kernel
theorem dX11_about_81 : decode cX11_about 81 = .ok (.iconst 3, 1) := by decide +kernel
theorem dX11_about_82 : decode cX11_about 82 = .ok (.invokevirtual 87, 3) := by decide +kernel
theorem dX11_about_85 : decode cX11_about 85 = .ok (.ifCond .ge 8, 3) := by decide +kernel
theorem dX11_about_88 : decode cX11_about 88 = .ok (.bipush (-6), 2) := by decide +kernel
theorem dX11_about_90 : decode cX11_about 90 = .ok (.goto 9, 3) := by decide +kernel
theorem dX11_about_93 : decode cX11_about 93 = .ok (.aload_n 0, 1) := by decide +kernel
theorem dX11_about_94 : decode cX11_about 94 = .ok (.iload_n 1, 1) := by decide +kernel
theorem dX11_about_95 : decode cX11_about 95 = .ok (.iconst 4, 1) := by decide +kernel
theorem dX11_about_96 : decode cX11_about 96 = .ok (.invokevirtual 87, 3) := by decide +kernel
theorem dX11_about_99 : decode cX11_about 99 = .ok (.ireturn, 1) := by decide +kernel
theorem dX11_about_100 : decode cX11_about 100 = .ok (.aload_n 0, 1) := by decide +kernel
theorem dX11_about_101 : decode cX11_about 101 = .ok (.iload_n 1, 1) := by decide +kernel
theorem dX11_about_102 : decode cX11_about 102 = .ok (.invokevirtual 103, 3) := by decide +kernel
theorem dX11_about_105 : decode cX11_about 105 = .ok (.ireturn, 1) := by decide +kernel
theorem dX11_about_106 : decode cX11_about 106 = .ok (.aload_n 0, 1) := by decide +kernel
theorem dX11_about_107 : decode cX11_about 107 = .ok (.iload_n 1, 1) := by decide +kernel
theorem dX11_about_108 : decode cX11_about 108 = .ok (.invokevirtual 249, 3) := by decide +kernel
theorem dX11_about_111 : decode cX11_about 111 = .ok (.ireturn, 1) := by decide +kernel
theorem dX11_about_112 : decode cX11_about 112 = .ok (.aload_n 0, 1) := by decide +kernel
theorem dX11_about_113 : decode cX11_about 113 = .ok (.iload_n 1, 1) := by decide +kernel
theorem dX11_about_114 : decode cX11_about 114 = .ok (.invokevirtual 252, 3) := by decide +kernel
theorem dX11_about_117 : decode cX11_about 117 = .ok (.ireturn, 1) := by decide +kernel
theorem dX11_about_118 : decode cX11_about 118 = .ok (.aload_n 0, 1) := by decide +kernel
theorem dX11_about_119 : decode cX11_about 119 = .ok (.iload_n 1, 1) := by decide +kernel
theorem dX11_about_120 : decode cX11_about 120 = .ok (.iconst 5, 1) := by decide +kernel
theorem dX11_about_121 : decode cX11_about 121 = .ok (.iload_n 2, 1) := by decide +kernel
theorem dX11_about_122 : decode cX11_about 122 = .ok (.iadd, 1) := by decide +kernel
theorem dX11_about_123 : decode cX11_about 123 = .ok (.bipush 8, 2) := by decide +kernel
theorem dX11_about_125 : decode cX11_about 125 = .ok (.isub, 1) := by decide +kernel
theorem dX11_about_126 : decode cX11_about 126 = .ok (.invokevirtual 87, 3) := by decide +kernel
theorem dX11_about_129 : decode cX11_about 129 = .ok (.ireturn, 1) := by decide +kernel
theorem dX11_about_130 : decode cX11_about 130 = .ok (.bipush (-2), 2) := by decide +kernel
theorem dX11_about_132 : decode cX11_about 132 = .ok (.ireturn, 1) := by decide +kernel
theorem dX11_ofTin_0 : decode cX11_ofTin 0 = .ok (.aload_n 0, 1) := by decide +kernel
theorem dX11_ofTin_1 : decode cX11_ofTin 1 = .ok (.iload_n 1, 1) := by decide +kernel
theorem dX11_ofTin_2 : decode cX11_ofTin 2 = .ok (.invokevirtual 90, 3) := by decide +kernel
theorem dX11_ofTin_5 : decode cX11_ofTin 5 = .ok (.ifCond .eq 17, 3) := by decide +kernel
theorem dX11_ofTin_8 : decode cX11_ofTin 8 = .ok (.iload_n 2, 1) := by decide +kernel
theorem dX11_ofTin_9 : decode cX11_ofTin 9 = .ok (.ifCond .lt 13, 3) := by decide +kernel
theorem dX11_ofTin_12 : decode cX11_ofTin 12 = .ok (.iload_n 2, 1) := by decide +kernel
theorem dX11_ofTin_13 : decode cX11_ofTin 13 = .ok (.aload_n 0, 1) := by decide +kernel
theorem dX11_ofTin_14 : decode cX11_ofTin 14 = .ok (.iload_n 1, 1) := by decide +kernel
theorem dX11_ofTin_15 : decode cX11_ofTin 15 = .ok (.iconst 2, 1) := by decide +kernel
theorem dX11_ofTin_16 : decode cX11_ofTin 16 = .ok (.invokevirtual 87, 3) := by decide +kernel
theorem dX11_ofTin_19 : decode cX11_ofTin 19 = .ok (.if_icmp .lt 5, 3) := by decide +kernel
theorem dX11_ofTin_22 : decode cX11_ofTin 22 = .ok (.iconst (-1), 1) := by decide +kernel
theorem dX11_ofTin_23 : decode cX11_ofTin 23 = .ok (.ireturn, 1) := by decide +kernel
theorem dX11_ofTin_24 : decode cX11_ofTin 24 = .ok (.iload_n 3, 1) := by decide +kernel
theorem dX11_ofTin_25 : decode cX11_ofTin 25 = .ok (.iconst 0, 1) := by decide +kernel
theorem dX11_ofTin_26 : decode cX11_ofTin 26 = .ok (.iconst 2, 1) := by decide +kernel
theorem dX11_ofTin_27 : decode cX11_ofTin 27 = .ok (.invokestatic 76, 3) := by decide +kernel
theorem dX11_ofTin_30 : decode cX11_ofTin 30 = .ok (.ifCond .ne 6, 3) := by decide +kernel
theorem dX11_ofTin_33 : decode cX11_ofTin 33 = .ok (.bipush (-2), 2) := by decide +kernel
theorem dX11_ofTin_35 : decode cX11_ofTin 35 = .ok (.ireturn, 1) := by decide +kernel
theorem dX11_ofTin_36 : decode cX11_ofTin 36 = .ok (.iload_n 3, 1) := by decide +kernel
theorem dX11_ofTin_37 : decode cX11_ofTin 37 = .ok (.iconst 2, 1) := by decide +kernel
theorem dX11_ofTin_38 : decode cX11_ofTin 38 = .ok (.if_icmp .ge 17, 3) := by decide +kernel
theorem dX11_ofTin_41 : decode cX11_ofTin 41 = .ok (.aload_n 0, 1) := by decide +kernel
theorem dX11_ofTin_42 : decode cX11_ofTin 42 = .ok (.iload_n 1, 1) := by decide +kernel
theorem dX11_ofTin_43 : decode cX11_ofTin 43 = .ok (.bipush 9, 2) := by decide +kernel
theorem dX11_ofTin_45 : decode cX11_ofTin 45 = .ok (.iconst 2, 1) := by decide +kernel
theorem dX11_ofTin_46 : decode cX11_ofTin 46 = .ok (.iload_n 2, 1) := by decide +kernel
theorem dX11_ofTin_47 : decode cX11_ofTin 47 = .ok (.imul, 1) := by decide +kernel
theorem dX11_ofTin_48 : decode cX11_ofTin 48 = .ok (.iadd, 1) := by decide +kernel
theorem dX11_ofTin_49 : decode cX11_ofTin 49 = .ok (.iload_n 3, 1) := by decide +kernel
theorem dX11_ofTin_50 : decode cX11_ofTin 50 = .ok (.iadd, 1) := by decide +kernel
theorem dX11_ofTin_51 : decode cX11_ofTin 51 = .ok (.invokevirtual 87, 3) := by decide +kernel
theorem dX11_ofTin_54 : decode cX11_ofTin 54 = .ok (.ireturn, 1) := by decide +kernel
theorem dX11_ofTin_55 : decode cX11_ofTin 55 = .ok (.aload_n 0, 1) := by decide +kernel
theorem dX11_ofTin_56 : decode cX11_ofTin 56 = .ok (.invokevirtual 150, 3) := by decide +kernel
theorem dX11_ofTin_59 : decode cX11_ofTin 59 = .ok (.aload_n 0, 1) := by decide +kernel
theorem dX11_ofTin_60 : decode cX11_ofTin 60 = .ok (.getfield 50, 3) := by decide +kernel
theorem dX11_ofTin_63 : decode cX11_ofTin 63 = .ok (.iconst 3, 1) := by decide +kernel
theorem dX11_ofTin_64 : decode cX11_ofTin 64 = .ok (.iload_n 1, 1) := by decide +kernel
theorem dX11_ofTin_65 : decode cX11_ofTin 65 = .ok (.imul, 1) := by decide +kernel
theorem dX11_ofTin_66 : decode cX11_ofTin 66 = .ok (.iload_n 2, 1) := by decide +kernel
theorem dX11_ofTin_67 : decode cX11_ofTin 67 = .ok (.iadd, 1) := by decide +kernel
theorem dX11_ofTin_68 : decode cX11_ofTin 68 = .ok (.iaload, 1) := by decide +kernel
theorem dX11_ofTin_69 : decode cX11_ofTin 69 = .ok (.ireturn, 1) := by decide +kernel
theorem dX11_needs_0 : decode cX11_needs 0 = .ok (.aload_n 0, 1) := by decide +kernel
theorem dX11_needs_1 : decode cX11_needs 1 = .ok (.iload_n 1, 1) := by decide +kernel
theorem dX11_needs_2 : decode cX11_needs 2 = .ok (.invokevirtual 90, 3) := by decide +kernel
theorem dX11_needs_5 : decode cX11_needs 5 = .ok (.ifCond .ne 5, 3) := by decide +kernel
theorem dX11_needs_8 : decode cX11_needs 8 = .ok (.iconst (-1), 1) := by decide +kernel
theorem dX11_needs_9 : decode cX11_needs 9 = .ok (.ireturn, 1) := by decide +kernel
theorem dX11_needs_10 : decode cX11_needs 10 = .ok (.aload_n 0, 1) := by decide +kernel
theorem dX11_needs_11 : decode cX11_needs 11 = .ok (.invokevirtual 150, 3) := by decide +kernel
theorem dX11_needs_14 : decode cX11_needs 14 = .ok (.iload_n 2, 1) := by decide +kernel
theorem dX11_needs_15 : decode cX11_needs 15 = .ok (.tableswitch 101 0 7 #[45, 52, 59, 66, 73, 80, 87, 94], 45) := by decide +kernel
theorem dX11_needs_60 : decode cX11_needs 60 = .ok (.aload_n 0, 1) := by decide +kernel
theorem dX11_needs_61 : decode cX11_needs 61 = .ok (.getfield 26, 3) := by decide +kernel
theorem dX11_needs_64 : decode cX11_needs 64 = .ok (.iload_n 1, 1) := by decide +kernel
theorem dX11_needs_65 : decode cX11_needs 65 = .ok (.iaload, 1) := by decide +kernel
theorem dX11_needs_66 : decode cX11_needs 66 = .ok (.ireturn, 1) := by decide +kernel
theorem dX11_needs_67 : decode cX11_needs 67 = .ok (.aload_n 0, 1) := by decide +kernel
theorem dX11_needs_68 : decode cX11_needs 68 = .ok (.getfield 29, 3) := by decide +kernel
theorem dX11_needs_71 : decode cX11_needs 71 = .ok (.iload_n 1, 1) := by decide +kernel
theorem dX11_needs_72 : decode cX11_needs 72 = .ok (.iaload, 1) := by decide +kernel
theorem dX11_needs_73 : decode cX11_needs 73 = .ok (.ireturn, 1) := by decide +kernel
theorem dX11_needs_74 : decode cX11_needs 74 = .ok (.aload_n 0, 1) := by decide +kernel
theorem dX11_needs_75 : decode cX11_needs 75 = .ok (.getfield 32, 3) := by decide +kernel
theorem dX11_needs_78 : decode cX11_needs 78 = .ok (.iload_n 1, 1) := by decide +kernel
theorem dX11_needs_79 : decode cX11_needs 79 = .ok (.iaload, 1) := by decide +kernel
theorem dX11_needs_80 : decode cX11_needs 80 = .ok (.ireturn, 1) := by decide +kernel
theorem dX11_needs_81 : decode cX11_needs 81 = .ok (.aload_n 0, 1) := by decide +kernel
theorem dX11_needs_82 : decode cX11_needs 82 = .ok (.getfield 35, 3) := by decide +kernel
theorem dX11_needs_85 : decode cX11_needs 85 = .ok (.iload_n 1, 1) := by decide +kernel
theorem dX11_needs_86 : decode cX11_needs 86 = .ok (.iaload, 1) := by decide +kernel
theorem dX11_needs_87 : decode cX11_needs 87 = .ok (.ireturn, 1) := by decide +kernel
theorem dX11_needs_88 : decode cX11_needs 88 = .ok (.aload_n 0, 1) := by decide +kernel
theorem dX11_needs_89 : decode cX11_needs 89 = .ok (.getfield 38, 3) := by decide +kernel
theorem dX11_needs_92 : decode cX11_needs 92 = .ok (.iload_n 1, 1) := by decide +kernel
theorem dX11_needs_93 : decode cX11_needs 93 = .ok (.iaload, 1) := by decide +kernel
theorem dX11_needs_94 : decode cX11_needs 94 = .ok (.ireturn, 1) := by decide +kernel
theorem dX11_needs_95 : decode cX11_needs 95 = .ok (.aload_n 0, 1) := by decide +kernel
theorem dX11_needs_96 : decode cX11_needs 96 = .ok (.getfield 41, 3) := by decide +kernel
theorem dX11_needs_99 : decode cX11_needs 99 = .ok (.iload_n 1, 1) := by decide +kernel
theorem dX11_needs_100 : decode cX11_needs 100 = .ok (.iaload, 1) := by decide +kernel
theorem dX11_needs_101 : decode cX11_needs 101 = .ok (.ireturn, 1) := by decide +kernel
theorem dX11_needs_102 : decode cX11_needs 102 = .ok (.aload_n 0, 1) := by decide +kernel
theorem dX11_needs_103 : decode cX11_needs 103 = .ok (.getfield 44, 3) := by decide +kernel
theorem dX11_needs_106 : decode cX11_needs 106 = .ok (.iload_n 1, 1) := by decide +kernel
theorem dX11_needs_107 : decode cX11_needs 107 = .ok (.iaload, 1) := by decide +kernel
theorem dX11_needs_108 : decode cX11_needs 108 = .ok (.ireturn, 1) := by decide +kernel
theorem dX11_needs_109 : decode cX11_needs 109 = .ok (.aload_n 0, 1) := by decide +kernel
theorem dX11_needs_110 : decode cX11_needs 110 = .ok (.getfield 47, 3) := by decide +kernel
theorem dX11_needs_113 : decode cX11_needs 113 = .ok (.iload_n 1, 1) := by decide +kernel
theorem dX11_needs_114 : decode cX11_needs 114 = .ok (.iaload, 1) := by decide +kernel
theorem dX11_needs_115 : decode cX11_needs 115 = .ok (.ireturn, 1) := by decide +kernel
theorem dX11_needs_116 : decode cX11_needs 116 = .ok (.bipush (-2), 2) := by decide +kernel
theorem dX11_needs_118 : decode cX11_needs 118 = .ok (.ireturn, 1) := by decide +kernel
theorem dX11_step_0 : decode cX11_step 0 = .ok (.aload_n 0, 1) := by decide +kernel
theorem dX11_step_1 : decode cX11_step 1 = .ok (.iload_n 1, 1) := by decide +kernel
theorem dX11_step_2 : decode cX11_step 2 = .ok (.invokevirtual 246, 3) := by decide +kernel
theorem dX11_step_5 : decode cX11_step 5 = .ok (.ifCond .eq 17, 3) := by decide +kernel
theorem dX11_step_8 : decode cX11_step 8 = .ok (.iload_n 2, 1) := by decide +kernel
theorem dX11_step_9 : decode cX11_step 9 = .ok (.ifCond .lt 13, 3) := by decide +kernel
theorem dX11_step_12 : decode cX11_step 12 = .ok (.iload_n 2, 1) := by decide +kernel
theorem dX11_step_13 : decode cX11_step 13 = .ok (.aload_n 0, 1) := by decide +kernel
theorem dX11_step_14 : decode cX11_step 14 = .ok (.iload_n 1, 1) := by decide +kernel
theorem dX11_step_15 : decode cX11_step 15 = .ok (.iconst 1, 1) := by decide +kernel
theorem dX11_step_16 : decode cX11_step 16 = .ok (.invokevirtual 68, 3) := by decide +kernel
theorem dX11_step_19 : decode cX11_step 19 = .ok (.if_icmp .lt 5, 3) := by decide +kernel
theorem dX11_step_22 : decode cX11_step 22 = .ok (.iconst (-1), 1) := by decide +kernel
theorem dX11_step_23 : decode cX11_step 23 = .ok (.ireturn, 1) := by decide +kernel
theorem dX11_step_24 : decode cX11_step 24 = .ok (.iload_n 3, 1) := by decide +kernel
theorem dX11_step_25 : decode cX11_step 25 = .ok (.iconst 0, 1) := by decide +kernel
theorem dX11_step_26 : decode cX11_step 26 = .ok (.iconst 5, 1) := by decide +kernel
theorem dX11_step_27 : decode cX11_step 27 = .ok (.invokestatic 76, 3) := by decide +kernel
theorem dX11_step_30 : decode cX11_step 30 = .ok (.ifCond .ne 6, 3) := by decide +kernel
theorem dX11_step_33 : decode cX11_step 33 = .ok (.bipush (-2), 2) := by decide +kernel
theorem dX11_step_35 : decode cX11_step 35 = .ok (.ireturn, 1) := by decide +kernel
theorem dX11_step_36 : decode cX11_step 36 = .ok (.iload_n 3, 1) := by decide +kernel
theorem dX11_step_37 : decode cX11_step 37 = .ok (.ifCond .ne 16, 3) := by decide +kernel
theorem dX11_step_40 : decode cX11_step 40 = .ok (.aload_n 0, 1) := by decide +kernel
theorem dX11_step_41 : decode cX11_step 41 = .ok (.iload_n 1, 1) := by decide +kernel
theorem dX11_step_42 : decode cX11_step 42 = .ok (.iload_n 2, 1) := by decide +kernel
theorem dX11_step_43 : decode cX11_step 43 = .ok (.aload_n 0, 1) := by decide +kernel
theorem dX11_step_44 : decode cX11_step 44 = .ok (.iload_n 1, 1) := by decide +kernel
theorem dX11_step_45 : decode cX11_step 45 = .ok (.iconst 2, 1) := by decide +kernel
theorem dX11_step_46 : decode cX11_step 46 = .ok (.invokevirtual 68, 3) := by decide +kernel
theorem dX11_step_49 : decode cX11_step 49 = .ok (.invokevirtual 184, 3) := by decide +kernel
theorem dX11_step_52 : decode cX11_step 52 = .ok (.ireturn, 1) := by decide +kernel
theorem dX11_step_53 : decode cX11_step 53 = .ok (.iload_n 3, 1) := by decide +kernel
theorem dX11_step_54 : decode cX11_step 54 = .ok (.iconst 4, 1) := by decide +kernel
theorem dX11_step_55 : decode cX11_step 55 = .ok (.if_icmp .ge 11, 3) := by decide +kernel
theorem dX11_step_58 : decode cX11_step 58 = .ok (.aload_n 0, 1) := by decide +kernel
theorem dX11_step_59 : decode cX11_step 59 = .ok (.iload_n 1, 1) := by decide +kernel
theorem dX11_step_60 : decode cX11_step 60 = .ok (.iload_n 2, 1) := by decide +kernel
theorem dX11_step_61 : decode cX11_step 61 = .ok (.iload_n 3, 1) := by decide +kernel
theorem dX11_step_62 : decode cX11_step 62 = .ok (.invokevirtual 171, 3) := by decide +kernel
theorem dX11_step_65 : decode cX11_step 65 = .ok (.ireturn, 1) := by decide +kernel
theorem dX11_step_66 : decode cX11_step 66 = .ok (.aload_n 0, 1) := by decide +kernel
theorem dX11_step_67 : decode cX11_step 67 = .ok (.iload_n 1, 1) := by decide +kernel
theorem dX11_step_68 : decode cX11_step 68 = .ok (.iconst 2, 1) := by decide +kernel
theorem dX11_step_69 : decode cX11_step 69 = .ok (.invokevirtual 68, 3) := by decide +kernel
theorem dX11_step_72 : decode cX11_step 72 = .ok (.ifCond .ne 6, 3) := by decide +kernel
theorem dX11_step_75 : decode cX11_step 75 = .ok (.bipush (-6), 2) := by decide +kernel
theorem dX11_step_77 : decode cX11_step 77 = .ok (.ireturn, 1) := by decide +kernel
theorem dX11_step_78 : decode cX11_step 78 = .ok (.aload_n 0, 1) := by decide +kernel
theorem dX11_step_79 : decode cX11_step 79 = .ok (.aload_n 0, 1) := by decide +kernel
theorem dX11_step_80 : decode cX11_step 80 = .ok (.getfield 7, 3) := by decide +kernel
theorem dX11_step_83 : decode cX11_step 83 = .ok (.iconst 3, 1) := by decide +kernel
theorem dX11_step_84 : decode cX11_step 84 = .ok (.iaload, 1) := by decide +kernel
theorem dX11_step_85 : decode cX11_step 85 = .ok (.invokevirtual 255, 3) := by decide +kernel
theorem dX11_step_88 : decode cX11_step 88 = .ok (.istore 4, 2) := by decide +kernel
theorem dX11_step_90 : decode cX11_step 90 = .ok (.iload_n 3, 1) := by decide +kernel
theorem dX11_step_91 : decode cX11_step 91 = .ok (.iconst 4, 1) := by decide +kernel
theorem dX11_step_92 : decode cX11_step 92 = .ok (.if_icmp .ne 17, 3) := by decide +kernel
theorem dX11_step_95 : decode cX11_step 95 = .ok (.aload_n 0, 1) := by decide +kernel
theorem dX11_step_96 : decode cX11_step 96 = .ok (.getfield 56, 3) := by decide +kernel
theorem dX11_step_99 : decode cX11_step 99 = .ok (.bipush 8, 2) := by decide +kernel
theorem dX11_step_101 : decode cX11_step 101 = .ok (.iload_n 1, 1) := by decide +kernel
theorem dX11_step_102 : decode cX11_step 102 = .ok (.imul, 1) := by decide +kernel
theorem dX11_step_103 : decode cX11_step 103 = .ok (.iload_n 2, 1) := by decide +kernel
theorem dX11_step_104 : decode cX11_step 104 = .ok (.iadd, 1) := by decide +kernel
theorem dX11_step_105 : decode cX11_step 105 = .ok (.iaload, 1) := by decide +kernel
theorem dX11_step_106 : decode cX11_step 106 = .ok (.goto 14, 3) := by decide +kernel
theorem dX11_step_109 : decode cX11_step 109 = .ok (.aload_n 0, 1) := by decide +kernel
theorem dX11_step_110 : decode cX11_step 110 = .ok (.getfield 59, 3) := by decide +kernel
theorem dX11_step_113 : decode cX11_step 113 = .ok (.bipush 8, 2) := by decide +kernel
theorem dX11_step_115 : decode cX11_step 115 = .ok (.iload_n 1, 1) := by decide +kernel
theorem dX11_step_116 : decode cX11_step 116 = .ok (.imul, 1) := by decide +kernel
theorem dX11_step_117 : decode cX11_step 117 = .ok (.iload_n 2, 1) := by decide +kernel
theorem dX11_step_118 : decode cX11_step 118 = .ok (.iadd, 1) := by decide +kernel
theorem dX11_step_119 : decode cX11_step 119 = .ok (.iaload, 1) := by decide +kernel
theorem dX11_step_120 : decode cX11_step 120 = .ok (.ireturn, 1) := by decide +kernel
theorem dX11_ofRecipe_0 : decode cX11_ofRecipe 0 = .ok (.aload_n 0, 1) := by decide +kernel
theorem dX11_ofRecipe_1 : decode cX11_ofRecipe 1 = .ok (.iload_n 1, 1) := by decide +kernel
theorem dX11_ofRecipe_2 : decode cX11_ofRecipe 2 = .ok (.invokevirtual 246, 3) := by decide +kernel
theorem dX11_ofRecipe_5 : decode cX11_ofRecipe 5 = .ok (.ifCond .ne 5, 3) := by decide +kernel
theorem dX11_ofRecipe_8 : decode cX11_ofRecipe 8 = .ok (.iconst (-1), 1) := by decide +kernel
theorem dX11_ofRecipe_9 : decode cX11_ofRecipe 9 = .ok (.ireturn, 1) := by decide +kernel
theorem dX11_ofRecipe_10 : decode cX11_ofRecipe 10 = .ok (.iload_n 2, 1) := by decide +kernel
theorem dX11_ofRecipe_11 : decode cX11_ofRecipe 11 = .ok (.iconst 0, 1) := by decide +kernel
theorem dX11_ofRecipe_12 : decode cX11_ofRecipe 12 = .ok (.bipush 10, 2) := by decide +kernel
theorem dX11_ofRecipe_14 : decode cX11_ofRecipe 14 = .ok (.invokestatic 76, 3) := by decide +kernel
theorem dX11_ofRecipe_17 : decode cX11_ofRecipe 17 = .ok (.ifCond .eq 12, 3) := by decide +kernel
theorem dX11_ofRecipe_20 : decode cX11_ofRecipe 20 = .ok (.aload_n 0, 1) := by decide +kernel
theorem dX11_ofRecipe_21 : decode cX11_ofRecipe 21 = .ok (.iload_n 1, 1) := by decide +kernel
theorem dX11_ofRecipe_22 : decode cX11_ofRecipe 22 = .ok (.iload_n 2, 1) := by decide +kernel
theorem dX11_ofRecipe_23 : decode cX11_ofRecipe 23 = .ok (.invokevirtual 68, 3) := by decide +kernel
theorem dX11_ofRecipe_26 : decode cX11_ofRecipe 26 = .ok (.goto 5, 3) := by decide +kernel
theorem dX11_ofRecipe_29 : decode cX11_ofRecipe 29 = .ok (.bipush (-2), 2) := by decide +kernel
theorem dX11_ofRecipe_31 : decode cX11_ofRecipe 31 = .ok (.ireturn, 1) := by decide +kernel
theorem dX11_ofPlan_0 : decode cX11_ofPlan 0 = .ok (.aload_n 0, 1) := by decide +kernel
theorem dX11_ofPlan_1 : decode cX11_ofPlan 1 = .ok (.invokevirtual 161, 3) := by decide +kernel
theorem dX11_ofPlan_4 : decode cX11_ofPlan 4 = .ok (.istore_n 2, 1) := by decide +kernel
theorem dX11_ofPlan_5 : decode cX11_ofPlan 5 = .ok (.iload_n 1, 1) := by decide +kernel
theorem dX11_ofPlan_6 : decode cX11_ofPlan 6 = .ok (.tableswitch 49 4 6 #[26, 35, 44], 26) := by decide +kernel
theorem dX11_ofPlan_32 : decode cX11_ofPlan 32 = .ok (.aload_n 0, 1) := by decide +kernel
theorem dX11_ofPlan_33 : decode cX11_ofPlan 33 = .ok (.aload_n 0, 1) := by decide +kernel
theorem dX11_ofPlan_34 : decode cX11_ofPlan 34 = .ok (.getfield 47, 3) := by decide +kernel
theorem dX11_ofPlan_37 : decode cX11_ofPlan 37 = .ok (.invokevirtual 167, 3) := by decide +kernel
theorem dX11_ofPlan_40 : decode cX11_ofPlan 40 = .ok (.ireturn, 1) := by decide +kernel
theorem dX11_ofPlan_41 : decode cX11_ofPlan 41 = .ok (.aload_n 0, 1) := by decide +kernel
theorem dX11_ofPlan_42 : decode cX11_ofPlan 42 = .ok (.aload_n 0, 1) := by decide +kernel
theorem dX11_ofPlan_43 : decode cX11_ofPlan 43 = .ok (.getfield 38, 3) := by decide +kernel
theorem dX11_ofPlan_46 : decode cX11_ofPlan 46 = .ok (.invokevirtual 167, 3) := by decide +kernel
theorem dX11_ofPlan_49 : decode cX11_ofPlan 49 = .ok (.ireturn, 1) := by decide +kernel
theorem dX11_ofPlan_50 : decode cX11_ofPlan 50 = .ok (.aload_n 0, 1) := by decide +kernel
theorem dX11_ofPlan_51 : decode cX11_ofPlan 51 = .ok (.invokevirtual 157, 3) := by decide +kernel
theorem dX11_ofPlan_54 : decode cX11_ofPlan 54 = .ok (.ireturn, 1) := by decide +kernel
theorem dX11_ofPlan_55 : decode cX11_ofPlan 55 = .ok (.iload_n 2, 1) := by decide +kernel
theorem dX11_ofPlan_56 : decode cX11_ofPlan 56 = .ok (.ifCond .eq 7, 3) := by decide +kernel
theorem dX11_ofPlan_59 : decode cX11_ofPlan 59 = .ok (.iconst 1, 1) := by decide +kernel
theorem dX11_ofPlan_60 : decode cX11_ofPlan 60 = .ok (.goto 4, 3) := by decide +kernel
theorem dX11_ofPlan_63 : decode cX11_ofPlan 63 = .ok (.iconst 0, 1) := by decide +kernel
theorem dX11_ofPlan_64 : decode cX11_ofPlan 64 = .ok (.ireturn, 1) := by decide +kernel
theorem dX11_count_0 : decode cX11_count 0 = .ok (.iload_n 1, 1) := by decide +kernel
theorem dX11_count_1 : decode cX11_count 1 = .ok (.iconst 4, 1) := by decide +kernel
theorem dX11_count_2 : decode cX11_count 2 = .ok (.bipush 7, 2) := by decide +kernel
theorem dX11_count_4 : decode cX11_count 4 = .ok (.invokestatic 76, 3) := by decide +kernel
theorem dX11_count_7 : decode cX11_count 7 = .ok (.ifCond .eq 9, 3) := by decide +kernel
theorem dX11_count_10 : decode cX11_count 10 = .ok (.aload_n 0, 1) := by decide +kernel
theorem dX11_count_11 : decode cX11_count 11 = .ok (.iload_n 1, 1) := by decide +kernel
theorem dX11_count_12 : decode cX11_count 12 = .ok (.invokevirtual 258, 3) := by decide +kernel
theorem dX11_count_15 : decode cX11_count 15 = .ok (.ireturn, 1) := by decide +kernel
theorem dX11_count_16 : decode cX11_count 16 = .ok (.iload_n 1, 1) := by decide +kernel
theorem dX11_count_17 : decode cX11_count 17 = .ok (.tableswitch 131 0 14 #[75, 75, 75, 75, 131, 131, 131, 131, 82, 93, 98, 107, 114, 121, 126], 75) := by decide +kernel
theorem dX11_count_92 : decode cX11_count 92 = .ok (.aload_n 0, 1) := by decide +kernel
theorem dX11_count_93 : decode cX11_count 93 = .ok (.getfield 7, 3) := by decide +kernel
theorem dX11_count_96 : decode cX11_count 96 = .ok (.iload_n 1, 1) := by decide +kernel
theorem dX11_count_97 : decode cX11_count 97 = .ok (.iaload, 1) := by decide +kernel
theorem dX11_count_98 : decode cX11_count 98 = .ok (.ireturn, 1) := by decide +kernel
theorem dX11_count_99 : decode cX11_count 99 = .ok (.aload_n 0, 1) := by decide +kernel
theorem dX11_count_100 : decode cX11_count 100 = .ok (.aload_n 0, 1) := by decide +kernel
theorem dX11_count_101 : decode cX11_count 101 = .ok (.getfield 7, 3) := by decide +kernel
theorem dX11_count_104 : decode cX11_count 104 = .ok (.iconst 3, 1) := by decide +kernel
theorem dX11_count_105 : decode cX11_count 105 = .ok (.iaload, 1) := by decide +kernel
theorem dX11_count_106 : decode cX11_count 106 = .ok (.invokevirtual 255, 3) := by decide +kernel
theorem dX11_count_109 : decode cX11_count 109 = .ok (.ireturn, 1) := by decide +kernel
theorem dX11_count_110 : decode cX11_count 110 = .ok (.aload_n 0, 1) := by decide +kernel
theorem dX11_count_111 : decode cX11_count 111 = .ok (.invokevirtual 261, 3) := by decide +kernel
theorem dX11_count_114 : decode cX11_count 114 = .ok (.ireturn, 1) := by decide +kernel
theorem dX11_count_115 : decode cX11_count 115 = .ok (.aload_n 0, 1) := by decide +kernel
theorem dX11_count_116 : decode cX11_count 116 = .ok (.invokevirtual 200, 3) := by decide +kernel
theorem dX11_count_119 : decode cX11_count 119 = .ok (.aload_n 0, 1) := by decide +kernel
theorem dX11_count_120 : decode cX11_count 120 = .ok (.getfield 178, 3) := by decide +kernel
theorem dX11_count_123 : decode cX11_count 123 = .ok (.ireturn, 1) := by decide +kernel
theorem dX11_count_124 : decode cX11_count 124 = .ok (.aload_n 0, 1) := by decide +kernel
theorem dX11_count_125 : decode cX11_count 125 = .ok (.getfield 7, 3) := by decide +kernel
theorem dX11_count_128 : decode cX11_count 128 = .ok (.iconst 4, 1) := by decide +kernel
theorem dX11_count_129 : decode cX11_count 129 = .ok (.iaload, 1) := by decide +kernel
theorem dX11_count_130 : decode cX11_count 130 = .ok (.ireturn, 1) := by decide +kernel
theorem dX11_count_131 : decode cX11_count 131 = .ok (.aload_n 0, 1) := by decide +kernel
theorem dX11_count_132 : decode cX11_count 132 = .ok (.getfield 7, 3) := by decide +kernel
theorem dX11_count_135 : decode cX11_count 135 = .ok (.iconst 5, 1) := by decide +kernel
theorem dX11_count_136 : decode cX11_count 136 = .ok (.iaload, 1) := by decide +kernel
theorem dX11_count_137 : decode cX11_count 137 = .ok (.ireturn, 1) := by decide +kernel
theorem dX11_count_138 : decode cX11_count 138 = .ok (.aload_n 0, 1) := by decide +kernel
theorem dX11_count_139 : decode cX11_count 139 = .ok (.getfield 215, 3) := by decide +kernel
theorem dX11_count_142 : decode cX11_count 142 = .ok (.ireturn, 1) := by decide +kernel
theorem dX11_count_143 : decode cX11_count 143 = .ok (.aload_n 0, 1) := by decide +kernel
theorem dX11_count_144 : decode cX11_count 144 = .ok (.getfield 72, 3) := by decide +kernel
theorem dX11_count_147 : decode cX11_count 147 = .ok (.ireturn, 1) := by decide +kernel
theorem dX11_count_148 : decode cX11_count 148 = .ok (.bipush (-2), 2) := by decide +kernel
theorem dX11_count_150 : decode cX11_count 150 = .ok (.ireturn, 1) := by decide +kernel
theorem dX11_bestPortions_0 : decode cX11_bestPortions 0 = .ok (.aload_n 0, 1) := by decide +kernel
theorem dX11_bestPortions_1 : decode cX11_bestPortions 1 = .ok (.iload_n 1, 1) := by decide +kernel
theorem dX11_bestPortions_2 : decode cX11_bestPortions 2 = .ok (.invokevirtual 246, 3) := by decide +kernel
theorem dX11_bestPortions_5 : decode cX11_bestPortions 5 = .ok (.ifCond .ne 5, 3) := by decide +kernel
theorem dX11_bestPortions_8 : decode cX11_bestPortions 8 = .ok (.iconst (-1), 1) := by decide +kernel
theorem dX11_bestPortions_9 : decode cX11_bestPortions 9 = .ok (.ireturn, 1) := by decide +kernel
theorem dX11_bestPortions_10 : decode cX11_bestPortions 10 = .ok (.iload_n 2, 1) := by decide +kernel
theorem dX11_bestPortions_11 : decode cX11_bestPortions 11 = .ok (.iconst 1, 1) := by decide +kernel
theorem dX11_bestPortions_12 : decode cX11_bestPortions 12 = .ok (.bipush 20, 2) := by decide +kernel
theorem dX11_bestPortions_14 : decode cX11_bestPortions 14 = .ok (.invokestatic 76, 3) := by decide +kernel
theorem dX11_bestPortions_17 : decode cX11_bestPortions 17 = .ok (.ifCond .eq 13, 3) := by decide +kernel
theorem dX11_bestPortions_20 : decode cX11_bestPortions 20 = .ok (.iload_n 3, 1) := by decide +kernel
theorem dX11_bestPortions_21 : decode cX11_bestPortions 21 = .ok (.iload_n 2, 1) := by decide +kernel
theorem dX11_bestPortions_22 : decode cX11_bestPortions 22 = .ok (.bipush 20, 2) := by decide +kernel
theorem dX11_bestPortions_24 : decode cX11_bestPortions 24 = .ok (.invokestatic 76, 3) := by decide +kernel
theorem dX11_bestPortions_27 : decode cX11_bestPortions 27 = .ok (.ifCond .ne 6, 3) := by decide +kernel
theorem dX11_bestPortions_30 : decode cX11_bestPortions 30 = .ok (.bipush (-2), 2) := by decide +kernel
theorem dX11_bestPortions_32 : decode cX11_bestPortions 32 = .ok (.ireturn, 1) := by decide +kernel
theorem dX11_bestPortions_33 : decode cX11_bestPortions 33 = .ok (.sipush 374, 3) := by decide +kernel
theorem dX11_bestPortions_36 : decode cX11_bestPortions 36 = .ok (.bipush 43, 2) := by decide +kernel
theorem dX11_bestPortions_38 : decode cX11_bestPortions 38 = .ok (.iload_n 1, 1) := by decide +kernel
theorem dX11_bestPortions_39 : decode cX11_bestPortions 39 = .ok (.imul, 1) := by decide +kernel
theorem dX11_bestPortions_40 : decode cX11_bestPortions 40 = .ok (.iadd, 1) := by decide +kernel
theorem dX11_bestPortions_41 : decode cX11_bestPortions 41 = .ok (.iconst 2, 1) := by decide +kernel
theorem dX11_bestPortions_42 : decode cX11_bestPortions 42 = .ok (.iadd, 1) := by decide +kernel
theorem dX11_bestPortions_43 : decode cX11_bestPortions 43 = .ok (.istore 4, 2) := by decide +kernel
theorem dX11_bestPortions_45 : decode cX11_bestPortions 45 = .ok (.aload_n 0, 1) := by decide +kernel
theorem dX11_bestPortions_46 : decode cX11_bestPortions 46 = .ok (.getfield 7, 3) := by decide +kernel
theorem dX11_bestPortions_49 : decode cX11_bestPortions 49 = .ok (.iload 4, 2) := by decide +kernel
theorem dX11_bestPortions_51 : decode cX11_bestPortions 51 = .ok (.iaload, 1) := by decide +kernel
theorem dX11_bestPortions_52 : decode cX11_bestPortions 52 = .ok (.istore 5, 2) := by decide +kernel
theorem dX11_bestPortions_54 : decode cX11_bestPortions 54 = .ok (.bipush (-6), 2) := by decide +kernel
theorem dX11_bestPortions_56 : decode cX11_bestPortions 56 = .ok (.istore 6, 2) := by decide +kernel
theorem dX11_bestPortions_58 : decode cX11_bestPortions 58 = .ok (.ldc 127, 2) := by decide +kernel
theorem dX11_bestPortions_60 : decode cX11_bestPortions 60 = .ok (.istore 7, 2) := by decide +kernel
theorem dX11_bestPortions_62 : decode cX11_bestPortions 62 = .ok (.iload_n 2, 1) := by decide +kernel
theorem dX11_bestPortions_63 : decode cX11_bestPortions 63 = .ok (.istore 8, 2) := by decide +kernel
theorem dX11_bestPortions_65 : decode cX11_bestPortions 65 = .ok (.iload 8, 2) := by decide +kernel
theorem dX11_bestPortions_67 : decode cX11_bestPortions 67 = .ok (.iload_n 3, 1) := by decide +kernel
theorem dX11_bestPortions_68 : decode cX11_bestPortions 68 = .ok (.if_icmp .gt 52, 3) := by decide +kernel
theorem dX11_bestPortions_71 : decode cX11_bestPortions 71 = .ok (.aload_n 0, 1) := by decide +kernel
theorem dX11_bestPortions_72 : decode cX11_bestPortions 72 = .ok (.getfield 7, 3) := by decide +kernel
theorem dX11_bestPortions_75 : decode cX11_bestPortions 75 = .ok (.iload 4, 2) := by decide +kernel
theorem dX11_bestPortions_77 : decode cX11_bestPortions 77 = .ok (.iload 8, 2) := by decide +kernel
theorem dX11_bestPortions_79 : decode cX11_bestPortions 79 = .ok (.iastore, 1) := by decide +kernel
theorem dX11_bestPortions_80 : decode cX11_bestPortions 80 = .ok (.aload_n 0, 1) := by decide +kernel
theorem dX11_bestPortions_81 : decode cX11_bestPortions 81 = .ok (.invokevirtual 161, 3) := by decide +kernel
theorem dX11_bestPortions_84 : decode cX11_bestPortions 84 = .ok (.ifCond .eq 30, 3) := by decide +kernel
theorem dX11_bestPortions_87 : decode cX11_bestPortions 87 = .ok (.aload_n 0, 1) := by decide +kernel
theorem dX11_bestPortions_88 : decode cX11_bestPortions 88 = .ok (.aload_n 0, 1) := by decide +kernel
theorem dX11_bestPortions_89 : decode cX11_bestPortions 89 = .ok (.getfield 38, 3) := by decide +kernel
theorem dX11_bestPortions_92 : decode cX11_bestPortions 92 = .ok (.invokevirtual 167, 3) := by decide +kernel
theorem dX11_bestPortions_95 : decode cX11_bestPortions 95 = .ok (.iload 7, 2) := by decide +kernel
theorem dX11_bestPortions_97 : decode cX11_bestPortions 97 = .ok (.if_icmp .gt 17, 3) := by decide +kernel
theorem dX11_bestPortions_100 : decode cX11_bestPortions 100 = .ok (.iload 8, 2) := by decide +kernel
theorem dX11_bestPortions_102 : decode cX11_bestPortions 102 = .ok (.istore 6, 2) := by decide +kernel
theorem dX11_bestPortions_104 : decode cX11_bestPortions 104 = .ok (.aload_n 0, 1) := by decide +kernel
theorem dX11_bestPortions_105 : decode cX11_bestPortions 105 = .ok (.aload_n 0, 1) := by decide +kernel
theorem dX11_bestPortions_106 : decode cX11_bestPortions 106 = .ok (.getfield 38, 3) := by decide +kernel
theorem dX11_bestPortions_109 : decode cX11_bestPortions 109 = .ok (.invokevirtual 167, 3) := by decide +kernel
theorem dX11_bestPortions_112 : decode cX11_bestPortions 112 = .ok (.istore 7, 2) := by decide +kernel
theorem dX11_bestPortions_114 : decode cX11_bestPortions 114 = .ok (.iinc 8 1, 3) := by decide +kernel
theorem dX11_bestPortions_117 : decode cX11_bestPortions 117 = .ok (.goto (-52), 3) := by decide +kernel
theorem dX11_bestPortions_120 : decode cX11_bestPortions 120 = .ok (.aload_n 0, 1) := by decide +kernel
theorem dX11_bestPortions_121 : decode cX11_bestPortions 121 = .ok (.getfield 7, 3) := by decide +kernel
theorem dX11_bestPortions_124 : decode cX11_bestPortions 124 = .ok (.iload 4, 2) := by decide +kernel
theorem dX11_bestPortions_126 : decode cX11_bestPortions 126 = .ok (.iload 5, 2) := by decide +kernel
theorem dX11_bestPortions_128 : decode cX11_bestPortions 128 = .ok (.iastore, 1) := by decide +kernel
theorem dX11_bestPortions_129 : decode cX11_bestPortions 129 = .ok (.iload 6, 2) := by decide +kernel
theorem dX11_bestPortions_131 : decode cX11_bestPortions 131 = .ok (.ireturn, 1) := by decide +kernel
theorem dX11_fewestHands_0 : decode cX11_fewestHands 0 = .ok (.iload_n 1, 1) := by decide +kernel
theorem dX11_fewestHands_1 : decode cX11_fewestHands 1 = .ok (.iconst 0, 1) := by decide +kernel
theorem dX11_fewestHands_2 : decode cX11_fewestHands 2 = .ok (.sipush 5000, 3) := by decide +kernel
theorem dX11_fewestHands_5 : decode cX11_fewestHands 5 = .ok (.invokestatic 76, 3) := by decide +kernel
theorem dX11_fewestHands_8 : decode cX11_fewestHands 8 = .ok (.ifCond .ne 6, 3) := by decide +kernel
theorem dX11_fewestHands_11 : decode cX11_fewestHands 11 = .ok (.bipush (-2), 2) := by decide +kernel
theorem dX11_fewestHands_13 : decode cX11_fewestHands 13 = .ok (.ireturn, 1) := by decide +kernel
theorem dX11_fewestHands_14 : decode cX11_fewestHands 14 = .ok (.iconst 1, 1) := by decide +kernel
theorem dX11_fewestHands_15 : decode cX11_fewestHands 15 = .ok (.istore_n 2, 1) := by decide +kernel
theorem dX11_fewestHands_16 : decode cX11_fewestHands 16 = .ok (.iload_n 2, 1) := by decide +kernel
theorem dX11_fewestHands_17 : decode cX11_fewestHands 17 = .ok (.bipush 6, 2) := by decide +kernel
theorem dX11_fewestHands_19 : decode cX11_fewestHands 19 = .ok (.if_icmp .gt 26, 3) := by decide +kernel
theorem dX11_fewestHands_22 : decode cX11_fewestHands 22 = .ok (.aload_n 0, 1) := by decide +kernel
theorem dX11_fewestHands_23 : decode cX11_fewestHands 23 = .ok (.iload_n 2, 1) := by decide +kernel
theorem dX11_fewestHands_24 : decode cX11_fewestHands 24 = .ok (.invokevirtual 255, 3) := by decide +kernel
theorem dX11_fewestHands_27 : decode cX11_fewestHands 27 = .ok (.istore_n 3, 1) := by decide +kernel
theorem dX11_fewestHands_28 : decode cX11_fewestHands 28 = .ok (.iload_n 3, 1) := by decide +kernel
theorem dX11_fewestHands_29 : decode cX11_fewestHands 29 = .ok (.ifCond .lt 10, 3) := by decide +kernel
theorem dX11_fewestHands_32 : decode cX11_fewestHands 32 = .ok (.iload_n 3, 1) := by decide +kernel
theorem dX11_fewestHands_33 : decode cX11_fewestHands 33 = .ok (.iload_n 1, 1) := by decide +kernel
theorem dX11_fewestHands_34 : decode cX11_fewestHands 34 = .ok (.if_icmp .gt 5, 3) := by decide +kernel
theorem dX11_fewestHands_37 : decode cX11_fewestHands 37 = .ok (.iload_n 2, 1) := by decide +kernel
theorem dX11_fewestHands_38 : decode cX11_fewestHands 38 = .ok (.ireturn, 1) := by decide +kernel
theorem dX11_fewestHands_39 : decode cX11_fewestHands 39 = .ok (.iinc 2 1, 3) := by decide +kernel
theorem dX11_fewestHands_42 : decode cX11_fewestHands 42 = .ok (.goto (-26), 3) := by decide +kernel
theorem dX11_fewestHands_45 : decode cX11_fewestHands 45 = .ok (.bipush (-6), 2) := by decide +kernel
theorem dX11_fewestHands_47 : decode cX11_fewestHands 47 = .ok (.ireturn, 1) := by decide +kernel
theorem dX11_ifBuyable_0 : decode cX11_ifBuyable 0 = .ok (.aload_n 0, 1) := by decide +kernel
theorem dX11_ifBuyable_1 : decode cX11_ifBuyable 1 = .ok (.iload_n 1, 1) := by decide +kernel
theorem dX11_ifBuyable_2 : decode cX11_ifBuyable 2 = .ok (.invokevirtual 90, 3) := by decide +kernel
theorem dX11_ifBuyable_5 : decode cX11_ifBuyable 5 = .ok (.ifCond .ne 5, 3) := by decide +kernel
theorem dX11_ifBuyable_8 : decode cX11_ifBuyable 8 = .ok (.iconst (-1), 1) := by decide +kernel
theorem dX11_ifBuyable_9 : decode cX11_ifBuyable 9 = .ok (.ireturn, 1) := by decide +kernel
theorem dX11_ifBuyable_10 : decode cX11_ifBuyable 10 = .ok (.iload_n 2, 1) := by decide +kernel
theorem dX11_ifBuyable_11 : decode cX11_ifBuyable 11 = .ok (.iconst 0, 1) := by decide +kernel
theorem dX11_ifBuyable_12 : decode cX11_ifBuyable 12 = .ok (.iconst 1, 1) := by decide +kernel
theorem dX11_ifBuyable_13 : decode cX11_ifBuyable 13 = .ok (.invokestatic 76, 3) := by decide +kernel
theorem dX11_ifBuyable_16 : decode cX11_ifBuyable 16 = .ok (.ifCond .ne 6, 3) := by decide +kernel
theorem dX11_ifBuyable_19 : decode cX11_ifBuyable 19 = .ok (.bipush (-2), 2) := by decide +kernel
theorem dX11_ifBuyable_21 : decode cX11_ifBuyable 21 = .ok (.ireturn, 1) := by decide +kernel
theorem dX11_ifBuyable_22 : decode cX11_ifBuyable 22 = .ok (.aload_n 0, 1) := by decide +kernel
theorem dX11_ifBuyable_23 : decode cX11_ifBuyable 23 = .ok (.iload_n 1, 1) := by decide +kernel
theorem dX11_ifBuyable_24 : decode cX11_ifBuyable 24 = .ok (.iconst 1, 1) := by decide +kernel
theorem dX11_ifBuyable_25 : decode cX11_ifBuyable 25 = .ok (.invokevirtual 87, 3) := by decide +kernel
theorem dX11_ifBuyable_28 : decode cX11_ifBuyable 28 = .ok (.istore_n 3, 1) := by decide +kernel
theorem dX11_ifBuyable_29 : decode cX11_ifBuyable 29 = .ok (.aload_n 0, 1) := by decide +kernel
theorem dX11_ifBuyable_30 : decode cX11_ifBuyable 30 = .ok (.iload_n 1, 1) := by decide +kernel
theorem dX11_ifBuyable_31 : decode cX11_ifBuyable 31 = .ok (.iconst 1, 1) := by decide +kernel
theorem dX11_ifBuyable_32 : decode cX11_ifBuyable 32 = .ok (.iload_n 2, 1) := by decide +kernel
theorem dX11_ifBuyable_33 : decode cX11_ifBuyable 33 = .ok (.invokevirtual 83, 3) := by decide +kernel
theorem dX11_ifBuyable_36 : decode cX11_ifBuyable 36 = .ok (.aload_n 0, 1) := by decide +kernel
theorem dX11_ifBuyable_37 : decode cX11_ifBuyable 37 = .ok (.invokevirtual 150, 3) := by decide +kernel
theorem dX11_ifBuyable_40 : decode cX11_ifBuyable 40 = .ok (.aload_n 0, 1) := by decide +kernel
theorem dX11_ifBuyable_41 : decode cX11_ifBuyable 41 = .ok (.iload_n 1, 1) := by decide +kernel
theorem dX11_ifBuyable_42 : decode cX11_ifBuyable 42 = .ok (.iconst 1, 1) := by decide +kernel
theorem dX11_ifBuyable_43 : decode cX11_ifBuyable 43 = .ok (.iload_n 3, 1) := by decide +kernel
theorem dX11_ifBuyable_44 : decode cX11_ifBuyable 44 = .ok (.invokevirtual 83, 3) := by decide +kernel
theorem dX11_ifBuyable_47 : decode cX11_ifBuyable 47 = .ok (.aload_n 0, 1) := by decide +kernel
theorem dX11_ifBuyable_48 : decode cX11_ifBuyable 48 = .ok (.invokevirtual 157, 3) := by decide +kernel
theorem dX11_ifBuyable_51 : decode cX11_ifBuyable 51 = .ok (.ifCond .ne 14, 3) := by decide +kernel
theorem dX11_ifBuyable_54 : decode cX11_ifBuyable 54 = .ok (.aload_n 0, 1) := by decide +kernel
theorem dX11_ifBuyable_55 : decode cX11_ifBuyable 55 = .ok (.aload_n 0, 1) := by decide +kernel
theorem dX11_ifBuyable_56 : decode cX11_ifBuyable 56 = .ok (.getfield 47, 3) := by decide +kernel
theorem dX11_ifBuyable_59 : decode cX11_ifBuyable 59 = .ok (.invokevirtual 167, 3) := by decide +kernel
theorem dX11_ifBuyable_62 : decode cX11_ifBuyable 62 = .ok (.goto 5, 3) := by decide +kernel
theorem dX11_ifBuyable_65 : decode cX11_ifBuyable 65 = .ok (.bipush (-6), 2) := by decide +kernel
theorem dX11_ifBuyable_67 : decode cX11_ifBuyable 67 = .ok (.ireturn, 1) := by decide +kernel
theorem dX11_put_0 : decode cX11_put 0 = .ok (.iconst 0, 1) := by decide +kernel
theorem dX11_put_1 : decode cX11_put 1 = .ok (.istore_n 3, 1) := by decide +kernel
theorem dX11_put_2 : decode cX11_put 2 = .ok (.lload_n 1, 1) := by decide +kernel
theorem dX11_put_3 : decode cX11_put 3 = .ok (.lstore 4, 2) := by decide +kernel
theorem dX11_put_5 : decode cX11_put 5 = .ok (.iload_n 3, 1) := by decide +kernel
theorem dX11_put_6 : decode cX11_put 6 = .ok (.bipush 8, 2) := by decide +kernel
theorem dX11_put_8 : decode cX11_put 8 = .ok (.if_icmp .ge 47, 3) := by decide +kernel
theorem dX11_put_11 : decode cX11_put 11 = .ok (.lload 4, 2) := by decide +kernel
theorem dX11_put_13 : decode cX11_put 13 = .ok (.ldc2_w 264, 3) := by decide +kernel
theorem dX11_put_16 : decode cX11_put 16 = .ok (.land, 1) := by decide +kernel
theorem dX11_put_17 : decode cX11_put 17 = .ok (.lconst 0, 1) := by decide +kernel
theorem dX11_put_18 : decode cX11_put 18 = .ok (.lcmp, 1) := by decide +kernel
theorem dX11_put_19 : decode cX11_put 19 = .ok (.ifCond .eq 36, 3) := by decide +kernel
theorem dX11_put_22 : decode cX11_put 22 = .ok (.lload 4, 2) := by decide +kernel
theorem dX11_put_24 : decode cX11_put 24 = .ok (.ldc2_w 264, 3) := by decide +kernel
theorem dX11_put_27 : decode cX11_put 27 = .ok (.land, 1) := by decide +kernel
theorem dX11_put_28 : decode cX11_put 28 = .ok (.l2i, 1) := by decide +kernel
theorem dX11_put_29 : decode cX11_put 29 = .ok (.bipush 33, 2) := by decide +kernel
theorem dX11_put_31 : decode cX11_put 31 = .ok (.bipush 126, 2) := by decide +kernel
theorem dX11_put_33 : decode cX11_put 33 = .ok (.invokestatic 76, 3) := by decide +kernel
theorem dX11_put_36 : decode cX11_put 36 = .ok (.ifCond .ne 6, 3) := by decide +kernel
theorem dX11_put_39 : decode cX11_put 39 = .ok (.bipush (-2), 2) := by decide +kernel
theorem dX11_put_41 : decode cX11_put 41 = .ok (.ireturn, 1) := by decide +kernel
theorem dX11_put_42 : decode cX11_put 42 = .ok (.iinc 3 1, 3) := by decide +kernel
theorem dX11_put_45 : decode cX11_put 45 = .ok (.lload 4, 2) := by decide +kernel
theorem dX11_put_47 : decode cX11_put 47 = .ok (.bipush 8, 2) := by decide +kernel
theorem dX11_put_49 : decode cX11_put 49 = .ok (.lushr, 1) := by decide +kernel
theorem dX11_put_50 : decode cX11_put 50 = .ok (.lstore 4, 2) := by decide +kernel
theorem dX11_put_52 : decode cX11_put 52 = .ok (.goto (-47), 3) := by decide +kernel
theorem dX11_put_55 : decode cX11_put 55 = .ok (.iload_n 3, 1) := by decide +kernel
theorem dX11_put_56 : decode cX11_put 56 = .ok (.ifCond .eq 10, 3) := by decide +kernel
theorem dX11_put_59 : decode cX11_put 59 = .ok (.lload 4, 2) := by decide +kernel
theorem dX11_put_61 : decode cX11_put 61 = .ok (.lconst 0, 1) := by decide +kernel
theorem dX11_put_62 : decode cX11_put 62 = .ok (.lcmp, 1) := by decide +kernel
theorem dX11_put_63 : decode cX11_put 63 = .ok (.ifCond .eq 6, 3) := by decide +kernel
theorem dX11_put_66 : decode cX11_put 66 = .ok (.bipush (-2), 2) := by decide +kernel
theorem dX11_put_68 : decode cX11_put 68 = .ok (.ireturn, 1) := by decide +kernel
theorem dX11_put_69 : decode cX11_put 69 = .ok (.aload_n 0, 1) := by decide +kernel
theorem dX11_put_70 : decode cX11_put 70 = .ok (.getfield 215, 3) := by decide +kernel
theorem dX11_put_73 : decode cX11_put 73 = .ok (.iload_n 3, 1) := by decide +kernel
theorem dX11_put_74 : decode cX11_put 74 = .ok (.iadd, 1) := by decide +kernel
theorem dX11_put_75 : decode cX11_put 75 = .ok (.bipush 80, 2) := by decide +kernel
theorem dX11_put_77 : decode cX11_put 77 = .ok (.if_icmp .le 6, 3) := by decide +kernel
theorem dX11_put_80 : decode cX11_put 80 = .ok (.bipush (-4), 2) := by decide +kernel
theorem dX11_put_82 : decode cX11_put 82 = .ok (.ireturn, 1) := by decide +kernel
theorem dX11_put_83 : decode cX11_put 83 = .ok (.iconst 0, 1) := by decide +kernel
theorem dX11_put_84 : decode cX11_put 84 = .ok (.istore 6, 2) := by decide +kernel
theorem dX11_put_86 : decode cX11_put 86 = .ok (.iload 6, 2) := by decide +kernel
theorem dX11_put_88 : decode cX11_put 88 = .ok (.iload_n 3, 1) := by decide +kernel
theorem dX11_put_89 : decode cX11_put 89 = .ok (.if_icmp .ge 37, 3) := by decide +kernel
theorem dX11_put_92 : decode cX11_put 92 = .ok (.aload_n 0, 1) := by decide +kernel
theorem dX11_put_93 : decode cX11_put 93 = .ok (.getfield 23, 3) := by decide +kernel
theorem dX11_put_96 : decode cX11_put 96 = .ok (.aload_n 0, 1) := by decide +kernel
theorem dX11_put_97 : decode cX11_put 97 = .ok (.getfield 215, 3) := by decide +kernel
theorem dX11_put_100 : decode cX11_put 100 = .ok (.iload 6, 2) := by decide +kernel
theorem dX11_put_102 : decode cX11_put 102 = .ok (.iadd, 1) := by decide +kernel
theorem dX11_put_103 : decode cX11_put 103 = .ok (.lload_n 1, 1) := by decide +kernel
theorem dX11_put_104 : decode cX11_put 104 = .ok (.bipush 8, 2) := by decide +kernel
theorem dX11_put_106 : decode cX11_put 106 = .ok (.iload_n 3, 1) := by decide +kernel
theorem dX11_put_107 : decode cX11_put 107 = .ok (.iconst 1, 1) := by decide +kernel
theorem dX11_put_108 : decode cX11_put 108 = .ok (.isub, 1) := by decide +kernel
theorem dX11_put_109 : decode cX11_put 109 = .ok (.iload 6, 2) := by decide +kernel
theorem dX11_put_111 : decode cX11_put 111 = .ok (.isub, 1) := by decide +kernel
theorem dX11_put_112 : decode cX11_put 112 = .ok (.imul, 1) := by decide +kernel
theorem dX11_put_113 : decode cX11_put 113 = .ok (.lshr, 1) := by decide +kernel
theorem dX11_put_114 : decode cX11_put 114 = .ok (.ldc2_w 264, 3) := by decide +kernel
theorem dX11_put_117 : decode cX11_put 117 = .ok (.land, 1) := by decide +kernel
theorem dX11_put_118 : decode cX11_put 118 = .ok (.l2i, 1) := by decide +kernel
theorem dX11_put_119 : decode cX11_put 119 = .ok (.iastore, 1) := by decide +kernel
theorem dX11_put_120 : decode cX11_put 120 = .ok (.iinc 6 1, 3) := by decide +kernel
theorem dX11_put_123 : decode cX11_put 123 = .ok (.goto (-37), 3) := by decide +kernel
theorem dX11_put_126 : decode cX11_put 126 = .ok (.aload_n 0, 1) := by decide +kernel
theorem dX11_put_127 : decode cX11_put 127 = .ok (.dup, 1) := by decide +kernel
theorem dX11_put_128 : decode cX11_put 128 = .ok (.getfield 215, 3) := by decide +kernel
theorem dX11_put_131 : decode cX11_put 131 = .ok (.iload_n 3, 1) := by decide +kernel
theorem dX11_put_132 : decode cX11_put 132 = .ok (.iadd, 1) := by decide +kernel
theorem dX11_put_133 : decode cX11_put 133 = .ok (.putfield 215, 3) := by decide +kernel
theorem dX11_put_136 : decode cX11_put 136 = .ok (.aload_n 0, 1) := by decide +kernel
theorem dX11_put_137 : decode cX11_put 137 = .ok (.getfield 215, 3) := by decide +kernel
theorem dX11_put_140 : decode cX11_put 140 = .ok (.ireturn, 1) := by decide +kernel
theorem dX11_wipe_0 : decode cX11_wipe 0 = .ok (.aload_n 0, 1) := by decide +kernel
theorem dX11_wipe_1 : decode cX11_wipe 1 = .ok (.getfield 215, 3) := by decide +kernel
theorem dX11_wipe_4 : decode cX11_wipe 4 = .ok (.istore_n 1, 1) := by decide +kernel
theorem dX11_wipe_5 : decode cX11_wipe 5 = .ok (.aload_n 0, 1) := by decide +kernel
theorem dX11_wipe_6 : decode cX11_wipe 6 = .ok (.iconst 0, 1) := by decide +kernel
theorem dX11_wipe_7 : decode cX11_wipe 7 = .ok (.putfield 215, 3) := by decide +kernel
theorem dX11_wipe_10 : decode cX11_wipe 10 = .ok (.iload_n 1, 1) := by decide +kernel
theorem dX11_wipe_11 : decode cX11_wipe 11 = .ok (.ireturn, 1) := by decide +kernel
theorem dX11_undo_0 : decode cX11_undo 0 = .ok (.aload_n 0, 1) := by decide +kernel
theorem dX11_undo_1 : decode cX11_undo 1 = .ok (.getfield 72, 3) := by decide +kernel
theorem dX11_undo_4 : decode cX11_undo 4 = .ok (.ifCond .ne 6, 3) := by decide +kernel
theorem dX11_undo_7 : decode cX11_undo 7 = .ok (.bipush (-5), 2) := by decide +kernel
theorem dX11_undo_9 : decode cX11_undo 9 = .ok (.ireturn, 1) := by decide +kernel
theorem dX11_undo_10 : decode cX11_undo 10 = .ok (.aload_n 0, 1) := by decide +kernel
theorem dX11_undo_11 : decode cX11_undo 11 = .ok (.dup, 1) := by decide +kernel
theorem dX11_undo_12 : decode cX11_undo 12 = .ok (.getfield 72, 3) := by decide +kernel
theorem dX11_undo_15 : decode cX11_undo 15 = .ok (.iconst 1, 1) := by decide +kernel
theorem dX11_undo_16 : decode cX11_undo 16 = .ok (.isub, 1) := by decide +kernel
theorem dX11_undo_17 : decode cX11_undo 17 = .ok (.putfield 72, 3) := by decide +kernel
theorem dX11_undo_20 : decode cX11_undo 20 = .ok (.iconst 0, 1) := by decide +kernel
theorem dX11_undo_21 : decode cX11_undo 21 = .ok (.istore_n 1, 1) := by decide +kernel
theorem dX11_undo_22 : decode cX11_undo 22 = .ok (.iload_n 1, 1) := by decide +kernel
theorem dX11_undo_23 : decode cX11_undo 23 = .ok (.sipush 546, 3) := by decide +kernel
theorem dX11_undo_26 : decode cX11_undo 26 = .ok (.if_icmp .ge 30, 3) := by decide +kernel
theorem dX11_undo_29 : decode cX11_undo 29 = .ok (.aload_n 0, 1) := by decide +kernel
theorem dX11_undo_30 : decode cX11_undo 30 = .ok (.getfield 7, 3) := by decide +kernel
theorem dX11_undo_33 : decode cX11_undo 33 = .ok (.iload_n 1, 1) := by decide +kernel
theorem dX11_undo_34 : decode cX11_undo 34 = .ok (.aload_n 0, 1) := by decide +kernel
theorem dX11_undo_35 : decode cX11_undo 35 = .ok (.getfield 13, 3) := by decide +kernel
theorem dX11_undo_38 : decode cX11_undo 38 = .ok (.sipush 546, 3) := by decide +kernel
theorem dX11_undo_41 : decode cX11_undo 41 = .ok (.aload_n 0, 1) := by decide +kernel
theorem dX11_undo_42 : decode cX11_undo 42 = .ok (.getfield 72, 3) := by decide +kernel
theorem dX11_undo_45 : decode cX11_undo 45 = .ok (.imul, 1) := by decide +kernel
theorem dX11_undo_46 : decode cX11_undo 46 = .ok (.iload_n 1, 1) := by decide +kernel
theorem dX11_undo_47 : decode cX11_undo 47 = .ok (.iadd, 1) := by decide +kernel
theorem dX11_undo_48 : decode cX11_undo 48 = .ok (.iaload, 1) := by decide +kernel
theorem dX11_undo_49 : decode cX11_undo 49 = .ok (.iastore, 1) := by decide +kernel
theorem dX11_undo_50 : decode cX11_undo 50 = .ok (.iinc 1 1, 3) := by decide +kernel
theorem dX11_undo_53 : decode cX11_undo 53 = .ok (.goto (-31), 3) := by decide +kernel
theorem dX11_undo_56 : decode cX11_undo 56 = .ok (.aload_n 0, 1) := by decide +kernel
theorem dX11_undo_57 : decode cX11_undo 57 = .ok (.getfield 72, 3) := by decide +kernel
theorem dX11_undo_60 : decode cX11_undo 60 = .ok (.ireturn, 1) := by decide +kernel
theorem dX11_save_0 : decode cX11_save 0 = .ok (.iload_n 1, 1) := by decide +kernel
theorem dX11_save_1 : decode cX11_save 1 = .ok (.iconst 0, 1) := by decide +kernel
theorem dX11_save_2 : decode cX11_save 2 = .ok (.iconst 1, 1) := by decide +kernel
theorem dX11_save_3 : decode cX11_save 3 = .ok (.invokestatic 76, 3) := by decide +kernel
theorem dX11_save_6 : decode cX11_save 6 = .ok (.ifCond .ne 6, 3) := by decide +kernel
theorem dX11_save_9 : decode cX11_save 9 = .ok (.bipush (-2), 2) := by decide +kernel
theorem dX11_save_11 : decode cX11_save 11 = .ok (.ireturn, 1) := by decide +kernel
theorem dX11_save_12 : decode cX11_save 12 = .ok (.iconst 0, 1) := by decide +kernel
theorem dX11_save_13 : decode cX11_save 13 = .ok (.istore_n 2, 1) := by decide +kernel
theorem dX11_save_14 : decode cX11_save 14 = .ok (.iload_n 2, 1) := by decide +kernel
theorem dX11_save_15 : decode cX11_save 15 = .ok (.sipush 546, 3) := by decide +kernel
theorem dX11_save_18 : decode cX11_save 18 = .ok (.if_icmp .ge 27, 3) := by decide +kernel
theorem dX11_save_21 : decode cX11_save 21 = .ok (.aload_n 0, 1) := by decide +kernel
theorem dX11_save_22 : decode cX11_save 22 = .ok (.getfield 16, 3) := by decide +kernel
theorem dX11_save_25 : decode cX11_save 25 = .ok (.sipush 546, 3) := by decide +kernel
theorem dX11_save_28 : decode cX11_save 28 = .ok (.iload_n 1, 1) := by decide +kernel
theorem dX11_save_29 : decode cX11_save 29 = .ok (.imul, 1) := by decide +kernel
theorem dX11_save_30 : decode cX11_save 30 = .ok (.iload_n 2, 1) := by decide +kernel
theorem dX11_save_31 : decode cX11_save 31 = .ok (.iadd, 1) := by decide +kernel
theorem dX11_save_32 : decode cX11_save 32 = .ok (.aload_n 0, 1) := by decide +kernel
theorem dX11_save_33 : decode cX11_save 33 = .ok (.getfield 7, 3) := by decide +kernel
theorem dX11_save_36 : decode cX11_save 36 = .ok (.iload_n 2, 1) := by decide +kernel
theorem dX11_save_37 : decode cX11_save 37 = .ok (.iaload, 1) := by decide +kernel
theorem dX11_save_38 : decode cX11_save 38 = .ok (.iastore, 1) := by decide +kernel
theorem dX11_save_39 : decode cX11_save 39 = .ok (.iinc 2 1, 3) := by decide +kernel
theorem dX11_save_42 : decode cX11_save 42 = .ok (.goto (-28), 3) := by decide +kernel
theorem dX11_save_45 : decode cX11_save 45 = .ok (.aload_n 0, 1) := by decide +kernel
theorem dX11_save_46 : decode cX11_save 46 = .ok (.getfield 19, 3) := by decide +kernel
theorem dX11_save_49 : decode cX11_save 49 = .ok (.iload_n 1, 1) := by decide +kernel
theorem dX11_save_50 : decode cX11_save 50 = .ok (.iconst 1, 1) := by decide +kernel
theorem dX11_save_51 : decode cX11_save 51 = .ok (.bastore, 1) := by decide +kernel
theorem dX11_save_52 : decode cX11_save 52 = .ok (.aload_n 0, 1) := by decide +kernel
theorem dX11_save_53 : decode cX11_save 53 = .ok (.getfield 7, 3) := by decide +kernel
theorem dX11_save_56 : decode cX11_save 56 = .ok (.iconst 0, 1) := by decide +kernel
theorem dX11_save_57 : decode cX11_save 57 = .ok (.iaload, 1) := by decide +kernel
theorem dX11_save_58 : decode cX11_save 58 = .ok (.ireturn, 1) := by decide +kernel
theorem dX11_restore_0 : decode cX11_restore 0 = .ok (.iload_n 1, 1) := by decide +kernel
theorem dX11_restore_1 : decode cX11_restore 1 = .ok (.iconst 0, 1) := by decide +kernel
theorem dX11_restore_2 : decode cX11_restore 2 = .ok (.iconst 1, 1) := by decide +kernel
theorem dX11_restore_3 : decode cX11_restore 3 = .ok (.invokestatic 76, 3) := by decide +kernel
theorem dX11_restore_6 : decode cX11_restore 6 = .ok (.ifCond .ne 6, 3) := by decide +kernel
theorem dX11_restore_9 : decode cX11_restore 9 = .ok (.bipush (-2), 2) := by decide +kernel
theorem dX11_restore_11 : decode cX11_restore 11 = .ok (.ireturn, 1) := by decide +kernel
theorem dX11_restore_12 : decode cX11_restore 12 = .ok (.aload_n 0, 1) := by decide +kernel
theorem dX11_restore_13 : decode cX11_restore 13 = .ok (.getfield 19, 3) := by decide +kernel
theorem dX11_restore_16 : decode cX11_restore 16 = .ok (.iload_n 1, 1) := by decide +kernel
theorem dX11_restore_17 : decode cX11_restore 17 = .ok (.baload, 1) := by decide +kernel
theorem dX11_restore_18 : decode cX11_restore 18 = .ok (.ifCond .ne 6, 3) := by decide +kernel
theorem dX11_restore_21 : decode cX11_restore 21 = .ok (.bipush (-5), 2) := by decide +kernel
theorem dX11_restore_23 : decode cX11_restore 23 = .ok (.ireturn, 1) := by decide +kernel
theorem dX11_restore_24 : decode cX11_restore 24 = .ok (.aload_n 0, 1) := by decide +kernel
theorem dX11_restore_25 : decode cX11_restore 25 = .ok (.invokevirtual 80, 3) := by decide +kernel
theorem dX11_restore_28 : decode cX11_restore 28 = .ok (.iconst 0, 1) := by decide +kernel
theorem dX11_restore_29 : decode cX11_restore 29 = .ok (.istore_n 2, 1) := by decide +kernel
theorem dX11_restore_30 : decode cX11_restore 30 = .ok (.iload_n 2, 1) := by decide +kernel
theorem dX11_restore_31 : decode cX11_restore 31 = .ok (.sipush 546, 3) := by decide +kernel
theorem dX11_restore_34 : decode cX11_restore 34 = .ok (.if_icmp .ge 27, 3) := by decide +kernel
theorem dX11_restore_37 : decode cX11_restore 37 = .ok (.aload_n 0, 1) := by decide +kernel
theorem dX11_restore_38 : decode cX11_restore 38 = .ok (.getfield 7, 3) := by decide +kernel
theorem dX11_restore_41 : decode cX11_restore 41 = .ok (.iload_n 2, 1) := by decide +kernel
theorem dX11_restore_42 : decode cX11_restore 42 = .ok (.aload_n 0, 1) := by decide +kernel
theorem dX11_restore_43 : decode cX11_restore 43 = .ok (.getfield 16, 3) := by decide +kernel
theorem dX11_restore_46 : decode cX11_restore 46 = .ok (.sipush 546, 3) := by decide +kernel
theorem dX11_restore_49 : decode cX11_restore 49 = .ok (.iload_n 1, 1) := by decide +kernel
theorem dX11_restore_50 : decode cX11_restore 50 = .ok (.imul, 1) := by decide +kernel
theorem dX11_restore_51 : decode cX11_restore 51 = .ok (.iload_n 2, 1) := by decide +kernel
theorem dX11_restore_52 : decode cX11_restore 52 = .ok (.iadd, 1) := by decide +kernel
theorem dX11_restore_53 : decode cX11_restore 53 = .ok (.iaload, 1) := by decide +kernel
theorem dX11_restore_54 : decode cX11_restore 54 = .ok (.iastore, 1) := by decide +kernel
theorem dX11_restore_55 : decode cX11_restore 55 = .ok (.iinc 2 1, 3) := by decide +kernel
theorem dX11_restore_58 : decode cX11_restore 58 = .ok (.goto (-28), 3) := by decide +kernel
theorem dX11_restore_61 : decode cX11_restore 61 = .ok (.aload_n 0, 1) := by decide +kernel
theorem dX11_restore_62 : decode cX11_restore 62 = .ok (.getfield 7, 3) := by decide +kernel
theorem dX11_restore_65 : decode cX11_restore 65 = .ok (.iconst 0, 1) := by decide +kernel
theorem dX11_restore_66 : decode cX11_restore 66 = .ok (.iaload, 1) := by decide +kernel
theorem dX11_restore_67 : decode cX11_restore 67 = .ok (.ireturn, 1) := by decide +kernel
