set_option maxRecDepth 20000 in
theorem ggX7_init_X7_emptyDraft : GoodIn wsX7_init wsX7_emptyDraft := goodIn_r _ [30, 8, 9, 31, 32, 33, 34, 35, 36, 37, 38, 39, 40, 41, 42, 43, 44, 45, 46, 47, 48, 49, 50, 51, 52, 53, 54, 55] (by decide +kernel) (by decide +kernel)
set_option maxRecDepth 20000 in
theorem gX7_init_X7_emptyDraft : GoodIn wsX7_init (wsV RX7 71 RX7 yX7_emptyDraft wsX7_emptyDraft) := goodIn_app (goodIn_of _ (by decide +kernel)) ggX7_init_X7_emptyDraft
theorem dX7_init_0 : decode cX7_init 0 = .ok (.aload_n 0, 1) := by decide +kernel
theorem dX7_init_1 : decode cX7_init 1 = .ok (.invokespecial 1, 3) := by decide +kernel
theorem dX7_init_4 : decode cX7_init 4 = .ok (.aload_n 0, 1) := by decide +kernel
theorem dX7_init_5 : decode cX7_init 5 = .ok (.iconst 5, 1) := by decide +kernel
theorem dX7_init_6 : decode cX7_init 6 = .ok (.newarray .int, 2) := by decide +kernel
theorem dX7_init_8 : decode cX7_init 8 = .ok (.putfield 7, 3) := by decide +kernel
theorem dX7_init_11 : decode cX7_init 11 = .ok (.aload_n 0, 1) := by decide +kernel
theorem dX7_init_12 : decode cX7_init 12 = .ok (.iconst 4, 1) := by decide +kernel
theorem dX7_init_13 : decode cX7_init 13 = .ok (.newarray .int, 2) := by decide +kernel
theorem dX7_init_15 : decode cX7_init 15 = .ok (.putfield 13, 3) := by decide +kernel
theorem dX7_init_18 : decode cX7_init 18 = .ok (.aload_n 0, 1) := by decide +kernel
theorem dX7_init_19 : decode cX7_init 19 = .ok (.iconst 3, 1) := by decide +kernel
theorem dX7_init_20 : decode cX7_init 20 = .ok (.newarray .int, 2) := by decide +kernel
theorem dX7_init_22 : decode cX7_init 22 = .ok (.putfield 16, 3) := by decide +kernel
theorem dX7_init_25 : decode cX7_init 25 = .ok (.aload_n 0, 1) := by decide +kernel
theorem dX7_init_26 : decode cX7_init 26 = .ok (.iconst 3, 1) := by decide +kernel
theorem dX7_init_27 : decode cX7_init 27 = .ok (.newarray .int, 2) := by decide +kernel
theorem dX7_init_29 : decode cX7_init 29 = .ok (.putfield 19, 3) := by decide +kernel
theorem dX7_init_32 : decode cX7_init 32 = .ok (.aload_n 0, 1) := by decide +kernel
theorem dX7_init_33 : decode cX7_init 33 = .ok (.iconst 4, 1) := by decide +kernel
theorem dX7_init_34 : decode cX7_init 34 = .ok (.newarray .int, 2) := by decide +kernel
theorem dX7_init_36 : decode cX7_init 36 = .ok (.putfield 22, 3) := by decide +kernel
theorem dX7_init_39 : decode cX7_init 39 = .ok (.aload_n 0, 1) := by decide +kernel
theorem dX7_init_40 : decode cX7_init 40 = .ok (.bipush 10, 2) := by decide +kernel
theorem dX7_init_42 : decode cX7_init 42 = .ok (.newarray .boolean, 2) := by decide +kernel
theorem dX7_init_44 : decode cX7_init 44 = .ok (.putfield 25, 3) := by decide +kernel
theorem dX7_init_47 : decode cX7_init 47 = .ok (.aload_n 0, 1) := by decide +kernel
theorem dX7_init_48 : decode cX7_init 48 = .ok (.bipush 80, 2) := by decide +kernel
theorem dX7_init_50 : decode cX7_init 50 = .ok (.newarray .int, 2) := by decide +kernel
theorem dX7_init_52 : decode cX7_init 52 = .ok (.putfield 29, 3) := by decide +kernel
theorem dX7_init_55 : decode cX7_init 55 = .ok (.aload_n 0, 1) := by decide +kernel
theorem dX7_init_56 : decode cX7_init 56 = .ok (.bipush 80, 2) := by decide +kernel
theorem dX7_init_58 : decode cX7_init 58 = .ok (.newarray .int, 2) := by decide +kernel
theorem dX7_init_60 : decode cX7_init 60 = .ok (.putfield 32, 3) := by decide +kernel
theorem dX7_init_63 : decode cX7_init 63 = .ok (.aload_n 0, 1) := by decide +kernel
theorem dX7_init_64 : decode cX7_init 64 = .ok (.sipush 240, 3) := by decide +kernel
theorem dX7_init_67 : decode cX7_init 67 = .ok (.newarray .int, 2) := by decide +kernel
theorem dX7_init_69 : decode cX7_init 69 = .ok (.putfield 35, 3) := by decide +kernel
theorem dX7_init_72 : decode cX7_init 72 = .ok (.aload_n 0, 1) := by decide +kernel
theorem dX7_init_73 : decode cX7_init 73 = .ok (.sipush 320, 3) := by decide +kernel
theorem dX7_init_76 : decode cX7_init 76 = .ok (.newarray .int, 2) := by decide +kernel
theorem dX7_init_78 : decode cX7_init 78 = .ok (.putfield 38, 3) := by decide +kernel
theorem dX7_init_81 : decode cX7_init 81 = .ok (.aload_n 0, 1) := by decide +kernel
theorem dX7_init_82 : decode cX7_init 82 = .ok (.bipush 80, 2) := by decide +kernel
theorem dX7_init_84 : decode cX7_init 84 = .ok (.newarray .int, 2) := by decide +kernel
theorem dX7_init_86 : decode cX7_init 86 = .ok (.putfield 41, 3) := by decide +kernel
theorem dX7_init_89 : decode cX7_init 89 = .ok (.aload_n 0, 1) := by decide +kernel
theorem dX7_init_90 : decode cX7_init 90 = .ok (.sipush 180, 3) := by decide +kernel
theorem dX7_init_93 : decode cX7_init 93 = .ok (.newarray .int, 2) := by decide +kernel
theorem dX7_init_95 : decode cX7_init 95 = .ok (.putfield 44, 3) := by decide +kernel
theorem dX7_init_98 : decode cX7_init 98 = .ok (.aload_n 0, 1) := by decide +kernel
theorem dX7_init_99 : decode cX7_init 99 = .ok (.sipush 180, 3) := by decide +kernel
theorem dX7_init_102 : decode cX7_init 102 = .ok (.newarray .int, 2) := by decide +kernel
theorem dX7_init_104 : decode cX7_init 104 = .ok (.putfield 47, 3) := by decide +kernel
theorem dX7_init_107 : decode cX7_init 107 = .ok (.aload_n 0, 1) := by decide +kernel
theorem dX7_init_108 : decode cX7_init 108 = .ok (.sipush 180, 3) := by decide +kernel
theorem dX7_init_111 : decode cX7_init 111 = .ok (.newarray .int, 2) := by decide +kernel
theorem dX7_init_113 : decode cX7_init 113 = .ok (.putfield 50, 3) := by decide +kernel
theorem dX7_init_116 : decode cX7_init 116 = .ok (.aload_n 0, 1) := by decide +kernel
theorem dX7_init_117 : decode cX7_init 117 = .ok (.bipush 80, 2) := by decide +kernel
theorem dX7_init_119 : decode cX7_init 119 = .ok (.newarray .boolean, 2) := by decide +kernel
theorem dX7_init_121 : decode cX7_init 121 = .ok (.putfield 53, 3) := by decide +kernel
theorem dX7_init_124 : decode cX7_init 124 = .ok (.aload_n 0, 1) := by decide +kernel
theorem dX7_init_125 : decode cX7_init 125 = .ok (.sipush 240, 3) := by decide +kernel
theorem dX7_init_128 : decode cX7_init 128 = .ok (.newarray .int, 2) := by decide +kernel
theorem dX7_init_130 : decode cX7_init 130 = .ok (.putfield 56, 3) := by decide +kernel
theorem dX7_init_133 : decode cX7_init 133 = .ok (.aload_n 0, 1) := by decide +kernel
theorem dX7_init_134 : decode cX7_init 134 = .ok (.sipush 320, 3) := by decide +kernel
theorem dX7_init_137 : decode cX7_init 137 = .ok (.newarray .int, 2) := by decide +kernel
theorem dX7_init_139 : decode cX7_init 139 = .ok (.putfield 59, 3) := by decide +kernel
theorem dX7_init_142 : decode cX7_init 142 = .ok (.aload_n 0, 1) := by decide +kernel
theorem dX7_init_143 : decode cX7_init 143 = .ok (.sipush 320, 3) := by decide +kernel
theorem dX7_init_146 : decode cX7_init 146 = .ok (.newarray .int, 2) := by decide +kernel
theorem dX7_init_148 : decode cX7_init 148 = .ok (.putfield 62, 3) := by decide +kernel
theorem dX7_init_151 : decode cX7_init 151 = .ok (.aload_n 0, 1) := by decide +kernel
theorem dX7_init_152 : decode cX7_init 152 = .ok (.sipush 320, 3) := by decide +kernel
theorem dX7_init_155 : decode cX7_init 155 = .ok (.newarray .boolean, 2) := by decide +kernel
theorem dX7_init_157 : decode cX7_init 157 = .ok (.putfield 65, 3) := by decide +kernel
theorem dX7_init_160 : decode cX7_init 160 = .ok (.aload_n 0, 1) := by decide +kernel
theorem dX7_init_161 : decode cX7_init 161 = .ok (.bipush 80, 2) := by decide +kernel
theorem dX7_init_163 : decode cX7_init 163 = .ok (.newarray .int, 2) := by decide +kernel
theorem dX7_init_165 : decode cX7_init 165 = .ok (.putfield 68, 3) := by decide +kernel
theorem dX7_init_168 : decode cX7_init 168 = .ok (.iconst 0, 1) := by decide +kernel
theorem dX7_init_169 : decode cX7_init 169 = .ok (.istore_n 1, 1) := by decide +kernel
theorem dX7_init_170 : decode cX7_init 170 = .ok (.iload_n 1, 1) := by decide +kernel
theorem dX7_init_171 : decode cX7_init 171 = .ok (.iconst 5, 1) := by decide +kernel
theorem dX7_init_172 : decode cX7_init 172 = .ok (.if_icmp .ge 16, 3) := by decide +kernel
theorem dX7_init_175 : decode cX7_init 175 = .ok (.aload_n 0, 1) := by decide +kernel
theorem dX7_init_176 : decode cX7_init 176 = .ok (.getfield 7, 3) := by decide +kernel
theorem dX7_init_179 : decode cX7_init 179 = .ok (.iload_n 1, 1) := by decide +kernel
theorem dX7_init_180 : decode cX7_init 180 = .ok (.iload_n 1, 1) := by decide +kernel
theorem dX7_init_181 : decode cX7_init 181 = .ok (.iastore, 1) := by decide +kernel
theorem dX7_init_182 : decode cX7_init 182 = .ok (.iinc 1 1, 3) := by decide +kernel
theorem dX7_init_185 : decode cX7_init 185 = .ok (.goto (-15), 3) := by decide +kernel
theorem dX7_init_188 : decode cX7_init 188 = .ok (.iconst 0, 1) := by decide +kernel
theorem dX7_init_189 : decode cX7_init 189 = .ok (.istore_n 1, 1) := by decide +kernel
theorem dX7_init_190 : decode cX7_init 190 = .ok (.iload_n 1, 1) := by decide +kernel
theorem dX7_init_191 : decode cX7_init 191 = .ok (.iconst 4, 1) := by decide +kernel
theorem dX7_init_192 : decode cX7_init 192 = .ok (.if_icmp .ge 16, 3) := by decide +kernel
theorem dX7_init_195 : decode cX7_init 195 = .ok (.aload_n 0, 1) := by decide +kernel
theorem dX7_init_196 : decode cX7_init 196 = .ok (.getfield 13, 3) := by decide +kernel
theorem dX7_init_199 : decode cX7_init 199 = .ok (.iload_n 1, 1) := by decide +kernel
theorem dX7_init_200 : decode cX7_init 200 = .ok (.iconst 1, 1) := by decide +kernel
theorem dX7_init_201 : decode cX7_init 201 = .ok (.iastore, 1) := by decide +kernel
theorem dX7_init_202 : decode cX7_init 202 = .ok (.iinc 1 1, 3) := by decide +kernel
theorem dX7_init_205 : decode cX7_init 205 = .ok (.goto (-15), 3) := by decide +kernel
theorem dX7_init_208 : decode cX7_init 208 = .ok (.iconst 0, 1) := by decide +kernel
theorem dX7_init_209 : decode cX7_init 209 = .ok (.istore_n 1, 1) := by decide +kernel
theorem dX7_init_210 : decode cX7_init 210 = .ok (.iload_n 1, 1) := by decide +kernel
theorem dX7_init_211 : decode cX7_init 211 = .ok (.iconst 3, 1) := by decide +kernel
theorem dX7_init_212 : decode cX7_init 212 = .ok (.if_icmp .ge 16, 3) := by decide +kernel
theorem dX7_init_215 : decode cX7_init 215 = .ok (.aload_n 0, 1) := by decide +kernel
theorem dX7_init_216 : decode cX7_init 216 = .ok (.getfield 16, 3) := by decide +kernel
theorem dX7_init_219 : decode cX7_init 219 = .ok (.iload_n 1, 1) := by decide +kernel
theorem dX7_init_220 : decode cX7_init 220 = .ok (.iload_n 1, 1) := by decide +kernel
theorem dX7_init_221 : decode cX7_init 221 = .ok (.iastore, 1) := by decide +kernel
theorem dX7_init_222 : decode cX7_init 222 = .ok (.iinc 1 1, 3) := by decide +kernel
theorem dX7_init_225 : decode cX7_init 225 = .ok (.goto (-15), 3) := by decide +kernel
theorem dX7_init_228 : decode cX7_init 228 = .ok (.aload_n 0, 1) := by decide +kernel
theorem dX7_init_229 : decode cX7_init 229 = .ok (.invokevirtual 71, 3) := by decide +kernel
theorem dX7_init_232 : decode cX7_init 232 = .ok (.return_, 1) := by decide +kernel
theorem dX7_thrown_0 : decode cX7_thrown 0 = .ok (.aload_n 0, 1) := by decide +kernel
theorem dX7_thrown_1 : decode cX7_thrown 1 = .ok (.getfield 74, 3) := by decide +kernel
theorem dX7_thrown_4 : decode cX7_thrown 4 = .ok (.ireturn, 1) := by decide +kernel
theorem dX7_in_0 : decode cX7_in 0 = .ok (.iload_n 0, 1) := by decide +kernel
theorem dX7_in_1 : decode cX7_in 1 = .ok (.iload_n 1, 1) := by decide +kernel
theorem dX7_in_2 : decode cX7_in 2 = .ok (.if_icmp .lt 12, 3) := by decide +kernel
theorem dX7_in_5 : decode cX7_in 5 = .ok (.iload_n 0, 1) := by decide +kernel
theorem dX7_in_6 : decode cX7_in 6 = .ok (.iload_n 2, 1) := by decide +kernel
theorem dX7_in_7 : decode cX7_in 7 = .ok (.if_icmp .gt 7, 3) := by decide +kernel
theorem dX7_in_10 : decode cX7_in 10 = .ok (.iconst 1, 1) := by decide +kernel
theorem dX7_in_11 : decode cX7_in 11 = .ok (.goto 4, 3) := by decide +kernel
theorem dX7_in_14 : decode cX7_in 14 = .ok (.iconst 0, 1) := by decide +kernel
theorem dX7_in_15 : decode cX7_in 15 = .ok (.ireturn, 1) := by decide +kernel
theorem dX7_emptyDraft_0 : decode cX7_emptyDraft 0 = .ok (.iconst 0, 1) := by decide +kernel
theorem dX7_emptyDraft_1 : decode cX7_emptyDraft 1 = .ok (.istore_n 1, 1) := by decide +kernel
theorem dX7_emptyDraft_2 : decode cX7_emptyDraft 2 = .ok (.iload_n 1, 1) := by decide +kernel
theorem dX7_emptyDraft_3 : decode cX7_emptyDraft 3 = .ok (.iconst 3, 1) := by decide +kernel
theorem dX7_emptyDraft_4 : decode cX7_emptyDraft 4 = .ok (.if_icmp .ge 16, 3) := by decide +kernel
theorem dX7_emptyDraft_7 : decode cX7_emptyDraft 7 = .ok (.aload_n 0, 1) := by decide +kernel
theorem dX7_emptyDraft_8 : decode cX7_emptyDraft 8 = .ok (.getfield 19, 3) := by decide +kernel
theorem dX7_emptyDraft_11 : decode cX7_emptyDraft 11 = .ok (.iload_n 1, 1) := by decide +kernel
theorem dX7_emptyDraft_12 : decode cX7_emptyDraft 12 = .ok (.iconst (-1), 1) := by decide +kernel
theorem dX7_emptyDraft_13 : decode cX7_emptyDraft 13 = .ok (.iastore, 1) := by decide +kernel
theorem dX7_emptyDraft_14 : decode cX7_emptyDraft 14 = .ok (.iinc 1 1, 3) := by decide +kernel
theorem dX7_emptyDraft_17 : decode cX7_emptyDraft 17 = .ok (.goto (-15), 3) := by decide +kernel
theorem dX7_emptyDraft_20 : decode cX7_emptyDraft 20 = .ok (.iconst 0, 1) := by decide +kernel
theorem dX7_emptyDraft_21 : decode cX7_emptyDraft 21 = .ok (.istore_n 1, 1) := by decide +kernel
theorem dX7_emptyDraft_22 : decode cX7_emptyDraft 22 = .ok (.iload_n 1, 1) := by decide +kernel
theorem dX7_emptyDraft_23 : decode cX7_emptyDraft 23 = .ok (.iconst 4, 1) := by decide +kernel
theorem dX7_emptyDraft_24 : decode cX7_emptyDraft 24 = .ok (.if_icmp .ge 16, 3) := by decide +kernel
theorem dX7_emptyDraft_27 : decode cX7_emptyDraft 27 = .ok (.aload_n 0, 1) := by decide +kernel
theorem dX7_emptyDraft_28 : decode cX7_emptyDraft 28 = .ok (.getfield 22, 3) := by decide +kernel
theorem dX7_emptyDraft_31 : decode cX7_emptyDraft 31 = .ok (.iload_n 1, 1) := by decide +kernel
theorem dX7_emptyDraft_32 : decode cX7_emptyDraft 32 = .ok (.iconst (-1), 1) := by decide +kernel
theorem dX7_emptyDraft_33 : decode cX7_emptyDraft 33 = .ok (.iastore, 1) := by decide +kernel
theorem dX7_emptyDraft_34 : decode cX7_emptyDraft 34 = .ok (.iinc 1 1, 3) := by decide +kernel
theorem dX7_emptyDraft_37 : decode cX7_emptyDraft 37 = .ok (.goto (-15), 3) := by decide +kernel
theorem dX7_emptyDraft_40 : decode cX7_emptyDraft 40 = .ok (.return_, 1) := by decide +kernel
set_option maxRecDepth 20000 in
theorem ggX7_setRank_X7_in : GoodIn wsX7_setRank wsX7_in := goodIn_r _ [7] (by decide +kernel) (by decide +kernel)
set_option maxRecDepth 20000 in
theorem gX7_setRank_X7_in : GoodIn wsX7_setRank (va_wsS RX7 78 yX7_in wsX7_in) := goodIn_app (goodIn_of _ (by decide +kernel)) ggX7_setRank_X7_in
theorem dX7_setRank_0 : decode cX7_setRank 0 = .ok (.aload_n 0, 1) := by decide +kernel
theorem dX7_setRank_1 : decode cX7_setRank 1 = .ok (.iload_n 1, 1) := by decide +kernel
theorem dX7_setRank_2 : decode cX7_setRank 2 = .ok (.iconst 0, 1) := by decide +kernel
theorem dX7_setRank_3 : decode cX7_setRank 3 = .ok (.iconst 4, 1) := by decide +kernel
theorem dX7_setRank_4 : decode cX7_setRank 4 = .ok (.invokestatic 78, 3) := by decide +kernel
theorem dX7_setRank_7 : decode cX7_setRank 7 = .ok (.ifCond .ne 7, 3) := by decide +kernel
theorem dX7_setRank_10 : decode cX7_setRank 10 = .ok (.iconst 1, 1) := by decide +kernel
theorem dX7_setRank_11 : decode cX7_setRank 11 = .ok (.goto 29, 3) := by decide +kernel
theorem dX7_setRank_14 : decode cX7_setRank 14 = .ok (.iload_n 2, 1) := by decide +kernel
theorem dX7_setRank_15 : decode cX7_setRank 15 = .ok (.iconst 0, 1) := by decide +kernel
theorem dX7_setRank_16 : decode cX7_setRank 16 = .ok (.bipush 9, 2) := by decide +kernel
theorem dX7_setRank_18 : decode cX7_setRank 18 = .ok (.invokestatic 78, 3) := by decide +kernel
theorem dX7_setRank_21 : decode cX7_setRank 21 = .ok (.ifCond .ne 7, 3) := by decide +kernel
theorem dX7_setRank_24 : decode cX7_setRank 24 = .ok (.iconst 2, 1) := by decide +kernel
theorem dX7_setRank_25 : decode cX7_setRank 25 = .ok (.goto 15, 3) := by decide +kernel
theorem dX7_setRank_28 : decode cX7_setRank 28 = .ok (.aload_n 0, 1) := by decide +kernel
theorem dX7_setRank_29 : decode cX7_setRank 29 = .ok (.getfield 82, 3) := by decide +kernel
theorem dX7_setRank_32 : decode cX7_setRank 32 = .ok (.ifCond .le 7, 3) := by decide +kernel
theorem dX7_setRank_35 : decode cX7_setRank 35 = .ok (.iconst 3, 1) := by decide +kernel
theorem dX7_setRank_36 : decode cX7_setRank 36 = .ok (.goto 4, 3) := by decide +kernel
theorem dX7_setRank_39 : decode cX7_setRank 39 = .ok (.iconst 0, 1) := by decide +kernel
theorem dX7_setRank_40 : decode cX7_setRank 40 = .ok (.putfield 74, 3) := by decide +kernel
theorem dX7_setRank_43 : decode cX7_setRank 43 = .ok (.aload_n 0, 1) := by decide +kernel
theorem dX7_setRank_44 : decode cX7_setRank 44 = .ok (.getfield 74, 3) := by decide +kernel
theorem dX7_setRank_47 : decode cX7_setRank 47 = .ok (.ifCond .le 5, 3) := by decide +kernel
theorem dX7_setRank_50 : decode cX7_setRank 50 = .ok (.iconst 0, 1) := by decide +kernel
theorem dX7_setRank_51 : decode cX7_setRank 51 = .ok (.ireturn, 1) := by decide +kernel
theorem dX7_setRank_52 : decode cX7_setRank 52 = .ok (.aload_n 0, 1) := by decide +kernel
theorem dX7_setRank_53 : decode cX7_setRank 53 = .ok (.getfield 7, 3) := by decide +kernel
theorem dX7_setRank_56 : decode cX7_setRank 56 = .ok (.iload_n 1, 1) := by decide +kernel
theorem dX7_setRank_57 : decode cX7_setRank 57 = .ok (.iaload, 1) := by decide +kernel
theorem dX7_setRank_58 : decode cX7_setRank 58 = .ok (.istore_n 3, 1) := by decide +kernel
theorem dX7_setRank_59 : decode cX7_setRank 59 = .ok (.aload_n 0, 1) := by decide +kernel
theorem dX7_setRank_60 : decode cX7_setRank 60 = .ok (.getfield 7, 3) := by decide +kernel
theorem dX7_setRank_63 : decode cX7_setRank 63 = .ok (.iload_n 1, 1) := by decide +kernel
theorem dX7_setRank_64 : decode cX7_setRank 64 = .ok (.iload_n 2, 1) := by decide +kernel
theorem dX7_setRank_65 : decode cX7_setRank 65 = .ok (.iastore, 1) := by decide +kernel
theorem dX7_setRank_66 : decode cX7_setRank 66 = .ok (.iload_n 3, 1) := by decide +kernel
theorem dX7_setRank_67 : decode cX7_setRank 67 = .ok (.ireturn, 1) := by decide +kernel
set_option maxRecDepth 20000 in
theorem ggX7_setRule_X7_in : GoodIn wsX7_setRule wsX7_in := goodIn_r _ [7] (by decide +kernel) (by decide +kernel)
set_option maxRecDepth 20000 in
theorem gX7_setRule_X7_in : GoodIn wsX7_setRule (va_wsS RX7 78 yX7_in wsX7_in) := goodIn_app (goodIn_of _ (by decide +kernel)) ggX7_setRule_X7_in
theorem dX7_setRule_0 : decode cX7_setRule 0 = .ok (.aload_n 0, 1) := by decide +kernel
theorem dX7_setRule_1 : decode cX7_setRule 1 = .ok (.iload_n 1, 1) := by decide +kernel
theorem dX7_setRule_2 : decode cX7_setRule 2 = .ok (.iconst 0, 1) := by decide +kernel
theorem dX7_setRule_3 : decode cX7_setRule 3 = .ok (.iconst 3, 1) := by decide +kernel
theorem dX7_setRule_4 : decode cX7_setRule 4 = .ok (.invokestatic 78, 3) := by decide +kernel
theorem dX7_setRule_7 : decode cX7_setRule 7 = .ok (.ifCond .ne 7, 3) := by decide +kernel
theorem dX7_setRule_10 : decode cX7_setRule 10 = .ok (.iconst 1, 1) := by decide +kernel
theorem dX7_setRule_11 : decode cX7_setRule 11 = .ok (.goto 28, 3) := by decide +kernel
theorem dX7_setRule_14 : decode cX7_setRule 14 = .ok (.iload_n 2, 1) := by decide +kernel
theorem dX7_setRule_15 : decode cX7_setRule 15 = .ok (.iconst 0, 1) := by decide +kernel
theorem dX7_setRule_16 : decode cX7_setRule 16 = .ok (.iconst 2, 1) := by decide +kernel
theorem dX7_setRule_17 : decode cX7_setRule 17 = .ok (.invokestatic 78, 3) := by decide +kernel
theorem dX7_setRule_20 : decode cX7_setRule 20 = .ok (.ifCond .ne 7, 3) := by decide +kernel
theorem dX7_setRule_23 : decode cX7_setRule 23 = .ok (.iconst 2, 1) := by decide +kernel
theorem dX7_setRule_24 : decode cX7_setRule 24 = .ok (.goto 15, 3) := by decide +kernel
theorem dX7_setRule_27 : decode cX7_setRule 27 = .ok (.aload_n 0, 1) := by decide +kernel
theorem dX7_setRule_28 : decode cX7_setRule 28 = .ok (.getfield 82, 3) := by decide +kernel
theorem dX7_setRule_31 : decode cX7_setRule 31 = .ok (.ifCond .le 7, 3) := by decide +kernel
theorem dX7_setRule_34 : decode cX7_setRule 34 = .ok (.iconst 3, 1) := by decide +kernel
theorem dX7_setRule_35 : decode cX7_setRule 35 = .ok (.goto 4, 3) := by decide +kernel
theorem dX7_setRule_38 : decode cX7_setRule 38 = .ok (.iconst 0, 1) := by decide +kernel
theorem dX7_setRule_39 : decode cX7_setRule 39 = .ok (.putfield 74, 3) := by decide +kernel
theorem dX7_setRule_42 : decode cX7_setRule 42 = .ok (.aload_n 0, 1) := by decide +kernel
theorem dX7_setRule_43 : decode cX7_setRule 43 = .ok (.getfield 74, 3) := by decide +kernel
theorem dX7_setRule_46 : decode cX7_setRule 46 = .ok (.ifCond .le 5, 3) := by decide +kernel
theorem dX7_setRule_49 : decode cX7_setRule 49 = .ok (.iconst 0, 1) := by decide +kernel
theorem dX7_setRule_50 : decode cX7_setRule 50 = .ok (.ireturn, 1) := by decide +kernel
theorem dX7_setRule_51 : decode cX7_setRule 51 = .ok (.aload_n 0, 1) := by decide +kernel
theorem dX7_setRule_52 : decode cX7_setRule 52 = .ok (.getfield 13, 3) := by decide +kernel
theorem dX7_setRule_55 : decode cX7_setRule 55 = .ok (.iload_n 1, 1) := by decide +kernel
theorem dX7_setRule_56 : decode cX7_setRule 56 = .ok (.iaload, 1) := by decide +kernel
theorem dX7_setRule_57 : decode cX7_setRule 57 = .ok (.istore_n 3, 1) := by decide +kernel
theorem dX7_setRule_58 : decode cX7_setRule 58 = .ok (.aload_n 0, 1) := by decide +kernel
theorem dX7_setRule_59 : decode cX7_setRule 59 = .ok (.getfield 13, 3) := by decide +kernel
theorem dX7_setRule_62 : decode cX7_setRule 62 = .ok (.iload_n 1, 1) := by decide +kernel
theorem dX7_setRule_63 : decode cX7_setRule 63 = .ok (.iload_n 2, 1) := by decide +kernel
theorem dX7_setRule_64 : decode cX7_setRule 64 = .ok (.iastore, 1) := by decide +kernel
theorem dX7_setRule_65 : decode cX7_setRule 65 = .ok (.iload_n 3, 1) := by decide +kernel
theorem dX7_setRule_66 : decode cX7_setRule 66 = .ok (.ireturn, 1) := by decide +kernel
set_option maxRecDepth 20000 in
theorem ggX7_setOrder_X7_in : GoodIn wsX7_setOrder wsX7_in := goodIn_r _ [7] (by decide +kernel) (by decide +kernel)
set_option maxRecDepth 20000 in
theorem gX7_setOrder_X7_in : GoodIn wsX7_setOrder (va_wsS RX7 78 yX7_in wsX7_in) := goodIn_app (goodIn_of _ (by decide +kernel)) ggX7_setOrder_X7_in
theorem dX7_setOrder_0 : decode cX7_setOrder 0 = .ok (.iload_n 1, 1) := by decide +kernel
theorem dX7_setOrder_1 : decode cX7_setOrder 1 = .ok (.iconst 0, 1) := by decide +kernel
theorem dX7_setOrder_2 : decode cX7_setOrder 2 = .ok (.iconst 2, 1) := by decide +kernel
theorem dX7_setOrder_3 : decode cX7_setOrder 3 = .ok (.invokestatic 78, 3) := by decide +kernel
theorem dX7_setOrder_6 : decode cX7_setOrder 6 = .ok (.ifCond .eq 40, 3) := by decide +kernel
theorem dX7_setOrder_9 : decode cX7_setOrder 9 = .ok (.iload_n 2, 1) := by decide +kernel
theorem dX7_setOrder_10 : decode cX7_setOrder 10 = .ok (.iconst 0, 1) := by decide +kernel
theorem dX7_setOrder_11 : decode cX7_setOrder 11 = .ok (.iconst 2, 1) := by decide +kernel
theorem dX7_setOrder_12 : decode cX7_setOrder 12 = .ok (.invokestatic 78, 3) := by decide +kernel
theorem dX7_setOrder_15 : decode cX7_setOrder 15 = .ok (.ifCond .eq 31, 3) := by decide +kernel
theorem dX7_setOrder_18 : decode cX7_setOrder 18 = .ok (.iload_n 3, 1) := by decide +kernel
theorem dX7_setOrder_19 : decode cX7_setOrder 19 = .ok (.iconst 0, 1) := by decide +kernel
theorem dX7_setOrder_20 : decode cX7_setOrder 20 = .ok (.iconst 2, 1) := by decide +kernel
theorem dX7_setOrder_21 : decode cX7_setOrder 21 = .ok (.invokestatic 78, 3) := by decide +kernel
theorem dX7_setOrder_24 : decode cX7_setOrder 24 = .ok (.ifCond .eq 22, 3) := by decide +kernel
theorem dX7_setOrder_27 : decode cX7_setOrder 27 = .ok (.iload_n 1, 1) := by decide +kernel
theorem dX7_setOrder_28 : decode cX7_setOrder 28 = .ok (.iload_n 2, 1) := by decide +kernel
theorem dX7_setOrder_29 : decode cX7_setOrder 29 = .ok (.if_icmp .eq 17, 3) := by decide +kernel
theorem dX7_setOrder_32 : decode cX7_setOrder 32 = .ok (.iload_n 1, 1) := by decide +kernel
theorem dX7_setOrder_33 : decode cX7_setOrder 33 = .ok (.iload_n 3, 1) := by decide +kernel
theorem dX7_setOrder_34 : decode cX7_setOrder 34 = .ok (.if_icmp .eq 12, 3) := by decide +kernel
theorem dX7_setOrder_37 : decode cX7_setOrder 37 = .ok (.iload_n 2, 1) := by decide +kernel
theorem dX7_setOrder_38 : decode cX7_setOrder 38 = .ok (.iload_n 3, 1) := by decide +kernel
theorem dX7_setOrder_39 : decode cX7_setOrder 39 = .ok (.if_icmp .eq 7, 3) := by decide +kernel
theorem dX7_setOrder_42 : decode cX7_setOrder 42 = .ok (.iconst 1, 1) := by decide +kernel
theorem dX7_setOrder_43 : decode cX7_setOrder 43 = .ok (.goto 4, 3) := by decide +kernel
theorem dX7_setOrder_46 : decode cX7_setOrder 46 = .ok (.iconst 0, 1) := by decide +kernel
theorem dX7_setOrder_47 : decode cX7_setOrder 47 = .ok (.istore 4, 2) := by decide +kernel
theorem dX7_setOrder_49 : decode cX7_setOrder 49 = .ok (.aload_n 0, 1) := by decide +kernel
theorem dX7_setOrder_50 : decode cX7_setOrder 50 = .ok (.iload 4, 2) := by decide +kernel
theorem dX7_setOrder_52 : decode cX7_setOrder 52 = .ok (.ifCond .ne 7, 3) := by decide +kernel
theorem dX7_setOrder_55 : decode cX7_setOrder 55 = .ok (.iconst 1, 1) := by decide +kernel
theorem dX7_setOrder_56 : decode cX7_setOrder 56 = .ok (.goto 15, 3) := by decide +kernel
theorem dX7_setOrder_59 : decode cX7_setOrder 59 = .ok (.aload_n 0, 1) := by decide +kernel
theorem dX7_setOrder_60 : decode cX7_setOrder 60 = .ok (.getfield 82, 3) := by decide +kernel
theorem dX7_setOrder_63 : decode cX7_setOrder 63 = .ok (.ifCond .le 7, 3) := by decide +kernel
theorem dX7_setOrder_66 : decode cX7_setOrder 66 = .ok (.iconst 2, 1) := by decide +kernel
theorem dX7_setOrder_67 : decode cX7_setOrder 67 = .ok (.goto 4, 3) := by decide +kernel
theorem dX7_setOrder_70 : decode cX7_setOrder 70 = .ok (.iconst 0, 1) := by decide +kernel
theorem dX7_setOrder_71 : decode cX7_setOrder 71 = .ok (.putfield 74, 3) := by decide +kernel
theorem dX7_setOrder_74 : decode cX7_setOrder 74 = .ok (.aload_n 0, 1) := by decide +kernel
theorem dX7_setOrder_75 : decode cX7_setOrder 75 = .ok (.getfield 74, 3) := by decide +kernel
theorem dX7_setOrder_78 : decode cX7_setOrder 78 = .ok (.ifCond .ne 24, 3) := by decide +kernel
theorem dX7_setOrder_81 : decode cX7_setOrder 81 = .ok (.aload_n 0, 1) := by decide +kernel
theorem dX7_setOrder_82 : decode cX7_setOrder 82 = .ok (.getfield 16, 3) := by decide +kernel
theorem dX7_setOrder_85 : decode cX7_setOrder 85 = .ok (.iconst 0, 1) := by decide +kernel
theorem dX7_setOrder_86 : decode cX7_setOrder 86 = .ok (.iload_n 1, 1) := by decide +kernel
theorem dX7_setOrder_87 : decode cX7_setOrder 87 = .ok (.iastore, 1) := by decide +kernel
theorem dX7_setOrder_88 : decode cX7_setOrder 88 = .ok (.aload_n 0, 1) := by decide +kernel
theorem dX7_setOrder_89 : decode cX7_setOrder 89 = .ok (.getfield 16, 3) := by decide +kernel
theorem dX7_setOrder_92 : decode cX7_setOrder 92 = .ok (.iconst 1, 1) := by decide +kernel
theorem dX7_setOrder_93 : decode cX7_setOrder 93 = .ok (.iload_n 2, 1) := by decide +kernel
theorem dX7_setOrder_94 : decode cX7_setOrder 94 = .ok (.iastore, 1) := by decide +kernel
theorem dX7_setOrder_95 : decode cX7_setOrder 95 = .ok (.aload_n 0, 1) := by decide +kernel
theorem dX7_setOrder_96 : decode cX7_setOrder 96 = .ok (.getfield 16, 3) := by decide +kernel
theorem dX7_setOrder_99 : decode cX7_setOrder 99 = .ok (.iconst 2, 1) := by decide +kernel
theorem dX7_setOrder_100 : decode cX7_setOrder 100 = .ok (.iload_n 3, 1) := by decide +kernel
theorem dX7_setOrder_101 : decode cX7_setOrder 101 = .ok (.iastore, 1) := by decide +kernel
theorem dX7_setOrder_102 : decode cX7_setOrder 102 = .ok (.return_, 1) := by decide +kernel
theorem dX7_makeRecord_0 : decode cX7_makeRecord 0 = .ok (.aload_n 0, 1) := by decide +kernel
theorem dX7_makeRecord_1 : decode cX7_makeRecord 1 = .ok (.getfield 53, 3) := by decide +kernel
theorem dX7_makeRecord_4 : decode cX7_makeRecord 4 = .ok (.iload_n 1, 1) := by decide +kernel
theorem dX7_makeRecord_5 : decode cX7_makeRecord 5 = .ok (.iconst 1, 1) := by decide +kernel
theorem dX7_makeRecord_6 : decode cX7_makeRecord 6 = .ok (.bastore, 1) := by decide +kernel
theorem dX7_makeRecord_7 : decode cX7_makeRecord 7 = .ok (.aload_n 0, 1) := by decide +kernel
theorem dX7_makeRecord_8 : decode cX7_makeRecord 8 = .ok (.getfield 68, 3) := by decide +kernel
theorem dX7_makeRecord_11 : decode cX7_makeRecord 11 = .ok (.iload_n 1, 1) := by decide +kernel
theorem dX7_makeRecord_12 : decode cX7_makeRecord 12 = .ok (.iconst 0, 1) := by decide +kernel
theorem dX7_makeRecord_13 : decode cX7_makeRecord 13 = .ok (.iastore, 1) := by decide +kernel
theorem dX7_makeRecord_14 : decode cX7_makeRecord 14 = .ok (.iconst 0, 1) := by decide +kernel
theorem dX7_makeRecord_15 : decode cX7_makeRecord 15 = .ok (.istore_n 2, 1) := by decide +kernel
theorem dX7_makeRecord_16 : decode cX7_makeRecord 16 = .ok (.iload_n 2, 1) := by decide +kernel
theorem dX7_makeRecord_17 : decode cX7_makeRecord 17 = .ok (.iconst 3, 1) := by decide +kernel
theorem dX7_makeRecord_18 : decode cX7_makeRecord 18 = .ok (.if_icmp .ge 29, 3) := by decide +kernel
theorem dX7_makeRecord_21 : decode cX7_makeRecord 21 = .ok (.aload_n 0, 1) := by decide +kernel
theorem dX7_makeRecord_22 : decode cX7_makeRecord 22 = .ok (.getfield 56, 3) := by decide +kernel
theorem dX7_makeRecord_25 : decode cX7_makeRecord 25 = .ok (.iconst 3, 1) := by decide +kernel
theorem dX7_makeRecord_26 : decode cX7_makeRecord 26 = .ok (.iload_n 1, 1) := by decide +kernel
theorem dX7_makeRecord_27 : decode cX7_makeRecord 27 = .ok (.imul, 1) := by decide +kernel
theorem dX7_makeRecord_28 : decode cX7_makeRecord 28 = .ok (.iload_n 2, 1) := by decide +kernel
theorem dX7_makeRecord_29 : decode cX7_makeRecord 29 = .ok (.iadd, 1) := by decide +kernel
theorem dX7_makeRecord_30 : decode cX7_makeRecord 30 = .ok (.aload_n 0, 1) := by decide +kernel
theorem dX7_makeRecord_31 : decode cX7_makeRecord 31 = .ok (.getfield 35, 3) := by decide +kernel
theorem dX7_makeRecord_34 : decode cX7_makeRecord 34 = .ok (.iconst 3, 1) := by decide +kernel
theorem dX7_makeRecord_35 : decode cX7_makeRecord 35 = .ok (.iload_n 1, 1) := by decide +kernel
theorem dX7_makeRecord_36 : decode cX7_makeRecord 36 = .ok (.imul, 1) := by decide +kernel
theorem dX7_makeRecord_37 : decode cX7_makeRecord 37 = .ok (.iload_n 2, 1) := by decide +kernel
theorem dX7_makeRecord_38 : decode cX7_makeRecord 38 = .ok (.iadd, 1) := by decide +kernel
theorem dX7_makeRecord_39 : decode cX7_makeRecord 39 = .ok (.iaload, 1) := by decide +kernel
theorem dX7_makeRecord_40 : decode cX7_makeRecord 40 = .ok (.iastore, 1) := by decide +kernel
theorem dX7_makeRecord_41 : decode cX7_makeRecord 41 = .ok (.iinc 2 1, 3) := by decide +kernel
theorem dX7_makeRecord_44 : decode cX7_makeRecord 44 = .ok (.goto (-28), 3) := by decide +kernel
theorem dX7_makeRecord_47 : decode cX7_makeRecord 47 = .ok (.iconst 0, 1) := by decide +kernel
theorem dX7_makeRecord_48 : decode cX7_makeRecord 48 = .ok (.istore_n 2, 1) := by decide +kernel
theorem dX7_makeRecord_49 : decode cX7_makeRecord 49 = .ok (.iload_n 2, 1) := by decide +kernel
theorem dX7_makeRecord_50 : decode cX7_makeRecord 50 = .ok (.iconst 4, 1) := by decide +kernel
theorem dX7_makeRecord_51 : decode cX7_makeRecord 51 = .ok (.if_icmp .ge 67, 3) := by decide +kernel
theorem dX7_makeRecord_54 : decode cX7_makeRecord 54 = .ok (.aload_n 0, 1) := by decide +kernel
theorem dX7_makeRecord_55 : decode cX7_makeRecord 55 = .ok (.getfield 38, 3) := by decide +kernel
theorem dX7_makeRecord_58 : decode cX7_makeRecord 58 = .ok (.iconst 4, 1) := by decide +kernel
theorem dX7_makeRecord_59 : decode cX7_makeRecord 59 = .ok (.iload_n 1, 1) := by decide +kernel
theorem dX7_makeRecord_60 : decode cX7_makeRecord 60 = .ok (.imul, 1) := by decide +kernel
theorem dX7_makeRecord_61 : decode cX7_makeRecord 61 = .ok (.iload_n 2, 1) := by decide +kernel
theorem dX7_makeRecord_62 : decode cX7_makeRecord 62 = .ok (.iadd, 1) := by decide +kernel
theorem dX7_makeRecord_63 : decode cX7_makeRecord 63 = .ok (.iaload, 1) := by decide +kernel
theorem dX7_makeRecord_64 : decode cX7_makeRecord 64 = .ok (.istore_n 3, 1) := by decide +kernel
theorem dX7_makeRecord_65 : decode cX7_makeRecord 65 = .ok (.aload_n 0, 1) := by decide +kernel
theorem dX7_makeRecord_66 : decode cX7_makeRecord 66 = .ok (.getfield 59, 3) := by decide +kernel
theorem dX7_makeRecord_69 : decode cX7_makeRecord 69 = .ok (.iconst 4, 1) := by decide +kernel
theorem dX7_makeRecord_70 : decode cX7_makeRecord 70 = .ok (.iload_n 1, 1) := by decide +kernel
theorem dX7_makeRecord_71 : decode cX7_makeRecord 71 = .ok (.imul, 1) := by decide +kernel
theorem dX7_makeRecord_72 : decode cX7_makeRecord 72 = .ok (.iload_n 2, 1) := by decide +kernel
theorem dX7_makeRecord_73 : decode cX7_makeRecord 73 = .ok (.iadd, 1) := by decide +kernel
theorem dX7_makeRecord_74 : decode cX7_makeRecord 74 = .ok (.iload_n 3, 1) := by decide +kernel
theorem dX7_makeRecord_75 : decode cX7_makeRecord 75 = .ok (.iastore, 1) := by decide +kernel
theorem dX7_makeRecord_76 : decode cX7_makeRecord 76 = .ok (.aload_n 0, 1) := by decide +kernel
theorem dX7_makeRecord_77 : decode cX7_makeRecord 77 = .ok (.getfield 62, 3) := by decide +kernel
theorem dX7_makeRecord_80 : decode cX7_makeRecord 80 = .ok (.iconst 4, 1) := by decide +kernel
theorem dX7_makeRecord_81 : decode cX7_makeRecord 81 = .ok (.iload_n 1, 1) := by decide +kernel
theorem dX7_makeRecord_82 : decode cX7_makeRecord 82 = .ok (.imul, 1) := by decide +kernel
theorem dX7_makeRecord_83 : decode cX7_makeRecord 83 = .ok (.iload_n 2, 1) := by decide +kernel
theorem dX7_makeRecord_84 : decode cX7_makeRecord 84 = .ok (.iadd, 1) := by decide +kernel
theorem dX7_makeRecord_85 : decode cX7_makeRecord 85 = .ok (.iload_n 3, 1) := by decide +kernel
theorem dX7_makeRecord_86 : decode cX7_makeRecord 86 = .ok (.iconst (-1), 1) := by decide +kernel
theorem dX7_makeRecord_87 : decode cX7_makeRecord 87 = .ok (.if_icmp .ne 7, 3) := by decide +kernel
theorem dX7_makeRecord_90 : decode cX7_makeRecord 90 = .ok (.iconst (-1), 1) := by decide +kernel
theorem dX7_makeRecord_91 : decode cX7_makeRecord 91 = .ok (.goto 9, 3) := by decide +kernel
theorem dX7_makeRecord_94 : decode cX7_makeRecord 94 = .ok (.aload_n 0, 1) := by decide +kernel
theorem dX7_makeRecord_95 : decode cX7_makeRecord 95 = .ok (.getfield 32, 3) := by decide +kernel
theorem dX7_makeRecord_98 : decode cX7_makeRecord 98 = .ok (.iload_n 1, 1) := by decide +kernel
theorem dX7_makeRecord_99 : decode cX7_makeRecord 99 = .ok (.iaload, 1) := by decide +kernel
theorem dX7_makeRecord_100 : decode cX7_makeRecord 100 = .ok (.iastore, 1) := by decide +kernel
theorem dX7_makeRecord_101 : decode cX7_makeRecord 101 = .ok (.aload_n 0, 1) := by decide +kernel
theorem dX7_makeRecord_102 : decode cX7_makeRecord 102 = .ok (.getfield 65, 3) := by decide +kernel
theorem dX7_makeRecord_105 : decode cX7_makeRecord 105 = .ok (.iconst 4, 1) := by decide +kernel
theorem dX7_makeRecord_106 : decode cX7_makeRecord 106 = .ok (.iload_n 1, 1) := by decide +kernel
theorem dX7_makeRecord_107 : decode cX7_makeRecord 107 = .ok (.imul, 1) := by decide +kernel
theorem dX7_makeRecord_108 : decode cX7_makeRecord 108 = .ok (.iload_n 2, 1) := by decide +kernel
theorem dX7_makeRecord_109 : decode cX7_makeRecord 109 = .ok (.iadd, 1) := by decide +kernel
theorem dX7_makeRecord_110 : decode cX7_makeRecord 110 = .ok (.iconst 0, 1) := by decide +kernel
theorem dX7_makeRecord_111 : decode cX7_makeRecord 111 = .ok (.bastore, 1) := by decide +kernel
theorem dX7_makeRecord_112 : decode cX7_makeRecord 112 = .ok (.iinc 2 1, 3) := by decide +kernel
theorem dX7_makeRecord_115 : decode cX7_makeRecord 115 = .ok (.goto (-66), 3) := by decide +kernel
theorem dX7_makeRecord_118 : decode cX7_makeRecord 118 = .ok (.return_, 1) := by decide +kernel
theorem dX7_layOver_0 : decode cX7_layOver 0 = .ok (.iconst 0, 1) := by decide +kernel
theorem dX7_layOver_1 : decode cX7_layOver 1 = .ok (.istore_n 3, 1) := by decide +kernel
theorem dX7_layOver_2 : decode cX7_layOver 2 = .ok (.iload_n 3, 1) := by decide +kernel
theorem dX7_layOver_3 : decode cX7_layOver 3 = .ok (.iconst 3, 1) := by decide +kernel
theorem dX7_layOver_4 : decode cX7_layOver 4 = .ok (.if_icmp .ge 54, 3) := by decide +kernel
theorem dX7_layOver_7 : decode cX7_layOver 7 = .ok (.iconst 3, 1) := by decide +kernel
theorem dX7_layOver_8 : decode cX7_layOver 8 = .ok (.iload_n 2, 1) := by decide +kernel
theorem dX7_layOver_9 : decode cX7_layOver 9 = .ok (.imul, 1) := by decide +kernel
theorem dX7_layOver_10 : decode cX7_layOver 10 = .ok (.iload_n 3, 1) := by decide +kernel
theorem dX7_layOver_11 : decode cX7_layOver 11 = .ok (.iadd, 1) := by decide +kernel
theorem dX7_layOver_12 : decode cX7_layOver 12 = .ok (.istore 4, 2) := by decide +kernel
theorem dX7_layOver_14 : decode cX7_layOver 14 = .ok (.aload_n 0, 1) := by decide +kernel
theorem dX7_layOver_15 : decode cX7_layOver 15 = .ok (.getfield 56, 3) := by decide +kernel
theorem dX7_layOver_18 : decode cX7_layOver 18 = .ok (.iload 4, 2) := by decide +kernel
theorem dX7_layOver_20 : decode cX7_layOver 20 = .ok (.aload_n 0, 1) := by decide +kernel
theorem dX7_layOver_21 : decode cX7_layOver 21 = .ok (.getfield 56, 3) := by decide +kernel
theorem dX7_layOver_24 : decode cX7_layOver 24 = .ok (.iload 4, 2) := by decide +kernel
theorem dX7_layOver_26 : decode cX7_layOver 26 = .ok (.iaload, 1) := by decide +kernel
theorem dX7_layOver_27 : decode cX7_layOver 27 = .ok (.iconst (-1), 1) := by decide +kernel
theorem dX7_layOver_28 : decode cX7_layOver 28 = .ok (.if_icmp .ne 16, 3) := by decide +kernel
theorem dX7_layOver_31 : decode cX7_layOver 31 = .ok (.aload_n 0, 1) := by decide +kernel
theorem dX7_layOver_32 : decode cX7_layOver 32 = .ok (.getfield 35, 3) := by decide +kernel
theorem dX7_layOver_35 : decode cX7_layOver 35 = .ok (.iconst 3, 1) := by decide +kernel
theorem dX7_layOver_36 : decode cX7_layOver 36 = .ok (.iload_n 1, 1) := by decide +kernel
theorem dX7_layOver_37 : decode cX7_layOver 37 = .ok (.imul, 1) := by decide +kernel
theorem dX7_layOver_38 : decode cX7_layOver 38 = .ok (.iload_n 3, 1) := by decide +kernel
theorem dX7_layOver_39 : decode cX7_layOver 39 = .ok (.iadd, 1) := by decide +kernel
theorem dX7_layOver_40 : decode cX7_layOver 40 = .ok (.iaload, 1) := by decide +kernel
theorem dX7_layOver_41 : decode cX7_layOver 41 = .ok (.goto 10, 3) := by decide +kernel
theorem dX7_layOver_44 : decode cX7_layOver 44 = .ok (.aload_n 0, 1) := by decide +kernel
theorem dX7_layOver_45 : decode cX7_layOver 45 = .ok (.getfield 56, 3) := by decide +kernel
theorem dX7_layOver_48 : decode cX7_layOver 48 = .ok (.iload 4, 2) := by decide +kernel
theorem dX7_layOver_50 : decode cX7_layOver 50 = .ok (.iaload, 1) := by decide +kernel
theorem dX7_layOver_51 : decode cX7_layOver 51 = .ok (.iastore, 1) := by decide +kernel
theorem dX7_layOver_52 : decode cX7_layOver 52 = .ok (.iinc 3 1, 3) := by decide +kernel
theorem dX7_layOver_55 : decode cX7_layOver 55 = .ok (.goto (-53), 3) := by decide +kernel
theorem dX7_layOver_58 : decode cX7_layOver 58 = .ok (.iconst 0, 1) := by decide +kernel
theorem dX7_layOver_59 : decode cX7_layOver 59 = .ok (.istore_n 3, 1) := by decide +kernel
theorem dX7_layOver_60 : decode cX7_layOver 60 = .ok (.iload_n 3, 1) := by decide +kernel
theorem dX7_layOver_61 : decode cX7_layOver 61 = .ok (.iconst 4, 1) := by decide +kernel
theorem dX7_layOver_62 : decode cX7_layOver 62 = .ok (.if_icmp .ge 146, 3) := by decide +kernel
theorem dX7_layOver_65 : decode cX7_layOver 65 = .ok (.iconst 4, 1) := by decide +kernel
theorem dX7_layOver_66 : decode cX7_layOver 66 = .ok (.iload_n 2, 1) := by decide +kernel
theorem dX7_layOver_67 : decode cX7_layOver 67 = .ok (.imul, 1) := by decide +kernel
theorem dX7_layOver_68 : decode cX7_layOver 68 = .ok (.iload_n 3, 1) := by decide +kernel
theorem dX7_layOver_69 : decode cX7_layOver 69 = .ok (.iadd, 1) := by decide +kernel
theorem dX7_layOver_70 : decode cX7_layOver 70 = .ok (.istore 4, 2) := by decide +kernel
theorem dX7_layOver_72 : decode cX7_layOver 72 = .ok (.aload_n 0, 1) := by decide +kernel
theorem dX7_layOver_73 : decode cX7_layOver 73 = .ok (.getfield 38, 3) := by decide +kernel
theorem dX7_layOver_76 : decode cX7_layOver 76 = .ok (.iconst 4, 1) := by decide +kernel
theorem dX7_layOver_77 : decode cX7_layOver 77 = .ok (.iload_n 1, 1) := by decide +kernel
theorem dX7_layOver_78 : decode cX7_layOver 78 = .ok (.imul, 1) := by decide +kernel
theorem dX7_layOver_79 : decode cX7_layOver 79 = .ok (.iload_n 3, 1) := by decide +kernel
theorem dX7_layOver_80 : decode cX7_layOver 80 = .ok (.iadd, 1) := by decide +kernel
theorem dX7_layOver_81 : decode cX7_layOver 81 = .ok (.iaload, 1) := by decide +kernel
theorem dX7_layOver_82 : decode cX7_layOver 82 = .ok (.istore 5, 2) := by decide +kernel
theorem dX7_layOver_84 : decode cX7_layOver 84 = .ok (.aload_n 0, 1) := by decide +kernel
theorem dX7_layOver_85 : decode cX7_layOver 85 = .ok (.getfield 13, 3) := by decide +kernel
theorem dX7_layOver_88 : decode cX7_layOver 88 = .ok (.iload_n 3, 1) := by decide +kernel
theorem dX7_layOver_89 : decode cX7_layOver 89 = .ok (.iaload, 1) := by decide +kernel
theorem dX7_layOver_90 : decode cX7_layOver 90 = .ok (.iconst 2, 1) := by decide +kernel
theorem dX7_layOver_91 : decode cX7_layOver 91 = .ok (.if_icmp .eq 50, 3) := by decide +kernel
theorem dX7_layOver_94 : decode cX7_layOver 94 = .ok (.aload_n 0, 1) := by decide +kernel
theorem dX7_layOver_95 : decode cX7_layOver 95 = .ok (.getfield 13, 3) := by decide +kernel
theorem dX7_layOver_98 : decode cX7_layOver 98 = .ok (.iload_n 3, 1) := by decide +kernel
theorem dX7_layOver_99 : decode cX7_layOver 99 = .ok (.iaload, 1) := by decide +kernel
theorem dX7_layOver_100 : decode cX7_layOver 100 = .ok (.iconst 1, 1) := by decide +kernel
theorem dX7_layOver_101 : decode cX7_layOver 101 = .ok (.if_icmp .ne 44, 3) := by decide +kernel
theorem dX7_layOver_104 : decode cX7_layOver 104 = .ok (.aload_n 0, 1) := by decide +kernel
theorem dX7_layOver_105 : decode cX7_layOver 105 = .ok (.getfield 62, 3) := by decide +kernel
theorem dX7_layOver_108 : decode cX7_layOver 108 = .ok (.iload 4, 2) := by decide +kernel
theorem dX7_layOver_110 : decode cX7_layOver 110 = .ok (.iaload, 1) := by decide +kernel
theorem dX7_layOver_111 : decode cX7_layOver 111 = .ok (.iconst (-1), 1) := by decide +kernel
theorem dX7_layOver_112 : decode cX7_layOver 112 = .ok (.if_icmp .eq 29, 3) := by decide +kernel
theorem dX7_layOver_115 : decode cX7_layOver 115 = .ok (.aload_n 0, 1) := by decide +kernel
theorem dX7_layOver_116 : decode cX7_layOver 116 = .ok (.getfield 7, 3) := by decide +kernel
theorem dX7_layOver_119 : decode cX7_layOver 119 = .ok (.aload_n 0, 1) := by decide +kernel
theorem dX7_layOver_120 : decode cX7_layOver 120 = .ok (.getfield 32, 3) := by decide +kernel
theorem dX7_layOver_123 : decode cX7_layOver 123 = .ok (.iload_n 1, 1) := by decide +kernel
theorem dX7_layOver_124 : decode cX7_layOver 124 = .ok (.iaload, 1) := by decide +kernel
theorem dX7_layOver_125 : decode cX7_layOver 125 = .ok (.iaload, 1) := by decide +kernel
theorem dX7_layOver_126 : decode cX7_layOver 126 = .ok (.aload_n 0, 1) := by decide +kernel
theorem dX7_layOver_127 : decode cX7_layOver 127 = .ok (.getfield 7, 3) := by decide +kernel
theorem dX7_layOver_130 : decode cX7_layOver 130 = .ok (.aload_n 0, 1) := by decide +kernel
theorem dX7_layOver_131 : decode cX7_layOver 131 = .ok (.getfield 62, 3) := by decide +kernel
theorem dX7_layOver_134 : decode cX7_layOver 134 = .ok (.iload 4, 2) := by decide +kernel
theorem dX7_layOver_136 : decode cX7_layOver 136 = .ok (.iaload, 1) := by decide +kernel
theorem dX7_layOver_137 : decode cX7_layOver 137 = .ok (.iaload, 1) := by decide +kernel
theorem dX7_layOver_138 : decode cX7_layOver 138 = .ok (.if_icmp .lt 7, 3) := by decide +kernel
theorem dX7_layOver_141 : decode cX7_layOver 141 = .ok (.iconst 1, 1) := by decide +kernel
theorem dX7_layOver_142 : decode cX7_layOver 142 = .ok (.goto 4, 3) := by decide +kernel
theorem dX7_layOver_145 : decode cX7_layOver 145 = .ok (.iconst 0, 1) := by decide +kernel
theorem dX7_layOver_146 : decode cX7_layOver 146 = .ok (.istore 6, 2) := by decide +kernel
theorem dX7_layOver_148 : decode cX7_layOver 148 = .ok (.iload 5, 2) := by decide +kernel
theorem dX7_layOver_150 : decode cX7_layOver 150 = .ok (.iconst (-1), 1) := by decide +kernel
theorem dX7_layOver_151 : decode cX7_layOver 151 = .ok (.if_icmp .eq 51, 3) := by decide +kernel
theorem dX7_layOver_154 : decode cX7_layOver 154 = .ok (.aload_n 0, 1) := by decide +kernel
theorem dX7_layOver_155 : decode cX7_layOver 155 = .ok (.getfield 65, 3) := by decide +kernel
theorem dX7_layOver_158 : decode cX7_layOver 158 = .ok (.iload 4, 2) := by decide +kernel
theorem dX7_layOver_160 : decode cX7_layOver 160 = .ok (.baload, 1) := by decide +kernel
theorem dX7_layOver_161 : decode cX7_layOver 161 = .ok (.ifCond .ne 41, 3) := by decide +kernel
theorem dX7_layOver_164 : decode cX7_layOver 164 = .ok (.aload_n 0, 1) := by decide +kernel
theorem dX7_layOver_165 : decode cX7_layOver 165 = .ok (.getfield 59, 3) := by decide +kernel
theorem dX7_layOver_168 : decode cX7_layOver 168 = .ok (.iload 4, 2) := by decide +kernel
theorem dX7_layOver_170 : decode cX7_layOver 170 = .ok (.iaload, 1) := by decide +kernel
theorem dX7_layOver_171 : decode cX7_layOver 171 = .ok (.iconst (-1), 1) := by decide +kernel
theorem dX7_layOver_172 : decode cX7_layOver 172 = .ok (.if_icmp .eq 8, 3) := by decide +kernel
theorem dX7_layOver_175 : decode cX7_layOver 175 = .ok (.iload 6, 2) := by decide +kernel
theorem dX7_layOver_177 : decode cX7_layOver 177 = .ok (.ifCond .eq 25, 3) := by decide +kernel
theorem dX7_layOver_180 : decode cX7_layOver 180 = .ok (.aload_n 0, 1) := by decide +kernel
theorem dX7_layOver_181 : decode cX7_layOver 181 = .ok (.getfield 59, 3) := by decide +kernel
theorem dX7_layOver_184 : decode cX7_layOver 184 = .ok (.iload 4, 2) := by decide +kernel
theorem dX7_layOver_186 : decode cX7_layOver 186 = .ok (.iload 5, 2) := by decide +kernel
theorem dX7_layOver_188 : decode cX7_layOver 188 = .ok (.iastore, 1) := by decide +kernel
theorem dX7_layOver_189 : decode cX7_layOver 189 = .ok (.aload_n 0, 1) := by decide +kernel
theorem dX7_layOver_190 : decode cX7_layOver 190 = .ok (.getfield 62, 3) := by decide +kernel
theorem dX7_layOver_193 : decode cX7_layOver 193 = .ok (.iload 4, 2) := by decide +kernel
theorem dX7_layOver_195 : decode cX7_layOver 195 = .ok (.aload_n 0, 1) := by decide +kernel
theorem dX7_layOver_196 : decode cX7_layOver 196 = .ok (.getfield 32, 3) := by decide +kernel
theorem dX7_layOver_199 : decode cX7_layOver 199 = .ok (.iload_n 1, 1) := by decide +kernel
theorem dX7_layOver_200 : decode cX7_layOver 200 = .ok (.iaload, 1) := by decide +kernel
theorem dX7_layOver_201 : decode cX7_layOver 201 = .ok (.iastore, 1) := by decide +kernel
theorem dX7_layOver_202 : decode cX7_layOver 202 = .ok (.iinc 3 1, 3) := by decide +kernel
theorem dX7_layOver_205 : decode cX7_layOver 205 = .ok (.goto (-145), 3) := by decide +kernel
theorem dX7_layOver_208 : decode cX7_layOver 208 = .ok (.return_, 1) := by decide +kernel
theorem dX7_match_0 : decode cX7_match 0 = .ok (.iconst 0, 1) := by decide +kernel
theorem dX7_match_1 : decode cX7_match 1 = .ok (.istore_n 2, 1) := by decide +kernel
theorem dX7_match_2 : decode cX7_match 2 = .ok (.iload_n 2, 1) := by decide +kernel
theorem dX7_match_3 : decode cX7_match 3 = .ok (.iconst 3, 1) := by decide +kernel
theorem dX7_match_4 : decode cX7_match 4 = .ok (.if_icmp .ge 108, 3) := by decide +kernel
theorem dX7_match_7 : decode cX7_match 7 = .ok (.aload_n 0, 1) := by decide +kernel
theorem dX7_match_8 : decode cX7_match 8 = .ok (.getfield 35, 3) := by decide +kernel
theorem dX7_match_11 : decode cX7_match 11 = .ok (.iconst 3, 1) := by decide +kernel
theorem dX7_match_12 : decode cX7_match 12 = .ok (.iload_n 1, 1) := by decide +kernel
theorem dX7_match_13 : decode cX7_match 13 = .ok (.imul, 1) := by decide +kernel
theorem dX7_match_14 : decode cX7_match 14 = .ok (.aload_n 0, 1) := by decide +kernel
theorem dX7_match_15 : decode cX7_match 15 = .ok (.getfield 16, 3) := by decide +kernel
theorem dX7_match_18 : decode cX7_match 18 = .ok (.iload_n 2, 1) := by decide +kernel
theorem dX7_match_19 : decode cX7_match 19 = .ok (.iaload, 1) := by decide +kernel
theorem dX7_match_20 : decode cX7_match 20 = .ok (.iadd, 1) := by decide +kernel
theorem dX7_match_21 : decode cX7_match 21 = .ok (.iaload, 1) := by decide +kernel
theorem dX7_match_22 : decode cX7_match 22 = .ok (.istore_n 3, 1) := by decide +kernel
theorem dX7_match_23 : decode cX7_match 23 = .ok (.iconst 0, 1) := by decide +kernel
theorem dX7_match_24 : decode cX7_match 24 = .ok (.istore 4, 2) := by decide +kernel
theorem dX7_match_26 : decode cX7_match 26 = .ok (.iconst (-1), 1) := by decide +kernel
theorem dX7_match_27 : decode cX7_match 27 = .ok (.istore 5, 2) := by decide +kernel
theorem dX7_match_29 : decode cX7_match 29 = .ok (.iconst 0, 1) := by decide +kernel
theorem dX7_match_30 : decode cX7_match 30 = .ok (.istore 6, 2) := by decide +kernel
theorem dX7_match_32 : decode cX7_match 32 = .ok (.iload 6, 2) := by decide +kernel
theorem dX7_match_34 : decode cX7_match 34 = .ok (.bipush 80, 2) := by decide +kernel
theorem dX7_match_36 : decode cX7_match 36 = .ok (.if_icmp .ge 51, 3) := by decide +kernel
theorem dX7_match_39 : decode cX7_match 39 = .ok (.iload_n 3, 1) := by decide +kernel
theorem dX7_match_40 : decode cX7_match 40 = .ok (.iconst (-1), 1) := by decide +kernel
theorem dX7_match_41 : decode cX7_match 41 = .ok (.if_icmp .eq 46, 3) := by decide +kernel
theorem dX7_match_44 : decode cX7_match 44 = .ok (.aload_n 0, 1) := by decide +kernel
theorem dX7_match_45 : decode cX7_match 45 = .ok (.getfield 53, 3) := by decide +kernel
theorem dX7_match_48 : decode cX7_match 48 = .ok (.iload 6, 2) := by decide +kernel
theorem dX7_match_50 : decode cX7_match 50 = .ok (.baload, 1) := by decide +kernel
theorem dX7_match_51 : decode cX7_match 51 = .ok (.ifCond .eq 30, 3) := by decide +kernel
theorem dX7_match_54 : decode cX7_match 54 = .ok (.aload_n 0, 1) := by decide +kernel
theorem dX7_match_55 : decode cX7_match 55 = .ok (.getfield 56, 3) := by decide +kernel
theorem dX7_match_58 : decode cX7_match 58 = .ok (.iconst 3, 1) := by decide +kernel
theorem dX7_match_59 : decode cX7_match 59 = .ok (.iload 6, 2) := by decide +kernel
theorem dX7_match_61 : decode cX7_match 61 = .ok (.imul, 1) := by decide +kernel
theorem dX7_match_62 : decode cX7_match 62 = .ok (.aload_n 0, 1) := by decide +kernel
theorem dX7_match_63 : decode cX7_match 63 = .ok (.getfield 16, 3) := by decide +kernel
theorem dX7_match_66 : decode cX7_match 66 = .ok (.iload_n 2, 1) := by decide +kernel
theorem dX7_match_67 : decode cX7_match 67 = .ok (.iaload, 1) := by decide +kernel
theorem dX7_match_68 : decode cX7_match 68 = .ok (.iadd, 1) := by decide +kernel
theorem dX7_match_69 : decode cX7_match 69 = .ok (.iaload, 1) := by decide +kernel
theorem dX7_match_70 : decode cX7_match 70 = .ok (.iload_n 3, 1) := by decide +kernel
theorem dX7_match_71 : decode cX7_match 71 = .ok (.if_icmp .ne 10, 3) := by decide +kernel
theorem dX7_match_74 : decode cX7_match 74 = .ok (.iinc 4 1, 3) := by decide +kernel
theorem dX7_match_77 : decode cX7_match 77 = .ok (.iload 6, 2) := by decide +kernel
theorem dX7_match_79 : decode cX7_match 79 = .ok (.istore 5, 2) := by decide +kernel
theorem dX7_match_81 : decode cX7_match 81 = .ok (.iinc 6 1, 3) := by decide +kernel
theorem dX7_match_84 : decode cX7_match 84 = .ok (.goto (-52), 3) := by decide +kernel
theorem dX7_match_87 : decode cX7_match 87 = .ok (.iload 4, 2) := by decide +kernel
theorem dX7_match_89 : decode cX7_match 89 = .ok (.ifCond .le 17, 3) := by decide +kernel
theorem dX7_match_92 : decode cX7_match 92 = .ok (.iload 4, 2) := by decide +kernel
theorem dX7_match_94 : decode cX7_match 94 = .ok (.iconst 1, 1) := by decide +kernel
theorem dX7_match_95 : decode cX7_match 95 = .ok (.if_icmp .ne 8, 3) := by decide +kernel
theorem dX7_match_98 : decode cX7_match 98 = .ok (.iload 5, 2) := by decide +kernel
theorem dX7_match_100 : decode cX7_match 100 = .ok (.goto 5, 3) := by decide +kernel
theorem dX7_match_103 : decode cX7_match 103 = .ok (.bipush (-2), 2) := by decide +kernel
theorem dX7_match_105 : decode cX7_match 105 = .ok (.ireturn, 1) := by decide +kernel
theorem dX7_match_106 : decode cX7_match 106 = .ok (.iinc 2 1, 3) := by decide +kernel
theorem dX7_match_109 : decode cX7_match 109 = .ok (.goto (-107), 3) := by decide +kernel
theorem dX7_match_112 : decode cX7_match 112 = .ok (.iconst (-1), 1) := by decide +kernel
theorem dX7_match_113 : decode cX7_match 113 = .ok (.ireturn, 1) := by decide +kernel
set_option maxRecDepth 20000 in
theorem ggX7_doLoad_X7_match : GoodIn wsX7_doLoad wsX7_match := goodIn_r _ [8, 9, 10, 11, 12, 29, 30, 31, 32, 33, 34, 35, 36, 37, 38, 39, 40, 41, 42, 43, 44, 45, 46, 47, 48, 49, 50, 51, 52, 53] (by decide +kernel) (by decide +kernel)
set_option maxRecDepth 20000 in
theorem gX7_doLoad_X7_match : GoodIn wsX7_doLoad (wsV RX7 85 RX7 yX7_match wsX7_match) := goodIn_app (goodIn_of _ (by decide +kernel)) ggX7_doLoad_X7_match
set_option maxRecDepth 20000 in
theorem ggX7_doLoad_X7_makeRecord : GoodIn wsX7_doLoad wsX7_makeRecord := goodIn_r _ [16, 11, 17, 12, 9, 18, 19, 20, 21, 22, 29, 30, 31, 32, 33, 34, 35, 36, 37, 38, 39, 40, 41, 42, 43, 44, 45, 46, 47, 48, 49, 50, 51, 52, 53] (by decide +kernel) (by decide +kernel)
set_option maxRecDepth 20000 in
theorem gX7_doLoad_X7_makeRecord : GoodIn wsX7_doLoad (wsV RX7 89 RX7 yX7_makeRecord wsX7_makeRecord) := goodIn_app (goodIn_of _ (by decide +kernel)) ggX7_doLoad_X7_makeRecord
set_option maxRecDepth 20000 in
theorem ggX7_doLoad_X7_layOver : GoodIn wsX7_doLoad wsX7_layOver := goodIn_r _ [26, 12, 9, 18, 27, 20, 28, 21, 22, 19, 29, 30, 31, 32, 33, 34, 35, 36, 37, 38, 39, 40, 41, 42, 43, 44, 45, 46, 47, 48, 49, 50, 51, 52, 53] (by decide +kernel) (by decide +kernel)
set_option maxRecDepth 20000 in
theorem gX7_doLoad_X7_layOver : GoodIn wsX7_doLoad (wsV RX7 93 RX7 yX7_layOver wsX7_layOver) := goodIn_app (goodIn_of _ (by decide +kernel)) ggX7_doLoad_X7_layOver
theorem dX7_doLoad_0 : decode cX7_doLoad 0 = .ok (.aload_n 0, 1) := by decide +kernel
theorem dX7_doLoad_1 : decode cX7_doLoad 1 = .ok (.getfield 25, 3) := by decide +kernel
theorem dX7_doLoad_4 : decode cX7_doLoad 4 = .ok (.aload_n 0, 1) := by decide +kernel
theorem dX7_doLoad_5 : decode cX7_doLoad 5 = .ok (.getfield 29, 3) := by decide +kernel
theorem dX7_doLoad_8 : decode cX7_doLoad 8 = .ok (.iload_n 1, 1) := by decide +kernel
theorem dX7_doLoad_9 : decode cX7_doLoad 9 = .ok (.iaload, 1) := by decide +kernel
theorem dX7_doLoad_10 : decode cX7_doLoad 10 = .ok (.baload, 1) := by decide +kernel
theorem dX7_doLoad_11 : decode cX7_doLoad 11 = .ok (.ifCond .eq 11, 3) := by decide +kernel
theorem dX7_doLoad_14 : decode cX7_doLoad 14 = .ok (.aload_n 0, 1) := by decide +kernel
theorem dX7_doLoad_15 : decode cX7_doLoad 15 = .ok (.getfield 41, 3) := by decide +kernel
theorem dX7_doLoad_18 : decode cX7_doLoad 18 = .ok (.iload_n 1, 1) := by decide +kernel
theorem dX7_doLoad_19 : decode cX7_doLoad 19 = .ok (.iconst (-1), 1) := by decide +kernel
theorem dX7_doLoad_20 : decode cX7_doLoad 20 = .ok (.iastore, 1) := by decide +kernel
theorem dX7_doLoad_21 : decode cX7_doLoad 21 = .ok (.return_, 1) := by decide +kernel
theorem dX7_doLoad_22 : decode cX7_doLoad 22 = .ok (.aload_n 0, 1) := by decide +kernel
theorem dX7_doLoad_23 : decode cX7_doLoad 23 = .ok (.iload_n 1, 1) := by decide +kernel
theorem dX7_doLoad_24 : decode cX7_doLoad 24 = .ok (.invokevirtual 85, 3) := by decide +kernel
theorem dX7_doLoad_27 : decode cX7_doLoad 27 = .ok (.istore_n 2, 1) := by decide +kernel
theorem dX7_doLoad_28 : decode cX7_doLoad 28 = .ok (.iload_n 2, 1) := by decide +kernel
theorem dX7_doLoad_29 : decode cX7_doLoad 29 = .ok (.iconst (-1), 1) := by decide +kernel
theorem dX7_doLoad_30 : decode cX7_doLoad 30 = .ok (.if_icmp .ne 18, 3) := by decide +kernel
theorem dX7_doLoad_33 : decode cX7_doLoad 33 = .ok (.aload_n 0, 1) := by decide +kernel
theorem dX7_doLoad_34 : decode cX7_doLoad 34 = .ok (.iload_n 1, 1) := by decide +kernel
theorem dX7_doLoad_35 : decode cX7_doLoad 35 = .ok (.invokevirtual 89, 3) := by decide +kernel
theorem dX7_doLoad_38 : decode cX7_doLoad 38 = .ok (.aload_n 0, 1) := by decide +kernel
theorem dX7_doLoad_39 : decode cX7_doLoad 39 = .ok (.getfield 41, 3) := by decide +kernel
theorem dX7_doLoad_42 : decode cX7_doLoad 42 = .ok (.iload_n 1, 1) := by decide +kernel
theorem dX7_doLoad_43 : decode cX7_doLoad 43 = .ok (.iload_n 1, 1) := by decide +kernel
theorem dX7_doLoad_44 : decode cX7_doLoad 44 = .ok (.iastore, 1) := by decide +kernel
theorem dX7_doLoad_45 : decode cX7_doLoad 45 = .ok (.goto 22, 3) := by decide +kernel
theorem dX7_doLoad_48 : decode cX7_doLoad 48 = .ok (.aload_n 0, 1) := by decide +kernel
theorem dX7_doLoad_49 : decode cX7_doLoad 49 = .ok (.getfield 41, 3) := by decide +kernel
theorem dX7_doLoad_52 : decode cX7_doLoad 52 = .ok (.iload_n 1, 1) := by decide +kernel
theorem dX7_doLoad_53 : decode cX7_doLoad 53 = .ok (.iload_n 2, 1) := by decide +kernel
theorem dX7_doLoad_54 : decode cX7_doLoad 54 = .ok (.iastore, 1) := by decide +kernel
theorem dX7_doLoad_55 : decode cX7_doLoad 55 = .ok (.iload_n 2, 1) := by decide +kernel
theorem dX7_doLoad_56 : decode cX7_doLoad 56 = .ok (.bipush (-2), 2) := by decide +kernel
theorem dX7_doLoad_58 : decode cX7_doLoad 58 = .ok (.if_icmp .eq 9, 3) := by decide +kernel
theorem dX7_doLoad_61 : decode cX7_doLoad 61 = .ok (.aload_n 0, 1) := by decide +kernel
theorem dX7_doLoad_62 : decode cX7_doLoad 62 = .ok (.iload_n 1, 1) := by decide +kernel
theorem dX7_doLoad_63 : decode cX7_doLoad 63 = .ok (.iload_n 2, 1) := by decide +kernel
theorem dX7_doLoad_64 : decode cX7_doLoad 64 = .ok (.invokevirtual 93, 3) := by decide +kernel
theorem dX7_doLoad_67 : decode cX7_doLoad 67 = .ok (.return_, 1) := by decide +kernel
theorem dX7_doMerge_0 : decode cX7_doMerge 0 = .ok (.aload_n 0, 1) := by decide +kernel
theorem dX7_doMerge_1 : decode cX7_doMerge 1 = .ok (.getfield 68, 3) := by decide +kernel
theorem dX7_doMerge_4 : decode cX7_doMerge 4 = .ok (.iload_n 2, 1) := by decide +kernel
theorem dX7_doMerge_5 : decode cX7_doMerge 5 = .ok (.dup2, 1) := by decide +kernel
theorem dX7_doMerge_6 : decode cX7_doMerge 6 = .ok (.iaload, 1) := by decide +kernel
theorem dX7_doMerge_7 : decode cX7_doMerge 7 = .ok (.aload_n 0, 1) := by decide +kernel
theorem dX7_doMerge_8 : decode cX7_doMerge 8 = .ok (.getfield 68, 3) := by decide +kernel
theorem dX7_doMerge_11 : decode cX7_doMerge 11 = .ok (.iload_n 1, 1) := by decide +kernel
theorem dX7_doMerge_12 : decode cX7_doMerge 12 = .ok (.iaload, 1) := by decide +kernel
theorem dX7_doMerge_13 : decode cX7_doMerge 13 = .ok (.iadd, 1) := by decide +kernel
theorem dX7_doMerge_14 : decode cX7_doMerge 14 = .ok (.iastore, 1) := by decide +kernel
theorem dX7_doMerge_15 : decode cX7_doMerge 15 = .ok (.iconst 0, 1) := by decide +kernel
theorem dX7_doMerge_16 : decode cX7_doMerge 16 = .ok (.istore_n 3, 1) := by decide +kernel
theorem dX7_doMerge_17 : decode cX7_doMerge 17 = .ok (.iload_n 3, 1) := by decide +kernel
theorem dX7_doMerge_18 : decode cX7_doMerge 18 = .ok (.iconst 3, 1) := by decide +kernel
theorem dX7_doMerge_19 : decode cX7_doMerge 19 = .ok (.if_icmp .ge 54, 3) := by decide +kernel
theorem dX7_doMerge_22 : decode cX7_doMerge 22 = .ok (.iconst 3, 1) := by decide +kernel
theorem dX7_doMerge_23 : decode cX7_doMerge 23 = .ok (.iload_n 2, 1) := by decide +kernel
theorem dX7_doMerge_24 : decode cX7_doMerge 24 = .ok (.imul, 1) := by decide +kernel
theorem dX7_doMerge_25 : decode cX7_doMerge 25 = .ok (.iload_n 3, 1) := by decide +kernel
theorem dX7_doMerge_26 : decode cX7_doMerge 26 = .ok (.iadd, 1) := by decide +kernel
theorem dX7_doMerge_27 : decode cX7_doMerge 27 = .ok (.istore 4, 2) := by decide +kernel
theorem dX7_doMerge_29 : decode cX7_doMerge 29 = .ok (.aload_n 0, 1) := by decide +kernel
theorem dX7_doMerge_30 : decode cX7_doMerge 30 = .ok (.getfield 56, 3) := by decide +kernel
theorem dX7_doMerge_33 : decode cX7_doMerge 33 = .ok (.iload 4, 2) := by decide +kernel
theorem dX7_doMerge_35 : decode cX7_doMerge 35 = .ok (.aload_n 0, 1) := by decide +kernel
theorem dX7_doMerge_36 : decode cX7_doMerge 36 = .ok (.getfield 56, 3) := by decide +kernel
theorem dX7_doMerge_39 : decode cX7_doMerge 39 = .ok (.iload 4, 2) := by decide +kernel
theorem dX7_doMerge_41 : decode cX7_doMerge 41 = .ok (.iaload, 1) := by decide +kernel
theorem dX7_doMerge_42 : decode cX7_doMerge 42 = .ok (.iconst (-1), 1) := by decide +kernel
theorem dX7_doMerge_43 : decode cX7_doMerge 43 = .ok (.if_icmp .ne 16, 3) := by decide +kernel
theorem dX7_doMerge_46 : decode cX7_doMerge 46 = .ok (.aload_n 0, 1) := by decide +kernel
theorem dX7_doMerge_47 : decode cX7_doMerge 47 = .ok (.getfield 56, 3) := by decide +kernel
theorem dX7_doMerge_50 : decode cX7_doMerge 50 = .ok (.iconst 3, 1) := by decide +kernel
theorem dX7_doMerge_51 : decode cX7_doMerge 51 = .ok (.iload_n 1, 1) := by decide +kernel
theorem dX7_doMerge_52 : decode cX7_doMerge 52 = .ok (.imul, 1) := by decide +kernel
theorem dX7_doMerge_53 : decode cX7_doMerge 53 = .ok (.iload_n 3, 1) := by decide +kernel
theorem dX7_doMerge_54 : decode cX7_doMerge 54 = .ok (.iadd, 1) := by decide +kernel
theorem dX7_doMerge_55 : decode cX7_doMerge 55 = .ok (.iaload, 1) := by decide +kernel
theorem dX7_doMerge_56 : decode cX7_doMerge 56 = .ok (.goto 10, 3) := by decide +kernel
theorem dX7_doMerge_59 : decode cX7_doMerge 59 = .ok (.aload_n 0, 1) := by decide +kernel
theorem dX7_doMerge_60 : decode cX7_doMerge 60 = .ok (.getfield 56, 3) := by decide +kernel
theorem dX7_doMerge_63 : decode cX7_doMerge 63 = .ok (.iload 4, 2) := by decide +kernel
theorem dX7_doMerge_65 : decode cX7_doMerge 65 = .ok (.iaload, 1) := by decide +kernel
theorem dX7_doMerge_66 : decode cX7_doMerge 66 = .ok (.iastore, 1) := by decide +kernel
theorem dX7_doMerge_67 : decode cX7_doMerge 67 = .ok (.iinc 3 1, 3) := by decide +kernel
theorem dX7_doMerge_70 : decode cX7_doMerge 70 = .ok (.goto (-53), 3) := by decide +kernel
theorem dX7_doMerge_73 : decode cX7_doMerge 73 = .ok (.iconst 0, 1) := by decide +kernel
theorem dX7_doMerge_74 : decode cX7_doMerge 74 = .ok (.istore_n 3, 1) := by decide +kernel
theorem dX7_doMerge_75 : decode cX7_doMerge 75 = .ok (.iload_n 3, 1) := by decide +kernel
theorem dX7_doMerge_76 : decode cX7_doMerge 76 = .ok (.iconst 4, 1) := by decide +kernel
theorem dX7_doMerge_77 : decode cX7_doMerge 77 = .ok (.if_icmp .ge 61, 3) := by decide +kernel
theorem dX7_doMerge_80 : decode cX7_doMerge 80 = .ok (.iconst 4, 1) := by decide +kernel
theorem dX7_doMerge_81 : decode cX7_doMerge 81 = .ok (.iload_n 2, 1) := by decide +kernel
theorem dX7_doMerge_82 : decode cX7_doMerge 82 = .ok (.imul, 1) := by decide +kernel
theorem dX7_doMerge_83 : decode cX7_doMerge 83 = .ok (.iload_n 3, 1) := by decide +kernel
theorem dX7_doMerge_84 : decode cX7_doMerge 84 = .ok (.iadd, 1) := by decide +kernel
theorem dX7_doMerge_85 : decode cX7_doMerge 85 = .ok (.istore 4, 2) := by decide +kernel
theorem dX7_doMerge_87 : decode cX7_doMerge 87 = .ok (.aload_n 0, 1) := by decide +kernel
theorem dX7_doMerge_88 : decode cX7_doMerge 88 = .ok (.getfield 59, 3) := by decide +kernel
theorem dX7_doMerge_91 : decode cX7_doMerge 91 = .ok (.iload 4, 2) := by decide +kernel
theorem dX7_doMerge_93 : decode cX7_doMerge 93 = .ok (.iaload, 1) := by decide +kernel
theorem dX7_doMerge_94 : decode cX7_doMerge 94 = .ok (.iconst (-1), 1) := by decide +kernel
theorem dX7_doMerge_95 : decode cX7_doMerge 95 = .ok (.if_icmp .ne 37, 3) := by decide +kernel
theorem dX7_doMerge_98 : decode cX7_doMerge 98 = .ok (.aload_n 0, 1) := by decide +kernel
theorem dX7_doMerge_99 : decode cX7_doMerge 99 = .ok (.getfield 59, 3) := by decide +kernel
theorem dX7_doMerge_102 : decode cX7_doMerge 102 = .ok (.iload 4, 2) := by decide +kernel
theorem dX7_doMerge_104 : decode cX7_doMerge 104 = .ok (.aload_n 0, 1) := by decide +kernel
theorem dX7_doMerge_105 : decode cX7_doMerge 105 = .ok (.getfield 59, 3) := by decide +kernel
theorem dX7_doMerge_108 : decode cX7_doMerge 108 = .ok (.iconst 4, 1) := by decide +kernel
theorem dX7_doMerge_109 : decode cX7_doMerge 109 = .ok (.iload_n 1, 1) := by decide +kernel
theorem dX7_doMerge_110 : decode cX7_doMerge 110 = .ok (.imul, 1) := by decide +kernel
theorem dX7_doMerge_111 : decode cX7_doMerge 111 = .ok (.iload_n 3, 1) := by decide +kernel
theorem dX7_doMerge_112 : decode cX7_doMerge 112 = .ok (.iadd, 1) := by decide +kernel
theorem dX7_doMerge_113 : decode cX7_doMerge 113 = .ok (.iaload, 1) := by decide +kernel
theorem dX7_doMerge_114 : decode cX7_doMerge 114 = .ok (.iastore, 1) := by decide +kernel
theorem dX7_doMerge_115 : decode cX7_doMerge 115 = .ok (.aload_n 0, 1) := by decide +kernel
theorem dX7_doMerge_116 : decode cX7_doMerge 116 = .ok (.getfield 62, 3) := by decide +kernel
theorem dX7_doMerge_119 : decode cX7_doMerge 119 = .ok (.iload 4, 2) := by decide +kernel
theorem dX7_doMerge_121 : decode cX7_doMerge 121 = .ok (.aload_n 0, 1) := by decide +kernel
theorem dX7_doMerge_122 : decode cX7_doMerge 122 = .ok (.getfield 62, 3) := by decide +kernel
theorem dX7_doMerge_125 : decode cX7_doMerge 125 = .ok (.iconst 4, 1) := by decide +kernel
theorem dX7_doMerge_126 : decode cX7_doMerge 126 = .ok (.iload_n 1, 1) := by decide +kernel
theorem dX7_doMerge_127 : decode cX7_doMerge 127 = .ok (.imul, 1) := by decide +kernel
theorem dX7_doMerge_128 : decode cX7_doMerge 128 = .ok (.iload_n 3, 1) := by decide +kernel
theorem dX7_doMerge_129 : decode cX7_doMerge 129 = .ok (.iadd, 1) := by decide +kernel
theorem dX7_doMerge_130 : decode cX7_doMerge 130 = .ok (.iaload, 1) := by decide +kernel
theorem dX7_doMerge_131 : decode cX7_doMerge 131 = .ok (.iastore, 1) := by decide +kernel
theorem dX7_doMerge_132 : decode cX7_doMerge 132 = .ok (.iinc 3 1, 3) := by decide +kernel
theorem dX7_doMerge_135 : decode cX7_doMerge 135 = .ok (.goto (-60), 3) := by decide +kernel
theorem dX7_doMerge_138 : decode cX7_doMerge 138 = .ok (.aload_n 0, 1) := by decide +kernel
theorem dX7_doMerge_139 : decode cX7_doMerge 139 = .ok (.getfield 53, 3) := by decide +kernel
theorem dX7_doMerge_142 : decode cX7_doMerge 142 = .ok (.iload_n 1, 1) := by decide +kernel
theorem dX7_doMerge_143 : decode cX7_doMerge 143 = .ok (.iconst 0, 1) := by decide +kernel
theorem dX7_doMerge_144 : decode cX7_doMerge 144 = .ok (.bastore, 1) := by decide +kernel
theorem dX7_doMerge_145 : decode cX7_doMerge 145 = .ok (.return_, 1) := by decide +kernel
set_option maxRecDepth 20000 in
theorem ggX7_perform_X7_doLoad : GoodIn wsX7_perform wsX7_doLoad := goodIn_r _ [11, 12, 13, 14, 15, 16, 17, 10, 18, 19, 20, 4, 21, 22, 23, 24, 25, 5, 26, 27, 28, 29, 6, 30, 31, 32, 33, 34, 35, 40, 41, 42, 43, 44, 45, 46, 47, 48, 49, 50, 51, 52, 53, 54, 55, 56, 57, 58, 59, 60, 61, 62, 63, 64] (by decide +kernel) (by decide +kernel)
set_option maxRecDepth 20000 in
theorem gX7_perform_X7_doLoad : GoodIn wsX7_perform (wsV RX7 97 RX7 yX7_doLoad wsX7_doLoad) := goodIn_app (goodIn_of _ (by decide +kernel)) ggX7_perform_X7_doLoad
set_option maxRecDepth 20000 in
theorem ggX7_perform_X7_doMerge : GoodIn wsX7_perform wsX7_doMerge := goodIn_r _ [39, 5, 21, 27, 28, 4, 40, 41, 42, 43, 44, 45, 46, 47, 48, 49, 50, 51, 52, 53, 54, 55, 56, 57, 58, 59, 60, 61, 62, 63, 64] (by decide +kernel) (by decide +kernel)
set_option maxRecDepth 20000 in
theorem gX7_perform_X7_doMerge : GoodIn wsX7_perform (wsV RX7 100 RX7 yX7_doMerge wsX7_doMerge) := goodIn_app (goodIn_of _ (by decide +kernel)) ggX7_perform_X7_doMerge
theorem dX7_perform_0 : decode cX7_perform 0 = .ok (.aload_n 0, 1) := by decide +kernel
theorem dX7_perform_1 : decode cX7_perform 1 = .ok (.getfield 47, 3) := by decide +kernel
theorem dX7_perform_4 : decode cX7_perform 4 = .ok (.iload_n 1, 1) := by decide +kernel
theorem dX7_perform_5 : decode cX7_perform 5 = .ok (.iaload, 1) := by decide +kernel
theorem dX7_perform_6 : decode cX7_perform 6 = .ok (.istore_n 2, 1) := by decide +kernel
theorem dX7_perform_7 : decode cX7_perform 7 = .ok (.aload_n 0, 1) := by decide +kernel
theorem dX7_perform_8 : decode cX7_perform 8 = .ok (.getfield 50, 3) := by decide +kernel
theorem dX7_perform_11 : decode cX7_perform 11 = .ok (.iload_n 1, 1) := by decide +kernel
theorem dX7_perform_12 : decode cX7_perform 12 = .ok (.iaload, 1) := by decide +kernel
theorem dX7_perform_13 : decode cX7_perform 13 = .ok (.istore_n 3, 1) := by decide +kernel
theorem dX7_perform_14 : decode cX7_perform 14 = .ok (.aload_n 0, 1) := by decide +kernel
theorem dX7_perform_15 : decode cX7_perform 15 = .ok (.getfield 44, 3) := by decide +kernel
theorem dX7_perform_18 : decode cX7_perform 18 = .ok (.iload_n 1, 1) := by decide +kernel
theorem dX7_perform_19 : decode cX7_perform 19 = .ok (.iaload, 1) := by decide +kernel
theorem dX7_perform_20 : decode cX7_perform 20 = .ok (.ifCond .ne 11, 3) := by decide +kernel
theorem dX7_perform_23 : decode cX7_perform 23 = .ok (.aload_n 0, 1) := by decide +kernel
theorem dX7_perform_24 : decode cX7_perform 24 = .ok (.iload_n 2, 1) := by decide +kernel
theorem dX7_perform_25 : decode cX7_perform 25 = .ok (.invokevirtual 97, 3) := by decide +kernel
theorem dX7_perform_28 : decode cX7_perform 28 = .ok (.goto 106, 3) := by decide +kernel
theorem dX7_perform_31 : decode cX7_perform 31 = .ok (.aload_n 0, 1) := by decide +kernel
theorem dX7_perform_32 : decode cX7_perform 32 = .ok (.getfield 53, 3) := by decide +kernel
theorem dX7_perform_35 : decode cX7_perform 35 = .ok (.iload_n 2, 1) := by decide +kernel
theorem dX7_perform_36 : decode cX7_perform 36 = .ok (.baload, 1) := by decide +kernel
theorem dX7_perform_37 : decode cX7_perform 37 = .ok (.ifCond .eq 26, 3) := by decide +kernel
theorem dX7_perform_40 : decode cX7_perform 40 = .ok (.aload_n 0, 1) := by decide +kernel
theorem dX7_perform_41 : decode cX7_perform 41 = .ok (.getfield 44, 3) := by decide +kernel
theorem dX7_perform_44 : decode cX7_perform 44 = .ok (.iload_n 1, 1) := by decide +kernel
theorem dX7_perform_45 : decode cX7_perform 45 = .ok (.iaload, 1) := by decide +kernel
theorem dX7_perform_46 : decode cX7_perform 46 = .ok (.iconst 3, 1) := by decide +kernel
theorem dX7_perform_47 : decode cX7_perform 47 = .ok (.if_icmp .ne 16, 3) := by decide +kernel
theorem dX7_perform_50 : decode cX7_perform 50 = .ok (.aload_n 0, 1) := by decide +kernel
theorem dX7_perform_51 : decode cX7_perform 51 = .ok (.getfield 68, 3) := by decide +kernel
theorem dX7_perform_54 : decode cX7_perform 54 = .ok (.iload_n 2, 1) := by decide +kernel
theorem dX7_perform_55 : decode cX7_perform 55 = .ok (.dup2, 1) := by decide +kernel
theorem dX7_perform_56 : decode cX7_perform 56 = .ok (.iaload, 1) := by decide +kernel
theorem dX7_perform_57 : decode cX7_perform 57 = .ok (.iconst 1, 1) := by decide +kernel
theorem dX7_perform_58 : decode cX7_perform 58 = .ok (.iadd, 1) := by decide +kernel
theorem dX7_perform_59 : decode cX7_perform 59 = .ok (.iastore, 1) := by decide +kernel
theorem dX7_perform_60 : decode cX7_perform 60 = .ok (.goto 74, 3) := by decide +kernel
theorem dX7_perform_63 : decode cX7_perform 63 = .ok (.aload_n 0, 1) := by decide +kernel
theorem dX7_perform_64 : decode cX7_perform 64 = .ok (.getfield 53, 3) := by decide +kernel
theorem dX7_perform_67 : decode cX7_perform 67 = .ok (.iload_n 2, 1) := by decide +kernel
theorem dX7_perform_68 : decode cX7_perform 68 = .ok (.baload, 1) := by decide +kernel
theorem dX7_perform_69 : decode cX7_perform 69 = .ok (.ifCond .eq 31, 3) := by decide +kernel
theorem dX7_perform_72 : decode cX7_perform 72 = .ok (.aload_n 0, 1) := by decide +kernel
theorem dX7_perform_73 : decode cX7_perform 73 = .ok (.getfield 44, 3) := by decide +kernel
theorem dX7_perform_76 : decode cX7_perform 76 = .ok (.iload_n 1, 1) := by decide +kernel
theorem dX7_perform_77 : decode cX7_perform 77 = .ok (.iaload, 1) := by decide +kernel
theorem dX7_perform_78 : decode cX7_perform 78 = .ok (.iconst 4, 1) := by decide +kernel
theorem dX7_perform_79 : decode cX7_perform 79 = .ok (.if_icmp .ne 21, 3) := by decide +kernel
theorem dX7_perform_82 : decode cX7_perform 82 = .ok (.aload_n 0, 1) := by decide +kernel
theorem dX7_perform_83 : decode cX7_perform 83 = .ok (.getfield 53, 3) := by decide +kernel
theorem dX7_perform_86 : decode cX7_perform 86 = .ok (.iload_n 3, 1) := by decide +kernel
theorem dX7_perform_87 : decode cX7_perform 87 = .ok (.baload, 1) := by decide +kernel
theorem dX7_perform_88 : decode cX7_perform 88 = .ok (.ifCond .eq 46, 3) := by decide +kernel
theorem dX7_perform_91 : decode cX7_perform 91 = .ok (.aload_n 0, 1) := by decide +kernel
theorem dX7_perform_92 : decode cX7_perform 92 = .ok (.iload_n 2, 1) := by decide +kernel
theorem dX7_perform_93 : decode cX7_perform 93 = .ok (.iload_n 3, 1) := by decide +kernel
theorem dX7_perform_94 : decode cX7_perform 94 = .ok (.invokevirtual 100, 3) := by decide +kernel
theorem dX7_perform_97 : decode cX7_perform 97 = .ok (.goto 37, 3) := by decide +kernel
theorem dX7_perform_100 : decode cX7_perform 100 = .ok (.aload_n 0, 1) := by decide +kernel
theorem dX7_perform_101 : decode cX7_perform 101 = .ok (.getfield 53, 3) := by decide +kernel
theorem dX7_perform_104 : decode cX7_perform 104 = .ok (.iload_n 2, 1) := by decide +kernel
theorem dX7_perform_105 : decode cX7_perform 105 = .ok (.baload, 1) := by decide +kernel
theorem dX7_perform_106 : decode cX7_perform 106 = .ok (.ifCond .eq 28, 3) := by decide +kernel
theorem dX7_perform_109 : decode cX7_perform 109 = .ok (.aload_n 0, 1) := by decide +kernel
theorem dX7_perform_110 : decode cX7_perform 110 = .ok (.getfield 65, 3) := by decide +kernel
theorem dX7_perform_113 : decode cX7_perform 113 = .ok (.iconst 4, 1) := by decide +kernel
theorem dX7_perform_114 : decode cX7_perform 114 = .ok (.iload_n 2, 1) := by decide +kernel
theorem dX7_perform_115 : decode cX7_perform 115 = .ok (.imul, 1) := by decide +kernel
theorem dX7_perform_116 : decode cX7_perform 116 = .ok (.iload_n 3, 1) := by decide +kernel
theorem dX7_perform_117 : decode cX7_perform 117 = .ok (.iadd, 1) := by decide +kernel
theorem dX7_perform_118 : decode cX7_perform 118 = .ok (.aload_n 0, 1) := by decide +kernel
theorem dX7_perform_119 : decode cX7_perform 119 = .ok (.getfield 44, 3) := by decide +kernel
theorem dX7_perform_122 : decode cX7_perform 122 = .ok (.iload_n 1, 1) := by decide +kernel
theorem dX7_perform_123 : decode cX7_perform 123 = .ok (.iaload, 1) := by decide +kernel
theorem dX7_perform_124 : decode cX7_perform 124 = .ok (.iconst 1, 1) := by decide +kernel
theorem dX7_perform_125 : decode cX7_perform 125 = .ok (.if_icmp .ne 7, 3) := by decide +kernel
theorem dX7_perform_128 : decode cX7_perform 128 = .ok (.iconst 1, 1) := by decide +kernel
theorem dX7_perform_129 : decode cX7_perform 129 = .ok (.goto 4, 3) := by decide +kernel
theorem dX7_perform_132 : decode cX7_perform 132 = .ok (.iconst 0, 1) := by decide +kernel
theorem dX7_perform_133 : decode cX7_perform 133 = .ok (.bastore, 1) := by decide +kernel
theorem dX7_perform_134 : decode cX7_perform 134 = .ok (.return_, 1) := by decide +kernel
set_option maxRecDepth 20000 in
theorem ggX7_add_X7_perform : GoodIn wsX7_add wsX7_perform := goodIn_r _ [9, 3, 4, 1, 10, 11, 12, 13, 14, 15, 8, 16, 17, 18, 19, 20, 21, 22, 23, 24, 25, 26, 27, 28, 29, 30, 31, 32, 33, 34, 35, 36, 37, 38, 39, 40, 41, 42, 43, 44, 45, 46, 47, 48, 49, 50, 51, 52, 53, 54, 55, 56, 57, 58, 59, 60, 61, 62, 63, 64, 65, 66, 67, 68, 69] (by decide +kernel) (by decide +kernel)
set_option maxRecDepth 20000 in
theorem gX7_add_X7_perform : GoodIn wsX7_add (wsV RX7 106 RX7 yX7_perform wsX7_perform) := goodIn_app (goodIn_of _ (by decide +kernel)) ggX7_add_X7_perform
theorem dX7_add_0 : decode cX7_add 0 = .ok (.aload_n 0, 1) := by decide +kernel
theorem dX7_add_1 : decode cX7_add 1 = .ok (.getfield 44, 3) := by decide +kernel
theorem dX7_add_4 : decode cX7_add 4 = .ok (.aload_n 0, 1) := by decide +kernel
theorem dX7_add_5 : decode cX7_add 5 = .ok (.getfield 103, 3) := by decide +kernel
theorem dX7_add_8 : decode cX7_add 8 = .ok (.iload_n 1, 1) := by decide +kernel
theorem dX7_add_9 : decode cX7_add 9 = .ok (.iastore, 1) := by decide +kernel
theorem dX7_add_10 : decode cX7_add 10 = .ok (.aload_n 0, 1) := by decide +kernel
theorem dX7_add_11 : decode cX7_add 11 = .ok (.getfield 47, 3) := by decide +kernel
theorem dX7_add_14 : decode cX7_add 14 = .ok (.aload_n 0, 1) := by decide +kernel
theorem dX7_add_15 : decode cX7_add 15 = .ok (.getfield 103, 3) := by decide +kernel
theorem dX7_add_18 : decode cX7_add 18 = .ok (.iload_n 2, 1) := by decide +kernel
theorem dX7_add_19 : decode cX7_add 19 = .ok (.iastore, 1) := by decide +kernel
theorem dX7_add_20 : decode cX7_add 20 = .ok (.aload_n 0, 1) := by decide +kernel
theorem dX7_add_21 : decode cX7_add 21 = .ok (.getfield 50, 3) := by decide +kernel
theorem dX7_add_24 : decode cX7_add 24 = .ok (.aload_n 0, 1) := by decide +kernel
theorem dX7_add_25 : decode cX7_add 25 = .ok (.getfield 103, 3) := by decide +kernel
theorem dX7_add_28 : decode cX7_add 28 = .ok (.iload_n 3, 1) := by decide +kernel
theorem dX7_add_29 : decode cX7_add 29 = .ok (.iastore, 1) := by decide +kernel
theorem dX7_add_30 : decode cX7_add 30 = .ok (.aload_n 0, 1) := by decide +kernel
theorem dX7_add_31 : decode cX7_add 31 = .ok (.dup, 1) := by decide +kernel
theorem dX7_add_32 : decode cX7_add 32 = .ok (.getfield 103, 3) := by decide +kernel
theorem dX7_add_35 : decode cX7_add 35 = .ok (.iconst 1, 1) := by decide +kernel
theorem dX7_add_36 : decode cX7_add 36 = .ok (.iadd, 1) := by decide +kernel
theorem dX7_add_37 : decode cX7_add 37 = .ok (.putfield 103, 3) := by decide +kernel
theorem dX7_add_40 : decode cX7_add 40 = .ok (.aload_n 0, 1) := by decide +kernel
theorem dX7_add_41 : decode cX7_add 41 = .ok (.aload_n 0, 1) := by decide +kernel
theorem dX7_add_42 : decode cX7_add 42 = .ok (.getfield 103, 3) := by decide +kernel
theorem dX7_add_45 : decode cX7_add 45 = .ok (.iconst 1, 1) := by decide +kernel
theorem dX7_add_46 : decode cX7_add 46 = .ok (.isub, 1) := by decide +kernel
theorem dX7_add_47 : decode cX7_add 47 = .ok (.invokevirtual 106, 3) := by decide +kernel
theorem dX7_add_50 : decode cX7_add 50 = .ok (.return_, 1) := by decide +kernel
set_option maxRecDepth 20000 in
theorem ggX7_makeAnew_X7_perform : GoodIn wsX7_makeAnew wsX7_perform := goodIn_r _ [7, 8, 9, 10, 1, 11, 12, 13, 14, 15, 6, 16, 17, 18, 19, 20, 21, 22, 23, 24, 25, 26, 27, 28, 29, 30, 31, 32, 33, 34, 35, 36, 37, 38, 39, 40, 41, 42, 43, 44, 45, 46, 47, 48, 49, 50, 51, 52, 53, 54, 55, 56, 57, 58, 59, 60, 61, 62, 63, 64, 65, 66, 67, 68, 69] (by decide +kernel) (by decide +kernel)
set_option maxRecDepth 20000 in
theorem gX7_makeAnew_X7_perform : GoodIn wsX7_makeAnew (wsV RX7 106 RX7 yX7_perform wsX7_perform) := goodIn_app (goodIn_of _ (by decide +kernel)) ggX7_makeAnew_X7_perform
theorem dX7_makeAnew_0 : decode cX7_makeAnew 0 = .ok (.iconst 0, 1) := by decide +kernel
theorem dX7_makeAnew_1 : decode cX7_makeAnew 1 = .ok (.istore_n 1, 1) := by decide +kernel
theorem dX7_makeAnew_2 : decode cX7_makeAnew 2 = .ok (.iload_n 1, 1) := by decide +kernel
theorem dX7_makeAnew_3 : decode cX7_makeAnew 3 = .ok (.bipush 80, 2) := by decide +kernel
theorem dX7_makeAnew_5 : decode cX7_makeAnew 5 = .ok (.if_icmp .ge 16, 3) := by decide +kernel
theorem dX7_makeAnew_8 : decode cX7_makeAnew 8 = .ok (.aload_n 0, 1) := by decide +kernel
theorem dX7_makeAnew_9 : decode cX7_makeAnew 9 = .ok (.getfield 53, 3) := by decide +kernel
theorem dX7_makeAnew_12 : decode cX7_makeAnew 12 = .ok (.iload_n 1, 1) := by decide +kernel
theorem dX7_makeAnew_13 : decode cX7_makeAnew 13 = .ok (.iconst 0, 1) := by decide +kernel
theorem dX7_makeAnew_14 : decode cX7_makeAnew 14 = .ok (.bastore, 1) := by decide +kernel
theorem dX7_makeAnew_15 : decode cX7_makeAnew 15 = .ok (.iinc 1 1, 3) := by decide +kernel
theorem dX7_makeAnew_18 : decode cX7_makeAnew 18 = .ok (.goto (-16), 3) := by decide +kernel
theorem dX7_makeAnew_21 : decode cX7_makeAnew 21 = .ok (.iconst 0, 1) := by decide +kernel
theorem dX7_makeAnew_22 : decode cX7_makeAnew 22 = .ok (.istore_n 1, 1) := by decide +kernel
theorem dX7_makeAnew_23 : decode cX7_makeAnew 23 = .ok (.iload_n 1, 1) := by decide +kernel
theorem dX7_makeAnew_24 : decode cX7_makeAnew 24 = .ok (.aload_n 0, 1) := by decide +kernel
theorem dX7_makeAnew_25 : decode cX7_makeAnew 25 = .ok (.getfield 103, 3) := by decide +kernel
theorem dX7_makeAnew_28 : decode cX7_makeAnew 28 = .ok (.if_icmp .ge 14, 3) := by decide +kernel
theorem dX7_makeAnew_31 : decode cX7_makeAnew 31 = .ok (.aload_n 0, 1) := by decide +kernel
theorem dX7_makeAnew_32 : decode cX7_makeAnew 32 = .ok (.iload_n 1, 1) := by decide +kernel
theorem dX7_makeAnew_33 : decode cX7_makeAnew 33 = .ok (.invokevirtual 106, 3) := by decide +kernel
theorem dX7_makeAnew_36 : decode cX7_makeAnew 36 = .ok (.iinc 1 1, 3) := by decide +kernel
theorem dX7_makeAnew_39 : decode cX7_makeAnew 39 = .ok (.goto (-16), 3) := by decide +kernel
theorem dX7_makeAnew_42 : decode cX7_makeAnew 42 = .ok (.return_, 1) := by decide +kernel
theorem dX7_beginBatch_0 : decode cX7_beginBatch 0 = .ok (.aload_n 0, 1) := by decide +kernel
theorem dX7_beginBatch_1 : decode cX7_beginBatch 1 = .ok (.aload_n 0, 1) := by decide +kernel
theorem dX7_beginBatch_2 : decode cX7_beginBatch 2 = .ok (.getfield 109, 3) := by decide +kernel
theorem dX7_beginBatch_5 : decode cX7_beginBatch 5 = .ok (.bipush 10, 2) := by decide +kernel
theorem dX7_beginBatch_7 : decode cX7_beginBatch 7 = .ok (.if_icmp .ne 7, 3) := by decide +kernel
theorem dX7_beginBatch_10 : decode cX7_beginBatch 10 = .ok (.iconst 1, 1) := by decide +kernel
theorem dX7_beginBatch_11 : decode cX7_beginBatch 11 = .ok (.goto 4, 3) := by decide +kernel
theorem dX7_beginBatch_14 : decode cX7_beginBatch 14 = .ok (.iconst 0, 1) := by decide +kernel
theorem dX7_beginBatch_15 : decode cX7_beginBatch 15 = .ok (.putfield 74, 3) := by decide +kernel
theorem dX7_beginBatch_18 : decode cX7_beginBatch 18 = .ok (.aload_n 0, 1) := by decide +kernel
theorem dX7_beginBatch_19 : decode cX7_beginBatch 19 = .ok (.getfield 74, 3) := by decide +kernel
theorem dX7_beginBatch_22 : decode cX7_beginBatch 22 = .ok (.ifCond .le 5, 3) := by decide +kernel
theorem dX7_beginBatch_25 : decode cX7_beginBatch 25 = .ok (.iconst 0, 1) := by decide +kernel
theorem dX7_beginBatch_26 : decode cX7_beginBatch 26 = .ok (.ireturn, 1) := by decide +kernel
theorem dX7_beginBatch_27 : decode cX7_beginBatch 27 = .ok (.aload_n 0, 1) := by decide +kernel
theorem dX7_beginBatch_28 : decode cX7_beginBatch 28 = .ok (.getfield 25, 3) := by decide +kernel
theorem dX7_beginBatch_31 : decode cX7_beginBatch 31 = .ok (.aload_n 0, 1) := by decide +kernel
theorem dX7_beginBatch_32 : decode cX7_beginBatch 32 = .ok (.getfield 109, 3) := by decide +kernel
theorem dX7_beginBatch_35 : decode cX7_beginBatch 35 = .ok (.iconst 0, 1) := by decide +kernel
theorem dX7_beginBatch_36 : decode cX7_beginBatch 36 = .ok (.bastore, 1) := by decide +kernel
theorem dX7_beginBatch_37 : decode cX7_beginBatch 37 = .ok (.aload_n 0, 1) := by decide +kernel
theorem dX7_beginBatch_38 : decode cX7_beginBatch 38 = .ok (.dup, 1) := by decide +kernel
theorem dX7_beginBatch_39 : decode cX7_beginBatch 39 = .ok (.getfield 109, 3) := by decide +kernel
theorem dX7_beginBatch_42 : decode cX7_beginBatch 42 = .ok (.iconst 1, 1) := by decide +kernel
theorem dX7_beginBatch_43 : decode cX7_beginBatch 43 = .ok (.iadd, 1) := by decide +kernel
theorem dX7_beginBatch_44 : decode cX7_beginBatch 44 = .ok (.putfield 109, 3) := by decide +kernel
theorem dX7_beginBatch_47 : decode cX7_beginBatch 47 = .ok (.aload_n 0, 1) := by decide +kernel
theorem dX7_beginBatch_48 : decode cX7_beginBatch 48 = .ok (.getfield 109, 3) := by decide +kernel
theorem dX7_beginBatch_51 : decode cX7_beginBatch 51 = .ok (.iconst 1, 1) := by decide +kernel
theorem dX7_beginBatch_52 : decode cX7_beginBatch 52 = .ok (.isub, 1) := by decide +kernel
theorem dX7_beginBatch_53 : decode cX7_beginBatch 53 = .ok (.ireturn, 1) := by decide +kernel
set_option maxRecDepth 20000 in
theorem ggX7_key_X7_in : GoodIn wsX7_key wsX7_in := goodIn_r _ [6] (by decide +kernel) (by decide +kernel)
set_option maxRecDepth 20000 in
theorem gX7_key_X7_in : GoodIn wsX7_key (va_wsS RX7 78 yX7_in wsX7_in) := goodIn_app (goodIn_of _ (by decide +kernel)) ggX7_key_X7_in
theorem dX7_key_0 : decode cX7_key 0 = .ok (.aload_n 0, 1) := by decide +kernel
theorem dX7_key_1 : decode cX7_key 1 = .ok (.iload_n 1, 1) := by decide +kernel
theorem dX7_key_2 : decode cX7_key 2 = .ok (.iconst 0, 1) := by decide +kernel
theorem dX7_key_3 : decode cX7_key 3 = .ok (.iconst 2, 1) := by decide +kernel
theorem dX7_key_4 : decode cX7_key 4 = .ok (.invokestatic 78, 3) := by decide +kernel
theorem dX7_key_7 : decode cX7_key 7 = .ok (.ifCond .ne 7, 3) := by decide +kernel
theorem dX7_key_10 : decode cX7_key 10 = .ok (.iconst 1, 1) := by decide +kernel
theorem dX7_key_11 : decode cX7_key 11 = .ok (.goto 18, 3) := by decide +kernel
theorem dX7_key_14 : decode cX7_key 14 = .ok (.iload_n 2, 1) := by decide +kernel
theorem dX7_key_15 : decode cX7_key 15 = .ok (.iconst (-1), 1) := by decide +kernel
theorem dX7_key_16 : decode cX7_key 16 = .ok (.bipush 49, 2) := by decide +kernel
theorem dX7_key_18 : decode cX7_key 18 = .ok (.invokestatic 78, 3) := by decide +kernel
theorem dX7_key_21 : decode cX7_key 21 = .ok (.ifCond .ne 7, 3) := by decide +kernel
theorem dX7_key_24 : decode cX7_key 24 = .ok (.iconst 2, 1) := by decide +kernel
theorem dX7_key_25 : decode cX7_key 25 = .ok (.goto 4, 3) := by decide +kernel
theorem dX7_key_28 : decode cX7_key 28 = .ok (.iconst 0, 1) := by decide +kernel
theorem dX7_key_29 : decode cX7_key 29 = .ok (.putfield 74, 3) := by decide +kernel
theorem dX7_key_32 : decode cX7_key 32 = .ok (.aload_n 0, 1) := by decide +kernel
theorem dX7_key_33 : decode cX7_key 33 = .ok (.getfield 74, 3) := by decide +kernel
theorem dX7_key_36 : decode cX7_key 36 = .ok (.ifCond .le 5, 3) := by decide +kernel
theorem dX7_key_39 : decode cX7_key 39 = .ok (.iconst 0, 1) := by decide +kernel
theorem dX7_key_40 : decode cX7_key 40 = .ok (.ireturn, 1) := by decide +kernel
theorem dX7_key_41 : decode cX7_key 41 = .ok (.aload_n 0, 1) := by decide +kernel
theorem dX7_key_42 : decode cX7_key 42 = .ok (.getfield 19, 3) := by decide +kernel
theorem dX7_key_45 : decode cX7_key 45 = .ok (.iload_n 1, 1) := by decide +kernel
theorem dX7_key_46 : decode cX7_key 46 = .ok (.iaload, 1) := by decide +kernel
theorem dX7_key_47 : decode cX7_key 47 = .ok (.istore_n 3, 1) := by decide +kernel
theorem dX7_key_48 : decode cX7_key 48 = .ok (.aload_n 0, 1) := by decide +kernel
theorem dX7_key_49 : decode cX7_key 49 = .ok (.getfield 19, 3) := by decide +kernel
theorem dX7_key_52 : decode cX7_key 52 = .ok (.iload_n 1, 1) := by decide +kernel
theorem dX7_key_53 : decode cX7_key 53 = .ok (.iload_n 2, 1) := by decide +kernel
theorem dX7_key_54 : decode cX7_key 54 = .ok (.iastore, 1) := by decide +kernel
theorem dX7_key_55 : decode cX7_key 55 = .ok (.iload_n 3, 1) := by decide +kernel
theorem dX7_key_56 : decode cX7_key 56 = .ok (.ireturn, 1) := by decide +kernel
set_option maxRecDepth 20000 in
theorem ggX7_field_X7_in : GoodIn wsX7_field wsX7_in := goodIn_r _ [6] (by decide +kernel) (by decide +kernel)
set_option maxRecDepth 20000 in
theorem gX7_field_X7_in : GoodIn wsX7_field (va_wsS RX7 78 yX7_in wsX7_in) := goodIn_app (goodIn_of _ (by decide +kernel)) ggX7_field_X7_in
theorem dX7_field_0 : decode cX7_field 0 = .ok (.aload_n 0, 1) := by decide +kernel
theorem dX7_field_1 : decode cX7_field 1 = .ok (.iload_n 1, 1) := by decide +kernel
theorem dX7_field_2 : decode cX7_field 2 = .ok (.iconst 0, 1) := by decide +kernel
theorem dX7_field_3 : decode cX7_field 3 = .ok (.iconst 3, 1) := by decide +kernel
theorem dX7_field_4 : decode cX7_field 4 = .ok (.invokestatic 78, 3) := by decide +kernel
theorem dX7_field_7 : decode cX7_field 7 = .ok (.ifCond .ne 7, 3) := by decide +kernel
theorem dX7_field_10 : decode cX7_field 10 = .ok (.iconst 1, 1) := by decide +kernel
theorem dX7_field_11 : decode cX7_field 11 = .ok (.goto 18, 3) := by decide +kernel
theorem dX7_field_14 : decode cX7_field 14 = .ok (.iload_n 2, 1) := by decide +kernel
theorem dX7_field_15 : decode cX7_field 15 = .ok (.iconst (-1), 1) := by decide +kernel
theorem dX7_field_16 : decode cX7_field 16 = .ok (.bipush 99, 2) := by decide +kernel
theorem dX7_field_18 : decode cX7_field 18 = .ok (.invokestatic 78, 3) := by decide +kernel
theorem dX7_field_21 : decode cX7_field 21 = .ok (.ifCond .ne 7, 3) := by decide +kernel
theorem dX7_field_24 : decode cX7_field 24 = .ok (.iconst 2, 1) := by decide +kernel
theorem dX7_field_25 : decode cX7_field 25 = .ok (.goto 4, 3) := by decide +kernel
theorem dX7_field_28 : decode cX7_field 28 = .ok (.iconst 0, 1) := by decide +kernel
theorem dX7_field_29 : decode cX7_field 29 = .ok (.putfield 74, 3) := by decide +kernel
theorem dX7_field_32 : decode cX7_field 32 = .ok (.aload_n 0, 1) := by decide +kernel
theorem dX7_field_33 : decode cX7_field 33 = .ok (.getfield 74, 3) := by decide +kernel
theorem dX7_field_36 : decode cX7_field 36 = .ok (.ifCond .le 5, 3) := by decide +kernel
theorem dX7_field_39 : decode cX7_field 39 = .ok (.iconst 0, 1) := by decide +kernel
theorem dX7_field_40 : decode cX7_field 40 = .ok (.ireturn, 1) := by decide +kernel
theorem dX7_field_41 : decode cX7_field 41 = .ok (.aload_n 0, 1) := by decide +kernel
theorem dX7_field_42 : decode cX7_field 42 = .ok (.getfield 22, 3) := by decide +kernel
theorem dX7_field_45 : decode cX7_field 45 = .ok (.iload_n 1, 1) := by decide +kernel
theorem dX7_field_46 : decode cX7_field 46 = .ok (.iaload, 1) := by decide +kernel
theorem dX7_field_47 : decode cX7_field 47 = .ok (.istore_n 3, 1) := by decide +kernel
theorem dX7_field_48 : decode cX7_field 48 = .ok (.aload_n 0, 1) := by decide +kernel
theorem dX7_field_49 : decode cX7_field 49 = .ok (.getfield 22, 3) := by decide +kernel
theorem dX7_field_52 : decode cX7_field 52 = .ok (.iload_n 1, 1) := by decide +kernel
theorem dX7_field_53 : decode cX7_field 53 = .ok (.iload_n 2, 1) := by decide +kernel
theorem dX7_field_54 : decode cX7_field 54 = .ok (.iastore, 1) := by decide +kernel
theorem dX7_field_55 : decode cX7_field 55 = .ok (.iload_n 3, 1) := by decide +kernel
theorem dX7_field_56 : decode cX7_field 56 = .ok (.ireturn, 1) := by decide +kernel
set_option maxRecDepth 20000 in
theorem ggX7_load_X7_in : GoodIn wsX7_load wsX7_in := goodIn_r _ [14] (by decide +kernel) (by decide +kernel)
set_option maxRecDepth 20000 in
theorem gX7_load_X7_in : GoodIn wsX7_load (va_wsS RX7 78 yX7_in wsX7_in) := goodIn_app (goodIn_of _ (by decide +kernel)) ggX7_load_X7_in
set_option maxRecDepth 20000 in
theorem ggX7_load_X7_emptyDraft : GoodIn wsX7_load wsX7_emptyDraft := goodIn_r _ [18, 7, 9, 61, 62, 63, 64, 65, 66, 67, 68, 69, 70, 71, 72, 73, 74, 75, 76, 77, 78, 79, 80, 81, 82, 83, 84, 85] (by decide +kernel) (by decide +kernel)
set_option maxRecDepth 20000 in
theorem gX7_load_X7_emptyDraft : GoodIn wsX7_load (wsV RX7 71 RX7 yX7_emptyDraft wsX7_emptyDraft) := goodIn_app (goodIn_of _ (by decide +kernel)) ggX7_load_X7_emptyDraft
set_option maxRecDepth 20000 in
theorem ggX7_load_X7_add : GoodIn wsX7_load wsX7_add := goodIn_r _ [22, 23, 24, 25, 26, 27, 28, 29, 13, 30, 31, 32, 33, 34, 35, 36, 37, 38, 4, 10, 39, 40, 41, 42, 6, 43, 44, 45, 46, 47, 48, 8, 49, 50, 5, 51, 52, 53, 54, 55, 56, 57, 58, 59, 60, 61, 62, 63, 64, 65, 66, 67, 68, 69, 70, 71, 72, 73, 74, 75, 76, 77, 78, 79, 80, 81, 82, 83, 84, 85] (by decide +kernel) (by decide +kernel)
set_option maxRecDepth 20000 in
theorem gX7_load_X7_add : GoodIn wsX7_load (wsV RX7 112 RX7 yX7_add wsX7_add) := goodIn_app (goodIn_of _ (by decide +kernel)) ggX7_load_X7_add
theorem dX7_load_0 : decode cX7_load 0 = .ok (.aload_n 0, 1) := by decide +kernel
theorem dX7_load_1 : decode cX7_load 1 = .ok (.iload_n 1, 1) := by decide +kernel
theorem dX7_load_2 : decode cX7_load 2 = .ok (.iconst 0, 1) := by decide +kernel
theorem dX7_load_3 : decode cX7_load 3 = .ok (.iconst 4, 1) := by decide +kernel
theorem dX7_load_4 : decode cX7_load 4 = .ok (.invokestatic 78, 3) := by decide +kernel
theorem dX7_load_7 : decode cX7_load 7 = .ok (.ifCond .ne 7, 3) := by decide +kernel
theorem dX7_load_10 : decode cX7_load 10 = .ok (.iconst 1, 1) := by decide +kernel
theorem dX7_load_11 : decode cX7_load 11 = .ok (.goto 24, 3) := by decide +kernel
theorem dX7_load_14 : decode cX7_load 14 = .ok (.aload_n 0, 1) := by decide +kernel
theorem dX7_load_15 : decode cX7_load 15 = .ok (.getfield 109, 3) := by decide +kernel
theorem dX7_load_18 : decode cX7_load 18 = .ok (.ifCond .eq 12, 3) := by decide +kernel
theorem dX7_load_21 : decode cX7_load 21 = .ok (.aload_n 0, 1) := by decide +kernel
theorem dX7_load_22 : decode cX7_load 22 = .ok (.getfield 82, 3) := by decide +kernel
theorem dX7_load_25 : decode cX7_load 25 = .ok (.bipush 80, 2) := by decide +kernel
theorem dX7_load_27 : decode cX7_load 27 = .ok (.if_icmp .ne 7, 3) := by decide +kernel
theorem dX7_load_30 : decode cX7_load 30 = .ok (.iconst 2, 1) := by decide +kernel
theorem dX7_load_31 : decode cX7_load 31 = .ok (.goto 4, 3) := by decide +kernel
theorem dX7_load_34 : decode cX7_load 34 = .ok (.iconst 0, 1) := by decide +kernel
theorem dX7_load_35 : decode cX7_load 35 = .ok (.putfield 74, 3) := by decide +kernel
theorem dX7_load_38 : decode cX7_load 38 = .ok (.aload_n 0, 1) := by decide +kernel
theorem dX7_load_39 : decode cX7_load 39 = .ok (.getfield 74, 3) := by decide +kernel
theorem dX7_load_42 : decode cX7_load 42 = .ok (.ifCond .le 5, 3) := by decide +kernel
theorem dX7_load_45 : decode cX7_load 45 = .ok (.iconst 0, 1) := by decide +kernel
theorem dX7_load_46 : decode cX7_load 46 = .ok (.ireturn, 1) := by decide +kernel
theorem dX7_load_47 : decode cX7_load 47 = .ok (.aload_n 0, 1) := by decide +kernel
theorem dX7_load_48 : decode cX7_load 48 = .ok (.getfield 82, 3) := by decide +kernel
theorem dX7_load_51 : decode cX7_load 51 = .ok (.istore_n 2, 1) := by decide +kernel
theorem dX7_load_52 : decode cX7_load 52 = .ok (.aload_n 0, 1) := by decide +kernel
theorem dX7_load_53 : decode cX7_load 53 = .ok (.dup, 1) := by decide +kernel
theorem dX7_load_54 : decode cX7_load 54 = .ok (.getfield 82, 3) := by decide +kernel
theorem dX7_load_57 : decode cX7_load 57 = .ok (.iconst 1, 1) := by decide +kernel
theorem dX7_load_58 : decode cX7_load 58 = .ok (.iadd, 1) := by decide +kernel
theorem dX7_load_59 : decode cX7_load 59 = .ok (.putfield 82, 3) := by decide +kernel
theorem dX7_load_62 : decode cX7_load 62 = .ok (.aload_n 0, 1) := by decide +kernel
theorem dX7_load_63 : decode cX7_load 63 = .ok (.getfield 29, 3) := by decide +kernel
theorem dX7_load_66 : decode cX7_load 66 = .ok (.iload_n 2, 1) := by decide +kernel
theorem dX7_load_67 : decode cX7_load 67 = .ok (.aload_n 0, 1) := by decide +kernel
theorem dX7_load_68 : decode cX7_load 68 = .ok (.getfield 109, 3) := by decide +kernel
theorem dX7_load_71 : decode cX7_load 71 = .ok (.iconst 1, 1) := by decide +kernel
theorem dX7_load_72 : decode cX7_load 72 = .ok (.isub, 1) := by decide +kernel
theorem dX7_load_73 : decode cX7_load 73 = .ok (.iastore, 1) := by decide +kernel
theorem dX7_load_74 : decode cX7_load 74 = .ok (.aload_n 0, 1) := by decide +kernel
theorem dX7_load_75 : decode cX7_load 75 = .ok (.getfield 32, 3) := by decide +kernel
theorem dX7_load_78 : decode cX7_load 78 = .ok (.iload_n 2, 1) := by decide +kernel
theorem dX7_load_79 : decode cX7_load 79 = .ok (.iload_n 1, 1) := by decide +kernel
theorem dX7_load_80 : decode cX7_load 80 = .ok (.iastore, 1) := by decide +kernel
theorem dX7_load_81 : decode cX7_load 81 = .ok (.iconst 0, 1) := by decide +kernel
theorem dX7_load_82 : decode cX7_load 82 = .ok (.istore_n 3, 1) := by decide +kernel
theorem dX7_load_83 : decode cX7_load 83 = .ok (.iload_n 3, 1) := by decide +kernel
theorem dX7_load_84 : decode cX7_load 84 = .ok (.iconst 3, 1) := by decide +kernel
theorem dX7_load_85 : decode cX7_load 85 = .ok (.if_icmp .ge 25, 3) := by decide +kernel
theorem dX7_load_88 : decode cX7_load 88 = .ok (.aload_n 0, 1) := by decide +kernel
theorem dX7_load_89 : decode cX7_load 89 = .ok (.getfield 35, 3) := by decide +kernel
theorem dX7_load_92 : decode cX7_load 92 = .ok (.iconst 3, 1) := by decide +kernel
theorem dX7_load_93 : decode cX7_load 93 = .ok (.iload_n 2, 1) := by decide +kernel
theorem dX7_load_94 : decode cX7_load 94 = .ok (.imul, 1) := by decide +kernel
theorem dX7_load_95 : decode cX7_load 95 = .ok (.iload_n 3, 1) := by decide +kernel
theorem dX7_load_96 : decode cX7_load 96 = .ok (.iadd, 1) := by decide +kernel
theorem dX7_load_97 : decode cX7_load 97 = .ok (.aload_n 0, 1) := by decide +kernel
theorem dX7_load_98 : decode cX7_load 98 = .ok (.getfield 19, 3) := by decide +kernel
theorem dX7_load_101 : decode cX7_load 101 = .ok (.iload_n 3, 1) := by decide +kernel
theorem dX7_load_102 : decode cX7_load 102 = .ok (.iaload, 1) := by decide +kernel
theorem dX7_load_103 : decode cX7_load 103 = .ok (.iastore, 1) := by decide +kernel
theorem dX7_load_104 : decode cX7_load 104 = .ok (.iinc 3 1, 3) := by decide +kernel
theorem dX7_load_107 : decode cX7_load 107 = .ok (.goto (-24), 3) := by decide +kernel
theorem dX7_load_110 : decode cX7_load 110 = .ok (.iconst 0, 1) := by decide +kernel
theorem dX7_load_111 : decode cX7_load 111 = .ok (.istore_n 3, 1) := by decide +kernel
theorem dX7_load_112 : decode cX7_load 112 = .ok (.iload_n 3, 1) := by decide +kernel
theorem dX7_load_113 : decode cX7_load 113 = .ok (.iconst 4, 1) := by decide +kernel
theorem dX7_load_114 : decode cX7_load 114 = .ok (.if_icmp .ge 25, 3) := by decide +kernel
theorem dX7_load_117 : decode cX7_load 117 = .ok (.aload_n 0, 1) := by decide +kernel
theorem dX7_load_118 : decode cX7_load 118 = .ok (.getfield 38, 3) := by decide +kernel
theorem dX7_load_121 : decode cX7_load 121 = .ok (.iconst 4, 1) := by decide +kernel
theorem dX7_load_122 : decode cX7_load 122 = .ok (.iload_n 2, 1) := by decide +kernel
theorem dX7_load_123 : decode cX7_load 123 = .ok (.imul, 1) := by decide +kernel
theorem dX7_load_124 : decode cX7_load 124 = .ok (.iload_n 3, 1) := by decide +kernel
theorem dX7_load_125 : decode cX7_load 125 = .ok (.iadd, 1) := by decide +kernel
theorem dX7_load_126 : decode cX7_load 126 = .ok (.aload_n 0, 1) := by decide +kernel
theorem dX7_load_127 : decode cX7_load 127 = .ok (.getfield 22, 3) := by decide +kernel
theorem dX7_load_130 : decode cX7_load 130 = .ok (.iload_n 3, 1) := by decide +kernel
theorem dX7_load_131 : decode cX7_load 131 = .ok (.iaload, 1) := by decide +kernel
theorem dX7_load_132 : decode cX7_load 132 = .ok (.iastore, 1) := by decide +kernel
theorem dX7_load_133 : decode cX7_load 133 = .ok (.iinc 3 1, 3) := by decide +kernel
theorem dX7_load_136 : decode cX7_load 136 = .ok (.goto (-24), 3) := by decide +kernel
theorem dX7_load_139 : decode cX7_load 139 = .ok (.aload_n 0, 1) := by decide +kernel
theorem dX7_load_140 : decode cX7_load 140 = .ok (.invokevirtual 71, 3) := by decide +kernel
theorem dX7_load_143 : decode cX7_load 143 = .ok (.aload_n 0, 1) := by decide +kernel
theorem dX7_load_144 : decode cX7_load 144 = .ok (.iconst 0, 1) := by decide +kernel
theorem dX7_load_145 : decode cX7_load 145 = .ok (.iload_n 2, 1) := by decide +kernel
theorem dX7_load_146 : decode cX7_load 146 = .ok (.iconst 0, 1) := by decide +kernel
theorem dX7_load_147 : decode cX7_load 147 = .ok (.invokevirtual 112, 3) := by decide +kernel
theorem dX7_load_150 : decode cX7_load 150 = .ok (.aload_n 0, 1) := by decide +kernel
theorem dX7_load_151 : decode cX7_load 151 = .ok (.getfield 41, 3) := by decide +kernel
theorem dX7_load_154 : decode cX7_load 154 = .ok (.iload_n 2, 1) := by decide +kernel
theorem dX7_load_155 : decode cX7_load 155 = .ok (.iaload, 1) := by decide +kernel
theorem dX7_load_156 : decode cX7_load 156 = .ok (.ireturn, 1) := by decide +kernel
set_option maxRecDepth 20000 in
theorem ggX7_isRecord_X7_in : GoodIn wsX7_isRecord wsX7_in := goodIn_r _ [5] (by decide +kernel) (by decide +kernel)
set_option maxRecDepth 20000 in
theorem gX7_isRecord_X7_in : GoodIn wsX7_isRecord (va_wsS RX7 78 yX7_in wsX7_in) := goodIn_app (goodIn_of _ (by decide +kernel)) ggX7_isRecord_X7_in
theorem dX7_isRecord_0 : decode cX7_isRecord 0 = .ok (.iload_n 1, 1) := by decide +kernel
theorem dX7_isRecord_1 : decode cX7_isRecord 1 = .ok (.iconst 0, 1) := by decide +kernel
theorem dX7_isRecord_2 : decode cX7_isRecord 2 = .ok (.bipush 79, 2) := by decide +kernel
theorem dX7_isRecord_4 : decode cX7_isRecord 4 = .ok (.invokestatic 78, 3) := by decide +kernel
theorem dX7_isRecord_7 : decode cX7_isRecord 7 = .ok (.ifCond .eq 16, 3) := by decide +kernel
theorem dX7_isRecord_10 : decode cX7_isRecord 10 = .ok (.aload_n 0, 1) := by decide +kernel
theorem dX7_isRecord_11 : decode cX7_isRecord 11 = .ok (.getfield 53, 3) := by decide +kernel
theorem dX7_isRecord_14 : decode cX7_isRecord 14 = .ok (.iload_n 1, 1) := by decide +kernel
theorem dX7_isRecord_15 : decode cX7_isRecord 15 = .ok (.baload, 1) := by decide +kernel
theorem dX7_isRecord_16 : decode cX7_isRecord 16 = .ok (.ifCond .eq 7, 3) := by decide +kernel
theorem dX7_isRecord_19 : decode cX7_isRecord 19 = .ok (.iconst 1, 1) := by decide +kernel
theorem dX7_isRecord_20 : decode cX7_isRecord 20 = .ok (.goto 4, 3) := by decide +kernel
theorem dX7_isRecord_23 : decode cX7_isRecord 23 = .ok (.iconst 0, 1) := by decide +kernel
theorem dX7_isRecord_24 : decode cX7_isRecord 24 = .ok (.ireturn, 1) := by decide +kernel
set_option maxRecDepth 20000 in
theorem ggX7_protect_X7_isRecord : GoodIn wsX7_protect wsX7_isRecord := goodIn_r _ [8, 9, 10, 11, 7, 12, 58, 59, 60, 61, 62, 63, 64, 65, 66, 67, 68, 69, 70, 71, 72, 73, 74, 75, 76, 77, 78, 79, 80, 81, 82] (by decide +kernel) (by decide +kernel)
set_option maxRecDepth 20000 in
theorem gX7_protect_X7_isRecord : GoodIn wsX7_protect (wsV RX7 116 RX7 yX7_isRecord wsX7_isRecord) := goodIn_app (goodIn_of _ (by decide +kernel)) ggX7_protect_X7_isRecord
set_option maxRecDepth 20000 in
theorem ggX7_protect_X7_in : GoodIn wsX7_protect wsX7_in := goodIn_r _ [12] (by decide +kernel) (by decide +kernel)
set_option maxRecDepth 20000 in
theorem gX7_protect_X7_in : GoodIn wsX7_protect (va_wsS RX7 78 yX7_in wsX7_in) := goodIn_app (goodIn_of _ (by decide +kernel)) ggX7_protect_X7_in
set_option maxRecDepth 20000 in
theorem ggX7_protect_X7_add : GoodIn wsX7_protect wsX7_add := goodIn_r _ [16, 17, 18, 19, 20, 21, 22, 23, 7, 24, 9, 25, 3, 26, 27, 28, 29, 30, 31, 32, 33, 34, 35, 36, 37, 38, 39, 40, 41, 42, 43, 44, 45, 46, 47, 48, 49, 50, 51, 52, 53, 54, 55, 56, 57, 58, 59, 60, 61, 62, 63, 64, 65, 66, 67, 68, 69, 70, 71, 72, 73, 74, 75, 76, 77, 78, 79, 80, 81, 82] (by decide +kernel) (by decide +kernel)
set_option maxRecDepth 20000 in
theorem gX7_protect_X7_add : GoodIn wsX7_protect (wsV RX7 112 RX7 yX7_add wsX7_add) := goodIn_app (goodIn_of _ (by decide +kernel)) ggX7_protect_X7_add
theorem dX7_protect_0 : decode cX7_protect 0 = .ok (.aload_n 0, 1) := by decide +kernel
theorem dX7_protect_1 : decode cX7_protect 1 = .ok (.aload_n 0, 1) := by decide +kernel
theorem dX7_protect_2 : decode cX7_protect 2 = .ok (.iload_n 1, 1) := by decide +kernel
theorem dX7_protect_3 : decode cX7_protect 3 = .ok (.invokevirtual 116, 3) := by decide +kernel
theorem dX7_protect_6 : decode cX7_protect 6 = .ok (.ifCond .eq 12, 3) := by decide +kernel
theorem dX7_protect_9 : decode cX7_protect 9 = .ok (.iload_n 2, 1) := by decide +kernel
theorem dX7_protect_10 : decode cX7_protect 10 = .ok (.iconst 0, 1) := by decide +kernel
theorem dX7_protect_11 : decode cX7_protect 11 = .ok (.iconst 3, 1) := by decide +kernel
theorem dX7_protect_12 : decode cX7_protect 12 = .ok (.invokestatic 78, 3) := by decide +kernel
theorem dX7_protect_15 : decode cX7_protect 15 = .ok (.ifCond .ne 7, 3) := by decide +kernel
theorem dX7_protect_18 : decode cX7_protect 18 = .ok (.iconst 1, 1) := by decide +kernel
theorem dX7_protect_19 : decode cX7_protect 19 = .ok (.goto 17, 3) := by decide +kernel
theorem dX7_protect_22 : decode cX7_protect 22 = .ok (.aload_n 0, 1) := by decide +kernel
theorem dX7_protect_23 : decode cX7_protect 23 = .ok (.getfield 120, 3) := by decide +kernel
theorem dX7_protect_26 : decode cX7_protect 26 = .ok (.bipush 100, 2) := by decide +kernel
theorem dX7_protect_28 : decode cX7_protect 28 = .ok (.if_icmp .ne 7, 3) := by decide +kernel
theorem dX7_protect_31 : decode cX7_protect 31 = .ok (.iconst 2, 1) := by decide +kernel
theorem dX7_protect_32 : decode cX7_protect 32 = .ok (.goto 4, 3) := by decide +kernel
theorem dX7_protect_35 : decode cX7_protect 35 = .ok (.iconst 0, 1) := by decide +kernel
theorem dX7_protect_36 : decode cX7_protect 36 = .ok (.putfield 74, 3) := by decide +kernel
theorem dX7_protect_39 : decode cX7_protect 39 = .ok (.aload_n 0, 1) := by decide +kernel
theorem dX7_protect_40 : decode cX7_protect 40 = .ok (.getfield 74, 3) := by decide +kernel
theorem dX7_protect_43 : decode cX7_protect 43 = .ok (.ifCond .le 5, 3) := by decide +kernel
theorem dX7_protect_46 : decode cX7_protect 46 = .ok (.iconst 0, 1) := by decide +kernel
theorem dX7_protect_47 : decode cX7_protect 47 = .ok (.ireturn, 1) := by decide +kernel
theorem dX7_protect_48 : decode cX7_protect 48 = .ok (.aload_n 0, 1) := by decide +kernel
theorem dX7_protect_49 : decode cX7_protect 49 = .ok (.getfield 65, 3) := by decide +kernel
theorem dX7_protect_52 : decode cX7_protect 52 = .ok (.iconst 4, 1) := by decide +kernel
theorem dX7_protect_53 : decode cX7_protect 53 = .ok (.iload_n 1, 1) := by decide +kernel
theorem dX7_protect_54 : decode cX7_protect 54 = .ok (.imul, 1) := by decide +kernel
theorem dX7_protect_55 : decode cX7_protect 55 = .ok (.iload_n 2, 1) := by decide +kernel
theorem dX7_protect_56 : decode cX7_protect 56 = .ok (.iadd, 1) := by decide +kernel
theorem dX7_protect_57 : decode cX7_protect 57 = .ok (.baload, 1) := by decide +kernel
theorem dX7_protect_58 : decode cX7_protect 58 = .ok (.istore 4, 2) := by decide +kernel
theorem dX7_protect_60 : decode cX7_protect 60 = .ok (.aload_n 0, 1) := by decide +kernel
theorem dX7_protect_61 : decode cX7_protect 61 = .ok (.dup, 1) := by decide +kernel
theorem dX7_protect_62 : decode cX7_protect 62 = .ok (.getfield 120, 3) := by decide +kernel
theorem dX7_protect_65 : decode cX7_protect 65 = .ok (.iconst 1, 1) := by decide +kernel
theorem dX7_protect_66 : decode cX7_protect 66 = .ok (.iadd, 1) := by decide +kernel
theorem dX7_protect_67 : decode cX7_protect 67 = .ok (.putfield 120, 3) := by decide +kernel
theorem dX7_protect_70 : decode cX7_protect 70 = .ok (.aload_n 0, 1) := by decide +kernel
theorem dX7_protect_71 : decode cX7_protect 71 = .ok (.iload_n 3, 1) := by decide +kernel
theorem dX7_protect_72 : decode cX7_protect 72 = .ok (.ifCond .eq 7, 3) := by decide +kernel
theorem dX7_protect_75 : decode cX7_protect 75 = .ok (.iconst 1, 1) := by decide +kernel
theorem dX7_protect_76 : decode cX7_protect 76 = .ok (.goto 4, 3) := by decide +kernel
theorem dX7_protect_79 : decode cX7_protect 79 = .ok (.iconst 2, 1) := by decide +kernel
theorem dX7_protect_80 : decode cX7_protect 80 = .ok (.iload_n 1, 1) := by decide +kernel
theorem dX7_protect_81 : decode cX7_protect 81 = .ok (.iload_n 2, 1) := by decide +kernel
theorem dX7_protect_82 : decode cX7_protect 82 = .ok (.invokevirtual 112, 3) := by decide +kernel
theorem dX7_protect_85 : decode cX7_protect 85 = .ok (.iload 4, 2) := by decide +kernel
theorem dX7_protect_87 : decode cX7_protect 87 = .ok (.ireturn, 1) := by decide +kernel
set_option maxRecDepth 20000 in
theorem ggX7_hold_X7_isRecord : GoodIn wsX7_hold wsX7_isRecord := goodIn_r _ [8, 9, 10, 11, 7, 12, 58, 59, 60, 61, 62, 63, 64, 65, 66, 67, 68, 69, 70, 71, 72, 73, 74, 75, 76, 77, 78, 79, 80, 81, 82] (by decide +kernel) (by decide +kernel)
set_option maxRecDepth 20000 in
theorem gX7_hold_X7_isRecord : GoodIn wsX7_hold (wsV RX7 116 RX7 yX7_isRecord wsX7_isRecord) := goodIn_app (goodIn_of _ (by decide +kernel)) ggX7_hold_X7_isRecord
set_option maxRecDepth 20000 in
theorem ggX7_hold_X7_add : GoodIn wsX7_hold wsX7_add := goodIn_r _ [16, 17, 18, 19, 20, 21, 22, 23, 7, 24, 9, 3, 25, 26, 27, 28, 29, 30, 31, 32, 33, 34, 35, 36, 37, 38, 39, 40, 41, 42, 43, 44, 45, 46, 47, 48, 49, 50, 51, 52, 53, 54, 55, 56, 57, 58, 59, 60, 61, 62, 63, 64, 65, 66, 67, 68, 69, 70, 71, 72, 73, 74, 75, 76, 77, 78, 79, 80, 81, 82] (by decide +kernel) (by decide +kernel)
set_option maxRecDepth 20000 in
theorem gX7_hold_X7_add : GoodIn wsX7_hold (wsV RX7 112 RX7 yX7_add wsX7_add) := goodIn_app (goodIn_of _ (by decide +kernel)) ggX7_hold_X7_add
theorem dX7_hold_0 : decode cX7_hold 0 = .ok (.aload_n 0, 1) := by decide +kernel
theorem dX7_hold_1 : decode cX7_hold 1 = .ok (.aload_n 0, 1) := by decide +kernel
theorem dX7_hold_2 : decode cX7_hold 2 = .ok (.iload_n 1, 1) := by decide +kernel
theorem dX7_hold_3 : decode cX7_hold 3 = .ok (.invokevirtual 116, 3) := by decide +kernel
theorem dX7_hold_6 : decode cX7_hold 6 = .ok (.ifCond .ne 7, 3) := by decide +kernel
theorem dX7_hold_9 : decode cX7_hold 9 = .ok (.iconst 1, 1) := by decide +kernel
theorem dX7_hold_10 : decode cX7_hold 10 = .ok (.goto 17, 3) := by decide +kernel
theorem dX7_hold_13 : decode cX7_hold 13 = .ok (.aload_n 0, 1) := by decide +kernel
theorem dX7_hold_14 : decode cX7_hold 14 = .ok (.getfield 120, 3) := by decide +kernel
theorem dX7_hold_17 : decode cX7_hold 17 = .ok (.bipush 100, 2) := by decide +kernel
theorem dX7_hold_19 : decode cX7_hold 19 = .ok (.if_icmp .ne 7, 3) := by decide +kernel
theorem dX7_hold_22 : decode cX7_hold 22 = .ok (.iconst 2, 1) := by decide +kernel
theorem dX7_hold_23 : decode cX7_hold 23 = .ok (.goto 4, 3) := by decide +kernel
theorem dX7_hold_26 : decode cX7_hold 26 = .ok (.iconst 0, 1) := by decide +kernel
theorem dX7_hold_27 : decode cX7_hold 27 = .ok (.putfield 74, 3) := by decide +kernel
theorem dX7_hold_30 : decode cX7_hold 30 = .ok (.aload_n 0, 1) := by decide +kernel
theorem dX7_hold_31 : decode cX7_hold 31 = .ok (.getfield 74, 3) := by decide +kernel
theorem dX7_hold_34 : decode cX7_hold 34 = .ok (.ifCond .le 5, 3) := by decide +kernel
theorem dX7_hold_37 : decode cX7_hold 37 = .ok (.iconst 0, 1) := by decide +kernel
theorem dX7_hold_38 : decode cX7_hold 38 = .ok (.ireturn, 1) := by decide +kernel
theorem dX7_hold_39 : decode cX7_hold 39 = .ok (.aload_n 0, 1) := by decide +kernel
theorem dX7_hold_40 : decode cX7_hold 40 = .ok (.dup, 1) := by decide +kernel
theorem dX7_hold_41 : decode cX7_hold 41 = .ok (.getfield 120, 3) := by decide +kernel
theorem dX7_hold_44 : decode cX7_hold 44 = .ok (.iconst 1, 1) := by decide +kernel
theorem dX7_hold_45 : decode cX7_hold 45 = .ok (.iadd, 1) := by decide +kernel
theorem dX7_hold_46 : decode cX7_hold 46 = .ok (.putfield 120, 3) := by decide +kernel
theorem dX7_hold_49 : decode cX7_hold 49 = .ok (.aload_n 0, 1) := by decide +kernel
theorem dX7_hold_50 : decode cX7_hold 50 = .ok (.iconst 3, 1) := by decide +kernel
theorem dX7_hold_51 : decode cX7_hold 51 = .ok (.iload_n 1, 1) := by decide +kernel
theorem dX7_hold_52 : decode cX7_hold 52 = .ok (.iconst 0, 1) := by decide +kernel
theorem dX7_hold_53 : decode cX7_hold 53 = .ok (.invokevirtual 112, 3) := by decide +kernel
theorem dX7_hold_56 : decode cX7_hold 56 = .ok (.aload_n 0, 1) := by decide +kernel
theorem dX7_hold_57 : decode cX7_hold 57 = .ok (.getfield 68, 3) := by decide +kernel
theorem dX7_hold_60 : decode cX7_hold 60 = .ok (.iload_n 1, 1) := by decide +kernel
theorem dX7_hold_61 : decode cX7_hold 61 = .ok (.iaload, 1) := by decide +kernel
theorem dX7_hold_62 : decode cX7_hold 62 = .ok (.ireturn, 1) := by decide +kernel
set_option maxRecDepth 20000 in
theorem ggX7_merge_X7_isRecord : GoodIn wsX7_merge wsX7_isRecord := goodIn_r _ [8, 9, 10, 11, 7, 12, 58, 59, 60, 61, 62, 63, 64, 65, 66, 67, 68, 69, 70, 71, 72, 73, 74, 75, 76, 77, 78, 79, 80, 81, 82] (by decide +kernel) (by decide +kernel)
set_option maxRecDepth 20000 in
theorem gX7_merge_X7_isRecord : GoodIn wsX7_merge (wsV RX7 116 RX7 yX7_isRecord wsX7_isRecord) := goodIn_app (goodIn_of _ (by decide +kernel)) ggX7_merge_X7_isRecord
set_option maxRecDepth 20000 in
theorem ggX7_merge_X7_add : GoodIn wsX7_merge wsX7_add := goodIn_r _ [16, 17, 18, 19, 20, 21, 22, 23, 7, 24, 9, 3, 25, 26, 27, 28, 29, 30, 31, 32, 33, 34, 35, 36, 37, 38, 39, 40, 41, 42, 43, 44, 45, 46, 47, 48, 49, 50, 51, 52, 53, 54, 55, 56, 57, 58, 59, 60, 61, 62, 63, 64, 65, 66, 67, 68, 69, 70, 71, 72, 73, 74, 75, 76, 77, 78, 79, 80, 81, 82] (by decide +kernel) (by decide +kernel)
set_option maxRecDepth 20000 in
theorem gX7_merge_X7_add : GoodIn wsX7_merge (wsV RX7 112 RX7 yX7_add wsX7_add) := goodIn_app (goodIn_of _ (by decide +kernel)) ggX7_merge_X7_add
theorem dX7_merge_0 : decode cX7_merge 0 = .ok (.aload_n 0, 1) := by decide +kernel
theorem dX7_merge_1 : decode cX7_merge 1 = .ok (.aload_n 0, 1) := by decide +kernel
theorem dX7_merge_2 : decode cX7_merge 2 = .ok (.iload_n 1, 1) := by decide +kernel
theorem dX7_merge_3 : decode cX7_merge 3 = .ok (.invokevirtual 116, 3) := by decide +kernel
theorem dX7_merge_6 : decode cX7_merge 6 = .ok (.ifCond .eq 11, 3) := by decide +kernel
theorem dX7_merge_9 : decode cX7_merge 9 = .ok (.aload_n 0, 1) := by decide +kernel
theorem dX7_merge_10 : decode cX7_merge 10 = .ok (.iload_n 2, 1) := by decide +kernel
theorem dX7_merge_11 : decode cX7_merge 11 = .ok (.invokevirtual 116, 3) := by decide +kernel
theorem dX7_merge_14 : decode cX7_merge 14 = .ok (.ifCond .ne 7, 3) := by decide +kernel
theorem dX7_merge_17 : decode cX7_merge 17 = .ok (.iconst 1, 1) := by decide +kernel
theorem dX7_merge_18 : decode cX7_merge 18 = .ok (.goto 26, 3) := by decide +kernel
theorem dX7_merge_21 : decode cX7_merge 21 = .ok (.iload_n 1, 1) := by decide +kernel
theorem dX7_merge_22 : decode cX7_merge 22 = .ok (.iload_n 2, 1) := by decide +kernel
theorem dX7_merge_23 : decode cX7_merge 23 = .ok (.if_icmp .ne 7, 3) := by decide +kernel
theorem dX7_merge_26 : decode cX7_merge 26 = .ok (.iconst 2, 1) := by decide +kernel
theorem dX7_merge_27 : decode cX7_merge 27 = .ok (.goto 17, 3) := by decide +kernel
theorem dX7_merge_30 : decode cX7_merge 30 = .ok (.aload_n 0, 1) := by decide +kernel
theorem dX7_merge_31 : decode cX7_merge 31 = .ok (.getfield 120, 3) := by decide +kernel
theorem dX7_merge_34 : decode cX7_merge 34 = .ok (.bipush 100, 2) := by decide +kernel
theorem dX7_merge_36 : decode cX7_merge 36 = .ok (.if_icmp .ne 7, 3) := by decide +kernel
theorem dX7_merge_39 : decode cX7_merge 39 = .ok (.iconst 3, 1) := by decide +kernel
theorem dX7_merge_40 : decode cX7_merge 40 = .ok (.goto 4, 3) := by decide +kernel
theorem dX7_merge_43 : decode cX7_merge 43 = .ok (.iconst 0, 1) := by decide +kernel
theorem dX7_merge_44 : decode cX7_merge 44 = .ok (.putfield 74, 3) := by decide +kernel
theorem dX7_merge_47 : decode cX7_merge 47 = .ok (.aload_n 0, 1) := by decide +kernel
theorem dX7_merge_48 : decode cX7_merge 48 = .ok (.getfield 74, 3) := by decide +kernel
theorem dX7_merge_51 : decode cX7_merge 51 = .ok (.ifCond .le 5, 3) := by decide +kernel
theorem dX7_merge_54 : decode cX7_merge 54 = .ok (.iconst 0, 1) := by decide +kernel
theorem dX7_merge_55 : decode cX7_merge 55 = .ok (.ireturn, 1) := by decide +kernel
theorem dX7_merge_56 : decode cX7_merge 56 = .ok (.aload_n 0, 1) := by decide +kernel
theorem dX7_merge_57 : decode cX7_merge 57 = .ok (.dup, 1) := by decide +kernel
theorem dX7_merge_58 : decode cX7_merge 58 = .ok (.getfield 120, 3) := by decide +kernel
theorem dX7_merge_61 : decode cX7_merge 61 = .ok (.iconst 1, 1) := by decide +kernel
theorem dX7_merge_62 : decode cX7_merge 62 = .ok (.iadd, 1) := by decide +kernel
theorem dX7_merge_63 : decode cX7_merge 63 = .ok (.putfield 120, 3) := by decide +kernel
theorem dX7_merge_66 : decode cX7_merge 66 = .ok (.aload_n 0, 1) := by decide +kernel
theorem dX7_merge_67 : decode cX7_merge 67 = .ok (.iconst 4, 1) := by decide +kernel
theorem dX7_merge_68 : decode cX7_merge 68 = .ok (.iload_n 1, 1) := by decide +kernel
theorem dX7_merge_69 : decode cX7_merge 69 = .ok (.iload_n 2, 1) := by decide +kernel
theorem dX7_merge_70 : decode cX7_merge 70 = .ok (.invokevirtual 112, 3) := by decide +kernel
theorem dX7_merge_73 : decode cX7_merge 73 = .ok (.aload_n 0, 1) := by decide +kernel
theorem dX7_merge_74 : decode cX7_merge 74 = .ok (.getfield 68, 3) := by decide +kernel
theorem dX7_merge_77 : decode cX7_merge 77 = .ok (.iload_n 2, 1) := by decide +kernel
theorem dX7_merge_78 : decode cX7_merge 78 = .ok (.iaload, 1) := by decide +kernel
theorem dX7_merge_79 : decode cX7_merge 79 = .ok (.ireturn, 1) := by decide +kernel
theorem dX7_recordMany_0 : decode cX7_recordMany 0 = .ok (.iconst 0, 1) := by decide +kernel
theorem dX7_recordMany_1 : decode cX7_recordMany 1 = .ok (.istore_n 1, 1) := by decide +kernel
theorem dX7_recordMany_2 : decode cX7_recordMany 2 = .ok (.iconst 0, 1) := by decide +kernel
theorem dX7_recordMany_3 : decode cX7_recordMany 3 = .ok (.istore_n 2, 1) := by decide +kernel
theorem dX7_recordMany_4 : decode cX7_recordMany 4 = .ok (.iload_n 2, 1) := by decide +kernel
theorem dX7_recordMany_5 : decode cX7_recordMany 5 = .ok (.bipush 80, 2) := by decide +kernel
theorem dX7_recordMany_7 : decode cX7_recordMany 7 = .ok (.if_icmp .ge 26, 3) := by decide +kernel
theorem dX7_recordMany_10 : decode cX7_recordMany 10 = .ok (.iload_n 1, 1) := by decide +kernel
theorem dX7_recordMany_11 : decode cX7_recordMany 11 = .ok (.aload_n 0, 1) := by decide +kernel
theorem dX7_recordMany_12 : decode cX7_recordMany 12 = .ok (.getfield 53, 3) := by decide +kernel
theorem dX7_recordMany_15 : decode cX7_recordMany 15 = .ok (.iload_n 2, 1) := by decide +kernel
theorem dX7_recordMany_16 : decode cX7_recordMany 16 = .ok (.baload, 1) := by decide +kernel
theorem dX7_recordMany_17 : decode cX7_recordMany 17 = .ok (.ifCond .eq 7, 3) := by decide +kernel
theorem dX7_recordMany_20 : decode cX7_recordMany 20 = .ok (.iconst 1, 1) := by decide +kernel
theorem dX7_recordMany_21 : decode cX7_recordMany 21 = .ok (.goto 4, 3) := by decide +kernel
theorem dX7_recordMany_24 : decode cX7_recordMany 24 = .ok (.iconst 0, 1) := by decide +kernel
theorem dX7_recordMany_25 : decode cX7_recordMany 25 = .ok (.iadd, 1) := by decide +kernel
theorem dX7_recordMany_26 : decode cX7_recordMany 26 = .ok (.istore_n 1, 1) := by decide +kernel
theorem dX7_recordMany_27 : decode cX7_recordMany 27 = .ok (.iinc 2 1, 3) := by decide +kernel
theorem dX7_recordMany_30 : decode cX7_recordMany 30 = .ok (.goto (-26), 3) := by decide +kernel
theorem dX7_recordMany_33 : decode cX7_recordMany 33 = .ok (.iload_n 1, 1) := by decide +kernel
theorem dX7_recordMany_34 : decode cX7_recordMany 34 = .ok (.ireturn, 1) := by decide +kernel
set_option maxRecDepth 20000 in
theorem ggX7_undo_X7_in : GoodIn wsX7_undo wsX7_in := goodIn_r _ [7] (by decide +kernel) (by decide +kernel)
set_option maxRecDepth 20000 in
theorem gX7_undo_X7_in : GoodIn wsX7_undo (va_wsS RX7 78 yX7_in wsX7_in) := goodIn_app (goodIn_of _ (by decide +kernel)) ggX7_undo_X7_in
set_option maxRecDepth 20000 in
theorem ggX7_undo_X7_makeAnew : GoodIn wsX7_undo wsX7_makeAnew := goodIn_r _ [11, 12, 13, 14, 15, 16, 6, 17, 18, 19, 20, 21, 22, 23, 24, 25, 26, 2, 27, 28, 29, 30, 31, 32, 33, 34, 35, 36, 37, 38, 39, 40, 41, 42, 43, 44, 45, 46, 47, 48, 49, 50, 51, 52, 53, 58, 59, 60, 61, 62, 63, 64, 65, 66, 67, 68, 69, 70, 71, 72, 73, 74, 75, 76, 77, 78, 79, 80, 81, 82] (by decide +kernel) (by decide +kernel)
set_option maxRecDepth 20000 in
theorem gX7_undo_X7_makeAnew : GoodIn wsX7_undo (wsV RX7 123 RX7 yX7_makeAnew wsX7_makeAnew) := goodIn_app (goodIn_of _ (by decide +kernel)) ggX7_undo_X7_makeAnew
set_option maxRecDepth 20000 in
theorem ggX7_undo_X7_recordMany : GoodIn wsX7_undo wsX7_recordMany := goodIn_r _ [57, 12, 58, 59, 60, 61, 62, 63, 64, 65, 66, 67, 68, 69, 70, 71, 72, 73, 74, 75, 76, 77, 78, 79, 80, 81, 82] (by decide +kernel) (by decide +kernel)
set_option maxRecDepth 20000 in
theorem gX7_undo_X7_recordMany : GoodIn wsX7_undo (wsV RX7 126 RX7 yX7_recordMany wsX7_recordMany) := goodIn_app (goodIn_of _ (by decide +kernel)) ggX7_undo_X7_recordMany
theorem dX7_undo_0 : decode cX7_undo 0 = .ok (.aload_n 0, 1) := by decide +kernel
theorem dX7_undo_1 : decode cX7_undo 1 = .ok (.iload_n 1, 1) := by decide +kernel
theorem dX7_undo_2 : decode cX7_undo 2 = .ok (.iconst 0, 1) := by decide +kernel
theorem dX7_undo_3 : decode cX7_undo 3 = .ok (.aload_n 0, 1) := by decide +kernel
theorem dX7_undo_4 : decode cX7_undo 4 = .ok (.getfield 109, 3) := by decide +kernel
theorem dX7_undo_7 : decode cX7_undo 7 = .ok (.iconst 1, 1) := by decide +kernel
theorem dX7_undo_8 : decode cX7_undo 8 = .ok (.isub, 1) := by decide +kernel
theorem dX7_undo_9 : decode cX7_undo 9 = .ok (.invokestatic 78, 3) := by decide +kernel
theorem dX7_undo_12 : decode cX7_undo 12 = .ok (.ifCond .ne 7, 3) := by decide +kernel
theorem dX7_undo_15 : decode cX7_undo 15 = .ok (.iconst 1, 1) := by decide +kernel
theorem dX7_undo_16 : decode cX7_undo 16 = .ok (.goto 18, 3) := by decide +kernel
theorem dX7_undo_19 : decode cX7_undo 19 = .ok (.aload_n 0, 1) := by decide +kernel
theorem dX7_undo_20 : decode cX7_undo 20 = .ok (.getfield 25, 3) := by decide +kernel
theorem dX7_undo_23 : decode cX7_undo 23 = .ok (.iload_n 1, 1) := by decide +kernel
theorem dX7_undo_24 : decode cX7_undo 24 = .ok (.baload, 1) := by decide +kernel
theorem dX7_undo_25 : decode cX7_undo 25 = .ok (.iload_n 2, 1) := by decide +kernel
theorem dX7_undo_26 : decode cX7_undo 26 = .ok (.if_icmp .ne 7, 3) := by decide +kernel
theorem dX7_undo_29 : decode cX7_undo 29 = .ok (.iconst 2, 1) := by decide +kernel
theorem dX7_undo_30 : decode cX7_undo 30 = .ok (.goto 4, 3) := by decide +kernel
theorem dX7_undo_33 : decode cX7_undo 33 = .ok (.iconst 0, 1) := by decide +kernel
theorem dX7_undo_34 : decode cX7_undo 34 = .ok (.putfield 74, 3) := by decide +kernel
theorem dX7_undo_37 : decode cX7_undo 37 = .ok (.aload_n 0, 1) := by decide +kernel
theorem dX7_undo_38 : decode cX7_undo 38 = .ok (.getfield 74, 3) := by decide +kernel
theorem dX7_undo_41 : decode cX7_undo 41 = .ok (.ifCond .le 5, 3) := by decide +kernel
theorem dX7_undo_44 : decode cX7_undo 44 = .ok (.iconst 0, 1) := by decide +kernel
theorem dX7_undo_45 : decode cX7_undo 45 = .ok (.ireturn, 1) := by decide +kernel
theorem dX7_undo_46 : decode cX7_undo 46 = .ok (.aload_n 0, 1) := by decide +kernel
theorem dX7_undo_47 : decode cX7_undo 47 = .ok (.getfield 25, 3) := by decide +kernel
theorem dX7_undo_50 : decode cX7_undo 50 = .ok (.iload_n 1, 1) := by decide +kernel
theorem dX7_undo_51 : decode cX7_undo 51 = .ok (.iload_n 2, 1) := by decide +kernel
theorem dX7_undo_52 : decode cX7_undo 52 = .ok (.bastore, 1) := by decide +kernel
theorem dX7_undo_53 : decode cX7_undo 53 = .ok (.aload_n 0, 1) := by decide +kernel
theorem dX7_undo_54 : decode cX7_undo 54 = .ok (.invokevirtual 123, 3) := by decide +kernel
theorem dX7_undo_57 : decode cX7_undo 57 = .ok (.aload_n 0, 1) := by decide +kernel
theorem dX7_undo_58 : decode cX7_undo 58 = .ok (.invokevirtual 126, 3) := by decide +kernel
theorem dX7_undo_61 : decode cX7_undo 61 = .ok (.ireturn, 1) := by decide +kernel
theorem dX7_batches_0 : decode cX7_batches 0 = .ok (.aload_n 0, 1) := by decide +kernel
theorem dX7_batches_1 : decode cX7_batches 1 = .ok (.iconst 0, 1) := by decide +kernel
theorem dX7_batches_2 : decode cX7_batches 2 = .ok (.putfield 74, 3) := by decide +kernel
theorem dX7_batches_5 : decode cX7_batches 5 = .ok (.aload_n 0, 1) := by decide +kernel
theorem dX7_batches_6 : decode cX7_batches 6 = .ok (.getfield 109, 3) := by decide +kernel
theorem dX7_batches_9 : decode cX7_batches 9 = .ok (.ireturn, 1) := by decide +kernel
theorem dX7_loads_0 : decode cX7_loads 0 = .ok (.aload_n 0, 1) := by decide +kernel
theorem dX7_loads_1 : decode cX7_loads 1 = .ok (.iconst 0, 1) := by decide +kernel
theorem dX7_loads_2 : decode cX7_loads 2 = .ok (.putfield 74, 3) := by decide +kernel
theorem dX7_loads_5 : decode cX7_loads 5 = .ok (.aload_n 0, 1) := by decide +kernel
theorem dX7_loads_6 : decode cX7_loads 6 = .ok (.getfield 82, 3) := by decide +kernel
theorem dX7_loads_9 : decode cX7_loads 9 = .ok (.ireturn, 1) := by decide +kernel
set_option maxRecDepth 20000 in
theorem ggX7_records_X7_recordMany : GoodIn wsX7_records wsX7_recordMany := goodIn_r _ [6, 7, 8, 9, 10, 11, 12, 13, 14, 15, 16, 17, 18, 19, 20, 21, 22, 23, 24, 25, 26, 27, 28, 29, 30, 31, 32] (by decide +kernel) (by decide +kernel)
set_option maxRecDepth 20000 in
theorem gX7_records_X7_recordMany : GoodIn wsX7_records (wsV RX7 126 RX7 yX7_recordMany wsX7_recordMany) := goodIn_app (goodIn_of _ (by decide +kernel)) ggX7_records_X7_recordMany
theorem dX7_records_0 : decode cX7_records 0 = .ok (.aload_n 0, 1) := by decide +kernel
theorem dX7_records_1 : decode cX7_records 1 = .ok (.iconst 0, 1) := by decide +kernel
theorem dX7_records_2 : decode cX7_records 2 = .ok (.putfield 74, 3) := by decide +kernel
theorem dX7_records_5 : decode cX7_records 5 = .ok (.aload_n 0, 1) := by decide +kernel
theorem dX7_records_6 : decode cX7_records 6 = .ok (.invokevirtual 126, 3) := by decide +kernel
theorem dX7_records_9 : decode cX7_records 9 = .ok (.ireturn, 1) := by decide +kernel
set_option maxRecDepth 20000 in
theorem ggX7_isUndone_X7_in : GoodIn wsX7_isUndone wsX7_in := goodIn_r _ [7] (by decide +kernel) (by decide +kernel)
set_option maxRecDepth 20000 in
theorem gX7_isUndone_X7_in : GoodIn wsX7_isUndone (va_wsS RX7 78 yX7_in wsX7_in) := goodIn_app (goodIn_of _ (by decide +kernel)) ggX7_isUndone_X7_in
theorem dX7_isUndone_0 : decode cX7_isUndone 0 = .ok (.aload_n 0, 1) := by decide +kernel
theorem dX7_isUndone_1 : decode cX7_isUndone 1 = .ok (.iload_n 1, 1) := by decide +kernel
theorem dX7_isUndone_2 : decode cX7_isUndone 2 = .ok (.iconst 0, 1) := by decide +kernel
theorem dX7_isUndone_3 : decode cX7_isUndone 3 = .ok (.aload_n 0, 1) := by decide +kernel
theorem dX7_isUndone_4 : decode cX7_isUndone 4 = .ok (.getfield 109, 3) := by decide +kernel
theorem dX7_isUndone_7 : decode cX7_isUndone 7 = .ok (.iconst 1, 1) := by decide +kernel
theorem dX7_isUndone_8 : decode cX7_isUndone 8 = .ok (.isub, 1) := by decide +kernel
theorem dX7_isUndone_9 : decode cX7_isUndone 9 = .ok (.invokestatic 78, 3) := by decide +kernel
theorem dX7_isUndone_12 : decode cX7_isUndone 12 = .ok (.ifCond .eq 7, 3) := by decide +kernel
theorem dX7_isUndone_15 : decode cX7_isUndone 15 = .ok (.iconst 0, 1) := by decide +kernel
theorem dX7_isUndone_16 : decode cX7_isUndone 16 = .ok (.goto 4, 3) := by decide +kernel
theorem dX7_isUndone_19 : decode cX7_isUndone 19 = .ok (.iconst 1, 1) := by decide +kernel
theorem dX7_isUndone_20 : decode cX7_isUndone 20 = .ok (.putfield 74, 3) := by decide +kernel
theorem dX7_isUndone_23 : decode cX7_isUndone 23 = .ok (.aload_n 0, 1) := by decide +kernel
theorem dX7_isUndone_24 : decode cX7_isUndone 24 = .ok (.getfield 74, 3) := by decide +kernel
theorem dX7_isUndone_27 : decode cX7_isUndone 27 = .ok (.ifCond .ne 16, 3) := by decide +kernel
theorem dX7_isUndone_30 : decode cX7_isUndone 30 = .ok (.aload_n 0, 1) := by decide +kernel
theorem dX7_isUndone_31 : decode cX7_isUndone 31 = .ok (.getfield 25, 3) := by decide +kernel
theorem dX7_isUndone_34 : decode cX7_isUndone 34 = .ok (.iload_n 1, 1) := by decide +kernel
theorem dX7_isUndone_35 : decode cX7_isUndone 35 = .ok (.baload, 1) := by decide +kernel
theorem dX7_isUndone_36 : decode cX7_isUndone 36 = .ok (.ifCond .eq 7, 3) := by decide +kernel
theorem dX7_isUndone_39 : decode cX7_isUndone 39 = .ok (.iconst 1, 1) := by decide +kernel
theorem dX7_isUndone_40 : decode cX7_isUndone 40 = .ok (.goto 4, 3) := by decide +kernel
theorem dX7_isUndone_43 : decode cX7_isUndone 43 = .ok (.iconst 0, 1) := by decide +kernel
theorem dX7_isUndone_44 : decode cX7_isUndone 44 = .ok (.ireturn, 1) := by decide +kernel
set_option maxRecDepth 20000 in
theorem ggX7_isThere_X7_isRecord : GoodIn wsX7_isThere wsX7_isRecord := goodIn_r _ [6, 7, 8, 9, 5, 10, 11, 12, 13, 14, 15, 16, 17, 18, 19, 20, 21, 22, 23, 24, 25, 26, 27, 28, 29, 30, 31, 32, 33, 34, 35] (by decide +kernel) (by decide +kernel)
set_option maxRecDepth 20000 in
theorem gX7_isThere_X7_isRecord : GoodIn wsX7_isThere (wsV RX7 116 RX7 yX7_isRecord wsX7_isRecord) := goodIn_app (goodIn_of _ (by decide +kernel)) ggX7_isThere_X7_isRecord
theorem dX7_isThere_0 : decode cX7_isThere 0 = .ok (.aload_n 0, 1) := by decide +kernel
theorem dX7_isThere_1 : decode cX7_isThere 1 = .ok (.iconst 0, 1) := by decide +kernel
theorem dX7_isThere_2 : decode cX7_isThere 2 = .ok (.putfield 74, 3) := by decide +kernel
theorem dX7_isThere_5 : decode cX7_isThere 5 = .ok (.aload_n 0, 1) := by decide +kernel
theorem dX7_isThere_6 : decode cX7_isThere 6 = .ok (.iload_n 1, 1) := by decide +kernel
theorem dX7_isThere_7 : decode cX7_isThere 7 = .ok (.invokevirtual 116, 3) := by decide +kernel
theorem dX7_isThere_10 : decode cX7_isThere 10 = .ok (.ireturn, 1) := by decide +kernel
set_option maxRecDepth 20000 in
theorem ggX7_hit_X7_in : GoodIn wsX7_hit wsX7_in := goodIn_r _ [7] (by decide +kernel) (by decide +kernel)
set_option maxRecDepth 20000 in
theorem gX7_hit_X7_in : GoodIn wsX7_hit (va_wsS RX7 78 yX7_in wsX7_in) := goodIn_app (goodIn_of _ (by decide +kernel)) ggX7_hit_X7_in
theorem dX7_hit_0 : decode cX7_hit 0 = .ok (.aload_n 0, 1) := by decide +kernel
theorem dX7_hit_1 : decode cX7_hit 1 = .ok (.iload_n 1, 1) := by decide +kernel
theorem dX7_hit_2 : decode cX7_hit 2 = .ok (.iconst 0, 1) := by decide +kernel
theorem dX7_hit_3 : decode cX7_hit 3 = .ok (.aload_n 0, 1) := by decide +kernel
theorem dX7_hit_4 : decode cX7_hit 4 = .ok (.getfield 82, 3) := by decide +kernel
theorem dX7_hit_7 : decode cX7_hit 7 = .ok (.iconst 1, 1) := by decide +kernel
theorem dX7_hit_8 : decode cX7_hit 8 = .ok (.isub, 1) := by decide +kernel
theorem dX7_hit_9 : decode cX7_hit 9 = .ok (.invokestatic 78, 3) := by decide +kernel
theorem dX7_hit_12 : decode cX7_hit 12 = .ok (.ifCond .eq 7, 3) := by decide +kernel
theorem dX7_hit_15 : decode cX7_hit 15 = .ok (.iconst 0, 1) := by decide +kernel
theorem dX7_hit_16 : decode cX7_hit 16 = .ok (.goto 4, 3) := by decide +kernel
theorem dX7_hit_19 : decode cX7_hit 19 = .ok (.iconst 1, 1) := by decide +kernel
theorem dX7_hit_20 : decode cX7_hit 20 = .ok (.putfield 74, 3) := by decide +kernel
theorem dX7_hit_23 : decode cX7_hit 23 = .ok (.aload_n 0, 1) := by decide +kernel
theorem dX7_hit_24 : decode cX7_hit 24 = .ok (.getfield 74, 3) := by decide +kernel
theorem dX7_hit_27 : decode cX7_hit 27 = .ok (.ifCond .ne 12, 3) := by decide +kernel
theorem dX7_hit_30 : decode cX7_hit 30 = .ok (.aload_n 0, 1) := by decide +kernel
theorem dX7_hit_31 : decode cX7_hit 31 = .ok (.getfield 41, 3) := by decide +kernel
theorem dX7_hit_34 : decode cX7_hit 34 = .ok (.iload_n 1, 1) := by decide +kernel
theorem dX7_hit_35 : decode cX7_hit 35 = .ok (.iaload, 1) := by decide +kernel
theorem dX7_hit_36 : decode cX7_hit 36 = .ok (.goto 4, 3) := by decide +kernel
theorem dX7_hit_39 : decode cX7_hit 39 = .ok (.iconst 0, 1) := by decide +kernel
theorem dX7_hit_40 : decode cX7_hit 40 = .ok (.ireturn, 1) := by decide +kernel
set_option maxRecDepth 20000 in
theorem ggX7_keyOf_X7_isRecord : GoodIn wsX7_keyOf wsX7_isRecord := goodIn_r _ [7, 8, 9, 10, 6, 11, 12, 13, 14, 15, 16, 17, 18, 19, 20, 21, 22, 23, 24, 25, 26, 27, 28, 29, 30, 31, 32, 33, 34, 35, 36] (by decide +kernel) (by decide +kernel)
set_option maxRecDepth 20000 in
theorem gX7_keyOf_X7_isRecord : GoodIn wsX7_keyOf (wsV RX7 116 RX7 yX7_isRecord wsX7_isRecord) := goodIn_app (goodIn_of _ (by decide +kernel)) ggX7_keyOf_X7_isRecord
set_option maxRecDepth 20000 in
theorem ggX7_keyOf_X7_in : GoodIn wsX7_keyOf wsX7_in := goodIn_r _ [11] (by decide +kernel) (by decide +kernel)
set_option maxRecDepth 20000 in
theorem gX7_keyOf_X7_in : GoodIn wsX7_keyOf (va_wsS RX7 78 yX7_in wsX7_in) := goodIn_app (goodIn_of _ (by decide +kernel)) ggX7_keyOf_X7_in
theorem dX7_keyOf_0 : decode cX7_keyOf 0 = .ok (.aload_n 0, 1) := by decide +kernel
theorem dX7_keyOf_1 : decode cX7_keyOf 1 = .ok (.aload_n 0, 1) := by decide +kernel
theorem dX7_keyOf_2 : decode cX7_keyOf 2 = .ok (.iload_n 1, 1) := by decide +kernel
theorem dX7_keyOf_3 : decode cX7_keyOf 3 = .ok (.invokevirtual 116, 3) := by decide +kernel
theorem dX7_keyOf_6 : decode cX7_keyOf 6 = .ok (.ifCond .eq 16, 3) := by decide +kernel
theorem dX7_keyOf_9 : decode cX7_keyOf 9 = .ok (.iload_n 2, 1) := by decide +kernel
theorem dX7_keyOf_10 : decode cX7_keyOf 10 = .ok (.iconst 0, 1) := by decide +kernel
theorem dX7_keyOf_11 : decode cX7_keyOf 11 = .ok (.iconst 2, 1) := by decide +kernel
theorem dX7_keyOf_12 : decode cX7_keyOf 12 = .ok (.invokestatic 78, 3) := by decide +kernel
theorem dX7_keyOf_15 : decode cX7_keyOf 15 = .ok (.ifCond .eq 7, 3) := by decide +kernel
theorem dX7_keyOf_18 : decode cX7_keyOf 18 = .ok (.iconst 0, 1) := by decide +kernel
theorem dX7_keyOf_19 : decode cX7_keyOf 19 = .ok (.goto 4, 3) := by decide +kernel
theorem dX7_keyOf_22 : decode cX7_keyOf 22 = .ok (.iconst 1, 1) := by decide +kernel
theorem dX7_keyOf_23 : decode cX7_keyOf 23 = .ok (.putfield 74, 3) := by decide +kernel
theorem dX7_keyOf_26 : decode cX7_keyOf 26 = .ok (.aload_n 0, 1) := by decide +kernel
theorem dX7_keyOf_27 : decode cX7_keyOf 27 = .ok (.getfield 74, 3) := by decide +kernel
theorem dX7_keyOf_30 : decode cX7_keyOf 30 = .ok (.ifCond .ne 16, 3) := by decide +kernel
theorem dX7_keyOf_33 : decode cX7_keyOf 33 = .ok (.aload_n 0, 1) := by decide +kernel
theorem dX7_keyOf_34 : decode cX7_keyOf 34 = .ok (.getfield 56, 3) := by decide +kernel
theorem dX7_keyOf_37 : decode cX7_keyOf 37 = .ok (.iconst 3, 1) := by decide +kernel
theorem dX7_keyOf_38 : decode cX7_keyOf 38 = .ok (.iload_n 1, 1) := by decide +kernel
theorem dX7_keyOf_39 : decode cX7_keyOf 39 = .ok (.imul, 1) := by decide +kernel
theorem dX7_keyOf_40 : decode cX7_keyOf 40 = .ok (.iload_n 2, 1) := by decide +kernel
theorem dX7_keyOf_41 : decode cX7_keyOf 41 = .ok (.iadd, 1) := by decide +kernel
theorem dX7_keyOf_42 : decode cX7_keyOf 42 = .ok (.iaload, 1) := by decide +kernel
theorem dX7_keyOf_43 : decode cX7_keyOf 43 = .ok (.goto 4, 3) := by decide +kernel
theorem dX7_keyOf_46 : decode cX7_keyOf 46 = .ok (.iconst 0, 1) := by decide +kernel
theorem dX7_keyOf_47 : decode cX7_keyOf 47 = .ok (.ireturn, 1) := by decide +kernel
set_option maxRecDepth 20000 in
theorem ggX7_fieldOf_X7_isRecord : GoodIn wsX7_fieldOf wsX7_isRecord := goodIn_r _ [7, 8, 9, 10, 6, 11, 12, 13, 14, 15, 16, 17, 18, 19, 20, 21, 22, 23, 24, 25, 26, 27, 28, 29, 30, 31, 32, 33, 34, 35, 36] (by decide +kernel) (by decide +kernel)
set_option maxRecDepth 20000 in
theorem gX7_fieldOf_X7_isRecord : GoodIn wsX7_fieldOf (wsV RX7 116 RX7 yX7_isRecord wsX7_isRecord) := goodIn_app (goodIn_of _ (by decide +kernel)) ggX7_fieldOf_X7_isRecord
set_option maxRecDepth 20000 in
theorem ggX7_fieldOf_X7_in : GoodIn wsX7_fieldOf wsX7_in := goodIn_r _ [11] (by decide +kernel) (by decide +kernel)
set_option maxRecDepth 20000 in
theorem gX7_fieldOf_X7_in : GoodIn wsX7_fieldOf (va_wsS RX7 78 yX7_in wsX7_in) := goodIn_app (goodIn_of _ (by decide +kernel)) ggX7_fieldOf_X7_in
theorem dX7_fieldOf_0 : decode cX7_fieldOf 0 = .ok (.aload_n 0, 1) := by decide +kernel
theorem dX7_fieldOf_1 : decode cX7_fieldOf 1 = .ok (.aload_n 0, 1) := by decide +kernel
theorem dX7_fieldOf_2 : decode cX7_fieldOf 2 = .ok (.iload_n 1, 1) := by decide +kernel
theorem dX7_fieldOf_3 : decode cX7_fieldOf 3 = .ok (.invokevirtual 116, 3) := by decide +kernel
theorem dX7_fieldOf_6 : decode cX7_fieldOf 6 = .ok (.ifCond .eq 16, 3) := by decide +kernel
theorem dX7_fieldOf_9 : decode cX7_fieldOf 9 = .ok (.iload_n 2, 1) := by decide +kernel
theorem dX7_fieldOf_10 : decode cX7_fieldOf 10 = .ok (.iconst 0, 1) := by decide +kernel
theorem dX7_fieldOf_11 : decode cX7_fieldOf 11 = .ok (.iconst 3, 1) := by decide +kernel
theorem dX7_fieldOf_12 : decode cX7_fieldOf 12 = .ok (.invokestatic 78, 3) := by decide +kernel
theorem dX7_fieldOf_15 : decode cX7_fieldOf 15 = .ok (.ifCond .eq 7, 3) := by decide +kernel
theorem dX7_fieldOf_18 : decode cX7_fieldOf 18 = .ok (.iconst 0, 1) := by decide +kernel
theorem dX7_fieldOf_19 : decode cX7_fieldOf 19 = .ok (.goto 4, 3) := by decide +kernel
theorem dX7_fieldOf_22 : decode cX7_fieldOf 22 = .ok (.iconst 1, 1) := by decide +kernel
theorem dX7_fieldOf_23 : decode cX7_fieldOf 23 = .ok (.putfield 74, 3) := by decide +kernel
theorem dX7_fieldOf_26 : decode cX7_fieldOf 26 = .ok (.aload_n 0, 1) := by decide +kernel
theorem dX7_fieldOf_27 : decode cX7_fieldOf 27 = .ok (.getfield 74, 3) := by decide +kernel
theorem dX7_fieldOf_30 : decode cX7_fieldOf 30 = .ok (.ifCond .ne 16, 3) := by decide +kernel
theorem dX7_fieldOf_33 : decode cX7_fieldOf 33 = .ok (.aload_n 0, 1) := by decide +kernel
theorem dX7_fieldOf_34 : decode cX7_fieldOf 34 = .ok (.getfield 59, 3) := by decide +kernel
theorem dX7_fieldOf_37 : decode cX7_fieldOf 37 = .ok (.iconst 4, 1) := by decide +kernel
theorem dX7_fieldOf_38 : decode cX7_fieldOf 38 = .ok (.iload_n 1, 1) := by decide +kernel
theorem dX7_fieldOf_39 : decode cX7_fieldOf 39 = .ok (.imul, 1) := by decide +kernel
theorem dX7_fieldOf_40 : decode cX7_fieldOf 40 = .ok (.iload_n 2, 1) := by decide +kernel
theorem dX7_fieldOf_41 : decode cX7_fieldOf 41 = .ok (.iadd, 1) := by decide +kernel
theorem dX7_fieldOf_42 : decode cX7_fieldOf 42 = .ok (.iaload, 1) := by decide +kernel
theorem dX7_fieldOf_43 : decode cX7_fieldOf 43 = .ok (.goto 4, 3) := by decide +kernel
theorem dX7_fieldOf_46 : decode cX7_fieldOf 46 = .ok (.iconst 0, 1) := by decide +kernel
theorem dX7_fieldOf_47 : decode cX7_fieldOf 47 = .ok (.ireturn, 1) := by decide +kernel
set_option maxRecDepth 20000 in
theorem ggX7_sourceOf_X7_isRecord : GoodIn wsX7_sourceOf wsX7_isRecord := goodIn_r _ [7, 8, 9, 10, 6, 11, 12, 13, 14, 15, 16, 17, 18, 19, 20, 21, 22, 23, 24, 25, 26, 27, 28, 29, 30, 31, 32, 33, 34, 35, 36] (by decide +kernel) (by decide +kernel)
set_option maxRecDepth 20000 in
theorem gX7_sourceOf_X7_isRecord : GoodIn wsX7_sourceOf (wsV RX7 116 RX7 yX7_isRecord wsX7_isRecord) := goodIn_app (goodIn_of _ (by decide +kernel)) ggX7_sourceOf_X7_isRecord
set_option maxRecDepth 20000 in
theorem ggX7_sourceOf_X7_in : GoodIn wsX7_sourceOf wsX7_in := goodIn_r _ [11] (by decide +kernel) (by decide +kernel)
set_option maxRecDepth 20000 in
theorem gX7_sourceOf_X7_in : GoodIn wsX7_sourceOf (va_wsS RX7 78 yX7_in wsX7_in) := goodIn_app (goodIn_of _ (by decide +kernel)) ggX7_sourceOf_X7_in
theorem dX7_sourceOf_0 : decode cX7_sourceOf 0 = .ok (.aload_n 0, 1) := by decide +kernel
theorem dX7_sourceOf_1 : decode cX7_sourceOf 1 = .ok (.aload_n 0, 1) := by decide +kernel
theorem dX7_sourceOf_2 : decode cX7_sourceOf 2 = .ok (.iload_n 1, 1) := by decide +kernel
theorem dX7_sourceOf_3 : decode cX7_sourceOf 3 = .ok (.invokevirtual 116, 3) := by decide +kernel
theorem dX7_sourceOf_6 : decode cX7_sourceOf 6 = .ok (.ifCond .eq 16, 3) := by decide +kernel
theorem dX7_sourceOf_9 : decode cX7_sourceOf 9 = .ok (.iload_n 2, 1) := by decide +kernel
theorem dX7_sourceOf_10 : decode cX7_sourceOf 10 = .ok (.iconst 0, 1) := by decide +kernel
theorem dX7_sourceOf_11 : decode cX7_sourceOf 11 = .ok (.iconst 3, 1) := by decide +kernel
theorem dX7_sourceOf_12 : decode cX7_sourceOf 12 = .ok (.invokestatic 78, 3) := by decide +kernel
theorem dX7_sourceOf_15 : decode cX7_sourceOf 15 = .ok (.ifCond .eq 7, 3) := by decide +kernel
theorem dX7_sourceOf_18 : decode cX7_sourceOf 18 = .ok (.iconst 0, 1) := by decide +kernel
theorem dX7_sourceOf_19 : decode cX7_sourceOf 19 = .ok (.goto 4, 3) := by decide +kernel
theorem dX7_sourceOf_22 : decode cX7_sourceOf 22 = .ok (.iconst 1, 1) := by decide +kernel
theorem dX7_sourceOf_23 : decode cX7_sourceOf 23 = .ok (.putfield 74, 3) := by decide +kernel
theorem dX7_sourceOf_26 : decode cX7_sourceOf 26 = .ok (.aload_n 0, 1) := by decide +kernel
theorem dX7_sourceOf_27 : decode cX7_sourceOf 27 = .ok (.getfield 74, 3) := by decide +kernel
theorem dX7_sourceOf_30 : decode cX7_sourceOf 30 = .ok (.ifCond .ne 16, 3) := by decide +kernel
theorem dX7_sourceOf_33 : decode cX7_sourceOf 33 = .ok (.aload_n 0, 1) := by decide +kernel
theorem dX7_sourceOf_34 : decode cX7_sourceOf 34 = .ok (.getfield 62, 3) := by decide +kernel
theorem dX7_sourceOf_37 : decode cX7_sourceOf 37 = .ok (.iconst 4, 1) := by decide +kernel
theorem dX7_sourceOf_38 : decode cX7_sourceOf 38 = .ok (.iload_n 1, 1) := by decide +kernel
theorem dX7_sourceOf_39 : decode cX7_sourceOf 39 = .ok (.imul, 1) := by decide +kernel
theorem dX7_sourceOf_40 : decode cX7_sourceOf 40 = .ok (.iload_n 2, 1) := by decide +kernel
theorem dX7_sourceOf_41 : decode cX7_sourceOf 41 = .ok (.iadd, 1) := by decide +kernel
theorem dX7_sourceOf_42 : decode cX7_sourceOf 42 = .ok (.iaload, 1) := by decide +kernel
theorem dX7_sourceOf_43 : decode cX7_sourceOf 43 = .ok (.goto 4, 3) := by decide +kernel
theorem dX7_sourceOf_46 : decode cX7_sourceOf 46 = .ok (.iconst 0, 1) := by decide +kernel
theorem dX7_sourceOf_47 : decode cX7_sourceOf 47 = .ok (.ireturn, 1) := by decide +kernel
set_option maxRecDepth 20000 in
theorem ggX7_holdings_X7_isRecord : GoodIn wsX7_holdings wsX7_isRecord := goodIn_r _ [7, 8, 9, 10, 6, 11, 12, 13, 14, 15, 16, 17, 18, 19, 20, 21, 22, 23, 24, 25, 26, 27, 28, 29, 30, 31, 32, 33, 34, 35, 36] (by decide +kernel) (by decide +kernel)
set_option maxRecDepth 20000 in
theorem gX7_holdings_X7_isRecord : GoodIn wsX7_holdings (wsV RX7 116 RX7 yX7_isRecord wsX7_isRecord) := goodIn_app (goodIn_of _ (by decide +kernel)) ggX7_holdings_X7_isRecord
theorem dX7_holdings_0 : decode cX7_holdings 0 = .ok (.aload_n 0, 1) := by decide +kernel
theorem dX7_holdings_1 : decode cX7_holdings 1 = .ok (.aload_n 0, 1) := by decide +kernel
theorem dX7_holdings_2 : decode cX7_holdings 2 = .ok (.iload_n 1, 1) := by decide +kernel
theorem dX7_holdings_3 : decode cX7_holdings 3 = .ok (.invokevirtual 116, 3) := by decide +kernel
theorem dX7_holdings_6 : decode cX7_holdings 6 = .ok (.ifCond .eq 7, 3) := by decide +kernel
theorem dX7_holdings_9 : decode cX7_holdings 9 = .ok (.iconst 0, 1) := by decide +kernel
theorem dX7_holdings_10 : decode cX7_holdings 10 = .ok (.goto 4, 3) := by decide +kernel
theorem dX7_holdings_13 : decode cX7_holdings 13 = .ok (.iconst 1, 1) := by decide +kernel
theorem dX7_holdings_14 : decode cX7_holdings 14 = .ok (.putfield 74, 3) := by decide +kernel
theorem dX7_holdings_17 : decode cX7_holdings 17 = .ok (.aload_n 0, 1) := by decide +kernel
theorem dX7_holdings_18 : decode cX7_holdings 18 = .ok (.getfield 74, 3) := by decide +kernel
theorem dX7_holdings_21 : decode cX7_holdings 21 = .ok (.ifCond .ne 12, 3) := by decide +kernel
theorem dX7_holdings_24 : decode cX7_holdings 24 = .ok (.aload_n 0, 1) := by decide +kernel
theorem dX7_holdings_25 : decode cX7_holdings 25 = .ok (.getfield 68, 3) := by decide +kernel
theorem dX7_holdings_28 : decode cX7_holdings 28 = .ok (.iload_n 1, 1) := by decide +kernel
theorem dX7_holdings_29 : decode cX7_holdings 29 = .ok (.iaload, 1) := by decide +kernel
theorem dX7_holdings_30 : decode cX7_holdings 30 = .ok (.goto 4, 3) := by decide +kernel
theorem dX7_holdings_33 : decode cX7_holdings 33 = .ok (.iconst 0, 1) := by decide +kernel
theorem dX7_holdings_34 : decode cX7_holdings 34 = .ok (.ireturn, 1) := by decide +kernel
theorem dX7_sum_0 : decode cX7_sum 0 = .ok (.iconst 0, 1) := by decide +kernel
theorem dX7_sum_1 : decode cX7_sum 1 = .ok (.istore_n 1, 1) := by decide +kernel
theorem dX7_sum_2 : decode cX7_sum 2 = .ok (.iconst 0, 1) := by decide +kernel
theorem dX7_sum_3 : decode cX7_sum 3 = .ok (.istore_n 2, 1) := by decide +kernel
theorem dX7_sum_4 : decode cX7_sum 4 = .ok (.iload_n 2, 1) := by decide +kernel
theorem dX7_sum_5 : decode cX7_sum 5 = .ok (.bipush 80, 2) := by decide +kernel
theorem dX7_sum_7 : decode cX7_sum 7 = .ok (.if_icmp .ge 135, 3) := by decide +kernel
theorem dX7_sum_10 : decode cX7_sum 10 = .ok (.iconst 0, 1) := by decide +kernel
theorem dX7_sum_11 : decode cX7_sum 11 = .ok (.istore_n 3, 1) := by decide +kernel
theorem dX7_sum_12 : decode cX7_sum 12 = .ok (.iconst 0, 1) := by decide +kernel
theorem dX7_sum_13 : decode cX7_sum 13 = .ok (.istore 4, 2) := by decide +kernel
theorem dX7_sum_15 : decode cX7_sum 15 = .ok (.iload 4, 2) := by decide +kernel
theorem dX7_sum_17 : decode cX7_sum 17 = .ok (.iconst 3, 1) := by decide +kernel
theorem dX7_sum_18 : decode cX7_sum 18 = .ok (.if_icmp .ge 42, 3) := by decide +kernel
theorem dX7_sum_21 : decode cX7_sum 21 = .ok (.iload_n 3, 1) := by decide +kernel
theorem dX7_sum_22 : decode cX7_sum 22 = .ok (.aload_n 0, 1) := by decide +kernel
theorem dX7_sum_23 : decode cX7_sum 23 = .ok (.getfield 56, 3) := by decide +kernel
theorem dX7_sum_26 : decode cX7_sum 26 = .ok (.iconst 3, 1) := by decide +kernel
theorem dX7_sum_27 : decode cX7_sum 27 = .ok (.iload_n 2, 1) := by decide +kernel
theorem dX7_sum_28 : decode cX7_sum 28 = .ok (.imul, 1) := by decide +kernel
theorem dX7_sum_29 : decode cX7_sum 29 = .ok (.iload 4, 2) := by decide +kernel
theorem dX7_sum_31 : decode cX7_sum 31 = .ok (.iadd, 1) := by decide +kernel
theorem dX7_sum_32 : decode cX7_sum 32 = .ok (.iaload, 1) := by decide +kernel
theorem dX7_sum_33 : decode cX7_sum 33 = .ok (.iconst (-1), 1) := by decide +kernel
theorem dX7_sum_34 : decode cX7_sum 34 = .ok (.if_icmp .ne 7, 3) := by decide +kernel
theorem dX7_sum_37 : decode cX7_sum 37 = .ok (.iconst 0, 1) := by decide +kernel
theorem dX7_sum_38 : decode cX7_sum 38 = .ok (.goto 14, 3) := by decide +kernel
theorem dX7_sum_41 : decode cX7_sum 41 = .ok (.aload_n 0, 1) := by decide +kernel
theorem dX7_sum_42 : decode cX7_sum 42 = .ok (.getfield 56, 3) := by decide +kernel
theorem dX7_sum_45 : decode cX7_sum 45 = .ok (.iconst 3, 1) := by decide +kernel
theorem dX7_sum_46 : decode cX7_sum 46 = .ok (.iload_n 2, 1) := by decide +kernel
theorem dX7_sum_47 : decode cX7_sum 47 = .ok (.imul, 1) := by decide +kernel
theorem dX7_sum_48 : decode cX7_sum 48 = .ok (.iload 4, 2) := by decide +kernel
theorem dX7_sum_50 : decode cX7_sum 50 = .ok (.iadd, 1) := by decide +kernel
theorem dX7_sum_51 : decode cX7_sum 51 = .ok (.iaload, 1) := by decide +kernel
theorem dX7_sum_52 : decode cX7_sum 52 = .ok (.iadd, 1) := by decide +kernel
theorem dX7_sum_53 : decode cX7_sum 53 = .ok (.istore_n 3, 1) := by decide +kernel
theorem dX7_sum_54 : decode cX7_sum 54 = .ok (.iinc 4 1, 3) := by decide +kernel
theorem dX7_sum_57 : decode cX7_sum 57 = .ok (.goto (-42), 3) := by decide +kernel
theorem dX7_sum_60 : decode cX7_sum 60 = .ok (.iconst 0, 1) := by decide +kernel
theorem dX7_sum_61 : decode cX7_sum 61 = .ok (.istore 4, 2) := by decide +kernel
theorem dX7_sum_63 : decode cX7_sum 63 = .ok (.iload 4, 2) := by decide +kernel
theorem dX7_sum_65 : decode cX7_sum 65 = .ok (.iconst 4, 1) := by decide +kernel
theorem dX7_sum_66 : decode cX7_sum 66 = .ok (.if_icmp .ge 42, 3) := by decide +kernel
theorem dX7_sum_69 : decode cX7_sum 69 = .ok (.iload_n 3, 1) := by decide +kernel
theorem dX7_sum_70 : decode cX7_sum 70 = .ok (.aload_n 0, 1) := by decide +kernel
theorem dX7_sum_71 : decode cX7_sum 71 = .ok (.getfield 59, 3) := by decide +kernel
theorem dX7_sum_74 : decode cX7_sum 74 = .ok (.iconst 4, 1) := by decide +kernel
theorem dX7_sum_75 : decode cX7_sum 75 = .ok (.iload_n 2, 1) := by decide +kernel
theorem dX7_sum_76 : decode cX7_sum 76 = .ok (.imul, 1) := by decide +kernel
theorem dX7_sum_77 : decode cX7_sum 77 = .ok (.iload 4, 2) := by decide +kernel
theorem dX7_sum_79 : decode cX7_sum 79 = .ok (.iadd, 1) := by decide +kernel
theorem dX7_sum_80 : decode cX7_sum 80 = .ok (.iaload, 1) := by decide +kernel
theorem dX7_sum_81 : decode cX7_sum 81 = .ok (.iconst (-1), 1) := by decide +kernel
theorem dX7_sum_82 : decode cX7_sum 82 = .ok (.if_icmp .ne 7, 3) := by decide +kernel
theorem dX7_sum_85 : decode cX7_sum 85 = .ok (.iconst 0, 1) := by decide +kernel
theorem dX7_sum_86 : decode cX7_sum 86 = .ok (.goto 14, 3) := by decide +kernel
theorem dX7_sum_89 : decode cX7_sum 89 = .ok (.aload_n 0, 1) := by decide +kernel
theorem dX7_sum_90 : decode cX7_sum 90 = .ok (.getfield 59, 3) := by decide +kernel
theorem dX7_sum_93 : decode cX7_sum 93 = .ok (.iconst 4, 1) := by decide +kernel
theorem dX7_sum_94 : decode cX7_sum 94 = .ok (.iload_n 2, 1) := by decide +kernel
theorem dX7_sum_95 : decode cX7_sum 95 = .ok (.imul, 1) := by decide +kernel
theorem dX7_sum_96 : decode cX7_sum 96 = .ok (.iload 4, 2) := by decide +kernel
theorem dX7_sum_98 : decode cX7_sum 98 = .ok (.iadd, 1) := by decide +kernel
theorem dX7_sum_99 : decode cX7_sum 99 = .ok (.iaload, 1) := by decide +kernel
theorem dX7_sum_100 : decode cX7_sum 100 = .ok (.iadd, 1) := by decide +kernel
theorem dX7_sum_101 : decode cX7_sum 101 = .ok (.istore_n 3, 1) := by decide +kernel
theorem dX7_sum_102 : decode cX7_sum 102 = .ok (.iinc 4 1, 3) := by decide +kernel
theorem dX7_sum_105 : decode cX7_sum 105 = .ok (.goto (-42), 3) := by decide +kernel
theorem dX7_sum_108 : decode cX7_sum 108 = .ok (.iload_n 1, 1) := by decide +kernel
theorem dX7_sum_109 : decode cX7_sum 109 = .ok (.aload_n 0, 1) := by decide +kernel
theorem dX7_sum_110 : decode cX7_sum 110 = .ok (.getfield 53, 3) := by decide +kernel
theorem dX7_sum_113 : decode cX7_sum 113 = .ok (.iload_n 2, 1) := by decide +kernel
theorem dX7_sum_114 : decode cX7_sum 114 = .ok (.baload, 1) := by decide +kernel
theorem dX7_sum_115 : decode cX7_sum 115 = .ok (.ifCond .eq 18, 3) := by decide +kernel
theorem dX7_sum_118 : decode cX7_sum 118 = .ok (.iload_n 3, 1) := by decide +kernel
theorem dX7_sum_119 : decode cX7_sum 119 = .ok (.iconst 1, 1) := by decide +kernel
theorem dX7_sum_120 : decode cX7_sum 120 = .ok (.iload_n 2, 1) := by decide +kernel
theorem dX7_sum_121 : decode cX7_sum 121 = .ok (.iadd, 1) := by decide +kernel
theorem dX7_sum_122 : decode cX7_sum 122 = .ok (.imul, 1) := by decide +kernel
theorem dX7_sum_123 : decode cX7_sum 123 = .ok (.aload_n 0, 1) := by decide +kernel
theorem dX7_sum_124 : decode cX7_sum 124 = .ok (.getfield 68, 3) := by decide +kernel
theorem dX7_sum_127 : decode cX7_sum 127 = .ok (.iload_n 2, 1) := by decide +kernel
theorem dX7_sum_128 : decode cX7_sum 128 = .ok (.iaload, 1) := by decide +kernel
theorem dX7_sum_129 : decode cX7_sum 129 = .ok (.iadd, 1) := by decide +kernel
theorem dX7_sum_130 : decode cX7_sum 130 = .ok (.goto 4, 3) := by decide +kernel
theorem dX7_sum_133 : decode cX7_sum 133 = .ok (.iconst 0, 1) := by decide +kernel
theorem dX7_sum_134 : decode cX7_sum 134 = .ok (.iadd, 1) := by decide +kernel
theorem dX7_sum_135 : decode cX7_sum 135 = .ok (.istore_n 1, 1) := by decide +kernel
theorem dX7_sum_136 : decode cX7_sum 136 = .ok (.iinc 2 1, 3) := by decide +kernel
theorem dX7_sum_139 : decode cX7_sum 139 = .ok (.goto (-135), 3) := by decide +kernel
theorem dX7_sum_142 : decode cX7_sum 142 = .ok (.iload_n 1, 1) := by decide +kernel
theorem dX7_sum_143 : decode cX7_sum 143 = .ok (.ireturn, 1) := by decide +kernel
set_option maxRecDepth 20000 in
theorem ggX7_digest_X7_sum : GoodIn wsX7_digest wsX7_sum := goodIn_r _ [6, 7, 8, 9, 10, 11, 12, 13, 14, 15, 16, 17, 18, 19, 20, 21, 22, 23, 24, 25, 26, 27, 28, 29, 30, 31, 32, 33, 34, 35] (by decide +kernel) (by decide +kernel)
set_option maxRecDepth 20000 in
theorem gX7_digest_X7_sum : GoodIn wsX7_digest (wsV RX7 130 RX7 yX7_sum wsX7_sum) := goodIn_app (goodIn_of _ (by decide +kernel)) ggX7_digest_X7_sum
theorem dX7_digest_0 : decode cX7_digest 0 = .ok (.aload_n 0, 1) := by decide +kernel
theorem dX7_digest_1 : decode cX7_digest 1 = .ok (.iconst 0, 1) := by decide +kernel
theorem dX7_digest_2 : decode cX7_digest 2 = .ok (.putfield 74, 3) := by decide +kernel
theorem dX7_digest_5 : decode cX7_digest 5 = .ok (.aload_n 0, 1) := by decide +kernel
theorem dX7_digest_6 : decode cX7_digest 6 = .ok (.invokevirtual 130, 3) := by decide +kernel
theorem dX7_digest_9 : decode cX7_digest 9 = .ok (.ireturn, 1) := by decide +kernel
set_option maxRecDepth 20000 in
theorem ggX7_digestAnew_X7_makeAnew : GoodIn wsX7_digestAnew wsX7_makeAnew := goodIn_r _ [6, 7, 8, 9, 10, 11, 5, 12, 13, 14, 15, 16, 17, 18, 19, 20, 21, 22, 23, 24, 25, 26, 27, 28, 29, 30, 31, 32, 33, 34, 35, 36, 37, 38, 39, 40, 41, 42, 43, 44, 45, 46, 47, 48, 49, 54, 55, 56, 57, 58, 59, 60, 61, 62, 63, 64, 65, 66, 67, 68, 69, 70, 71, 72, 73, 74, 75, 76, 77, 78] (by decide +kernel) (by decide +kernel)
set_option maxRecDepth 20000 in
theorem gX7_digestAnew_X7_makeAnew : GoodIn wsX7_digestAnew (wsV RX7 123 RX7 yX7_makeAnew wsX7_makeAnew) := goodIn_app (goodIn_of _ (by decide +kernel)) ggX7_digestAnew_X7_makeAnew
set_option maxRecDepth 20000 in
theorem ggX7_digestAnew_X7_sum : GoodIn wsX7_digestAnew wsX7_sum := goodIn_r _ [53, 31, 37, 7, 16, 54, 55, 56, 57, 58, 59, 60, 61, 62, 63, 64, 65, 66, 67, 68, 69, 70, 71, 72, 73, 74, 75, 76, 77, 78] (by decide +kernel) (by decide +kernel)
set_option maxRecDepth 20000 in
theorem gX7_digestAnew_X7_sum : GoodIn wsX7_digestAnew (wsV RX7 130 RX7 yX7_sum wsX7_sum) := goodIn_app (goodIn_of _ (by decide +kernel)) ggX7_digestAnew_X7_sum
theorem dX7_digestAnew_0 : decode cX7_digestAnew 0 = .ok (.aload_n 0, 1) := by decide +kernel
theorem dX7_digestAnew_1 : decode cX7_digestAnew 1 = .ok (.iconst 0, 1) := by decide +kernel
theorem dX7_digestAnew_2 : decode cX7_digestAnew 2 = .ok (.putfield 74, 3) := by decide +kernel
theorem dX7_digestAnew_5 : decode cX7_digestAnew 5 = .ok (.aload_n 0, 1) := by decide +kernel
theorem dX7_digestAnew_6 : decode cX7_digestAnew 6 = .ok (.invokevirtual 123, 3) := by decide +kernel
theorem dX7_digestAnew_9 : decode cX7_digestAnew 9 = .ok (.aload_n 0, 1) := by decide +kernel
theorem dX7_digestAnew_10 : decode cX7_digestAnew 10 = .ok (.invokevirtual 130, 3) := by decide +kernel
theorem dX7_digestAnew_13 : decode cX7_digestAnew 13 = .ok (.ireturn, 1) := by decide +kernel
