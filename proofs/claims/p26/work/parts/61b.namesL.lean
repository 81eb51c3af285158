theorem dL_key_0 : decode cL_key 0 = .ok (.lload_n 0, 1) := by decide +kernel
theorem dL_key_1 : decode cL_key 1 = .ok (.bipush 6, 2) := by decide +kernel
theorem dL_key_3 : decode cL_key 3 = .ok (.iload_n 2, 1) := by decide +kernel
theorem dL_key_4 : decode cL_key 4 = .ok (.imul, 1) := by decide +kernel
theorem dL_key_5 : decode cL_key 5 = .ok (.lshr, 1) := by decide +kernel
theorem dL_key_6 : decode cL_key 6 = .ok (.ldc2_w 7, 3) := by decide +kernel
theorem dL_key_9 : decode cL_key 9 = .ok (.land, 1) := by decide +kernel
theorem dL_key_10 : decode cL_key 10 = .ok (.l2i, 1) := by decide +kernel
theorem dL_key_11 : decode cL_key 11 = .ok (.ireturn, 1) := by decide +kernel
theorem dL_field_0 : decode cL_field 0 = .ok (.lload_n 0, 1) := by decide +kernel
theorem dL_field_1 : decode cL_field 1 = .ok (.bipush 18, 2) := by decide +kernel
theorem dL_field_3 : decode cL_field 3 = .ok (.bipush 7, 2) := by decide +kernel
theorem dL_field_5 : decode cL_field 5 = .ok (.iload_n 2, 1) := by decide +kernel
theorem dL_field_6 : decode cL_field 6 = .ok (.imul, 1) := by decide +kernel
theorem dL_field_7 : decode cL_field 7 = .ok (.iadd, 1) := by decide +kernel
theorem dL_field_8 : decode cL_field 8 = .ok (.lshr, 1) := by decide +kernel
theorem dL_field_9 : decode cL_field 9 = .ok (.ldc2_w 9, 3) := by decide +kernel
theorem dL_field_12 : decode cL_field 12 = .ok (.land, 1) := by decide +kernel
theorem dL_field_13 : decode cL_field 13 = .ok (.l2i, 1) := by decide +kernel
theorem dL_field_14 : decode cL_field 14 = .ok (.ireturn, 1) := by decide +kernel
theorem dL_source_0 : decode cL_source 0 = .ok (.lload_n 0, 1) := by decide +kernel
theorem dL_source_1 : decode cL_source 1 = .ok (.bipush 46, 2) := by decide +kernel
theorem dL_source_3 : decode cL_source 3 = .ok (.iconst 3, 1) := by decide +kernel
theorem dL_source_4 : decode cL_source 4 = .ok (.iload_n 2, 1) := by decide +kernel
theorem dL_source_5 : decode cL_source 5 = .ok (.imul, 1) := by decide +kernel
theorem dL_source_6 : decode cL_source 6 = .ok (.iadd, 1) := by decide +kernel
theorem dL_source_7 : decode cL_source 7 = .ok (.lshr, 1) := by decide +kernel
theorem dL_source_8 : decode cL_source 8 = .ok (.ldc2_w 11, 3) := by decide +kernel
theorem dL_source_11 : decode cL_source 11 = .ok (.land, 1) := by decide +kernel
theorem dL_source_12 : decode cL_source 12 = .ok (.l2i, 1) := by decide +kernel
theorem dL_source_13 : decode cL_source 13 = .ok (.ireturn, 1) := by decide +kernel
theorem dL_isKept_0 : decode cL_isKept 0 = .ok (.lload_n 0, 1) := by decide +kernel
theorem dL_isKept_1 : decode cL_isKept 1 = .ok (.bipush 58, 2) := by decide +kernel
theorem dL_isKept_3 : decode cL_isKept 3 = .ok (.iload_n 2, 1) := by decide +kernel
theorem dL_isKept_4 : decode cL_isKept 4 = .ok (.iadd, 1) := by decide +kernel
theorem dL_isKept_5 : decode cL_isKept 5 = .ok (.lshr, 1) := by decide +kernel
theorem dL_isKept_6 : decode cL_isKept 6 = .ok (.lconst 1, 1) := by decide +kernel
theorem dL_isKept_7 : decode cL_isKept 7 = .ok (.land, 1) := by decide +kernel
theorem dL_isKept_8 : decode cL_isKept 8 = .ok (.lconst 1, 1) := by decide +kernel
theorem dL_isKept_9 : decode cL_isKept 9 = .ok (.lcmp, 1) := by decide +kernel
theorem dL_isKept_10 : decode cL_isKept 10 = .ok (.ifCond .ne 7, 3) := by decide +kernel
theorem dL_isKept_13 : decode cL_isKept 13 = .ok (.iconst 1, 1) := by decide +kernel
theorem dL_isKept_14 : decode cL_isKept 14 = .ok (.goto 4, 3) := by decide +kernel
theorem dL_isKept_17 : decode cL_isKept 17 = .ok (.iconst 0, 1) := by decide +kernel
theorem dL_isKept_18 : decode cL_isKept 18 = .ok (.ireturn, 1) := by decide +kernel
theorem dL_isIn_0 : decode cL_isIn 0 = .ok (.lload_n 0, 1) := by decide +kernel
theorem dL_isIn_1 : decode cL_isIn 1 = .ok (.bipush 62, 2) := by decide +kernel
theorem dL_isIn_3 : decode cL_isIn 3 = .ok (.lshr, 1) := by decide +kernel
theorem dL_isIn_4 : decode cL_isIn 4 = .ok (.lconst 1, 1) := by decide +kernel
theorem dL_isIn_5 : decode cL_isIn 5 = .ok (.land, 1) := by decide +kernel
theorem dL_isIn_6 : decode cL_isIn 6 = .ok (.lconst 1, 1) := by decide +kernel
theorem dL_isIn_7 : decode cL_isIn 7 = .ok (.lcmp, 1) := by decide +kernel
theorem dL_isIn_8 : decode cL_isIn 8 = .ok (.ifCond .ne 7, 3) := by decide +kernel
theorem dL_isIn_11 : decode cL_isIn 11 = .ok (.iconst 1, 1) := by decide +kernel
theorem dL_isIn_12 : decode cL_isIn 12 = .ok (.goto 4, 3) := by decide +kernel
theorem dL_isIn_15 : decode cL_isIn 15 = .ok (.iconst 0, 1) := by decide +kernel
theorem dL_isIn_16 : decode cL_isIn 16 = .ok (.ireturn, 1) := by decide +kernel
theorem dL_withKey_0 : decode cL_withKey 0 = .ok (.lload_n 0, 1) := by decide +kernel
theorem dL_withKey_1 : decode cL_withKey 1 = .ok (.ldc2_w 7, 3) := by decide +kernel
theorem dL_withKey_4 : decode cL_withKey 4 = .ok (.bipush 6, 2) := by decide +kernel
theorem dL_withKey_6 : decode cL_withKey 6 = .ok (.iload_n 2, 1) := by decide +kernel
theorem dL_withKey_7 : decode cL_withKey 7 = .ok (.imul, 1) := by decide +kernel
theorem dL_withKey_8 : decode cL_withKey 8 = .ok (.lshl, 1) := by decide +kernel
theorem dL_withKey_9 : decode cL_withKey 9 = .ok (.ldc2_w 13, 3) := by decide +kernel
theorem dL_withKey_12 : decode cL_withKey 12 = .ok (.lxor, 1) := by decide +kernel
theorem dL_withKey_13 : decode cL_withKey 13 = .ok (.land, 1) := by decide +kernel
theorem dL_withKey_14 : decode cL_withKey 14 = .ok (.iload_n 3, 1) := by decide +kernel
theorem dL_withKey_15 : decode cL_withKey 15 = .ok (.i2l, 1) := by decide +kernel
theorem dL_withKey_16 : decode cL_withKey 16 = .ok (.bipush 6, 2) := by decide +kernel
theorem dL_withKey_18 : decode cL_withKey 18 = .ok (.iload_n 2, 1) := by decide +kernel
theorem dL_withKey_19 : decode cL_withKey 19 = .ok (.imul, 1) := by decide +kernel
theorem dL_withKey_20 : decode cL_withKey 20 = .ok (.lshl, 1) := by decide +kernel
theorem dL_withKey_21 : decode cL_withKey 21 = .ok (.lor, 1) := by decide +kernel
theorem dL_withKey_22 : decode cL_withKey 22 = .ok (.lreturn, 1) := by decide +kernel
theorem dL_withField_0 : decode cL_withField 0 = .ok (.lload_n 0, 1) := by decide +kernel
theorem dL_withField_1 : decode cL_withField 1 = .ok (.ldc2_w 9, 3) := by decide +kernel
theorem dL_withField_4 : decode cL_withField 4 = .ok (.bipush 18, 2) := by decide +kernel
theorem dL_withField_6 : decode cL_withField 6 = .ok (.bipush 7, 2) := by decide +kernel
theorem dL_withField_8 : decode cL_withField 8 = .ok (.iload_n 2, 1) := by decide +kernel
theorem dL_withField_9 : decode cL_withField 9 = .ok (.imul, 1) := by decide +kernel
theorem dL_withField_10 : decode cL_withField 10 = .ok (.iadd, 1) := by decide +kernel
theorem dL_withField_11 : decode cL_withField 11 = .ok (.lshl, 1) := by decide +kernel
theorem dL_withField_12 : decode cL_withField 12 = .ok (.ldc2_w 13, 3) := by decide +kernel
theorem dL_withField_15 : decode cL_withField 15 = .ok (.lxor, 1) := by decide +kernel
theorem dL_withField_16 : decode cL_withField 16 = .ok (.land, 1) := by decide +kernel
theorem dL_withField_17 : decode cL_withField 17 = .ok (.ldc2_w 11, 3) := by decide +kernel
theorem dL_withField_20 : decode cL_withField 20 = .ok (.bipush 46, 2) := by decide +kernel
theorem dL_withField_22 : decode cL_withField 22 = .ok (.iconst 3, 1) := by decide +kernel
theorem dL_withField_23 : decode cL_withField 23 = .ok (.iload_n 2, 1) := by decide +kernel
theorem dL_withField_24 : decode cL_withField 24 = .ok (.imul, 1) := by decide +kernel
theorem dL_withField_25 : decode cL_withField 25 = .ok (.iadd, 1) := by decide +kernel
theorem dL_withField_26 : decode cL_withField 26 = .ok (.lshl, 1) := by decide +kernel
theorem dL_withField_27 : decode cL_withField 27 = .ok (.ldc2_w 13, 3) := by decide +kernel
theorem dL_withField_30 : decode cL_withField 30 = .ok (.lxor, 1) := by decide +kernel
theorem dL_withField_31 : decode cL_withField 31 = .ok (.land, 1) := by decide +kernel
theorem dL_withField_32 : decode cL_withField 32 = .ok (.lstore 5, 2) := by decide +kernel
theorem dL_withField_34 : decode cL_withField 34 = .ok (.lload 5, 2) := by decide +kernel
theorem dL_withField_36 : decode cL_withField 36 = .ok (.iload_n 3, 1) := by decide +kernel
theorem dL_withField_37 : decode cL_withField 37 = .ok (.i2l, 1) := by decide +kernel
theorem dL_withField_38 : decode cL_withField 38 = .ok (.bipush 18, 2) := by decide +kernel
theorem dL_withField_40 : decode cL_withField 40 = .ok (.bipush 7, 2) := by decide +kernel
theorem dL_withField_42 : decode cL_withField 42 = .ok (.iload_n 2, 1) := by decide +kernel
theorem dL_withField_43 : decode cL_withField 43 = .ok (.imul, 1) := by decide +kernel
theorem dL_withField_44 : decode cL_withField 44 = .ok (.iadd, 1) := by decide +kernel
theorem dL_withField_45 : decode cL_withField 45 = .ok (.lshl, 1) := by decide +kernel
theorem dL_withField_46 : decode cL_withField 46 = .ok (.lor, 1) := by decide +kernel
theorem dL_withField_47 : decode cL_withField 47 = .ok (.iload 4, 2) := by decide +kernel
theorem dL_withField_49 : decode cL_withField 49 = .ok (.i2l, 1) := by decide +kernel
theorem dL_withField_50 : decode cL_withField 50 = .ok (.bipush 46, 2) := by decide +kernel
theorem dL_withField_52 : decode cL_withField 52 = .ok (.iconst 3, 1) := by decide +kernel
theorem dL_withField_53 : decode cL_withField 53 = .ok (.iload_n 2, 1) := by decide +kernel
theorem dL_withField_54 : decode cL_withField 54 = .ok (.imul, 1) := by decide +kernel
theorem dL_withField_55 : decode cL_withField 55 = .ok (.iadd, 1) := by decide +kernel
theorem dL_withField_56 : decode cL_withField 56 = .ok (.lshl, 1) := by decide +kernel
theorem dL_withField_57 : decode cL_withField 57 = .ok (.lor, 1) := by decide +kernel
theorem dL_withField_58 : decode cL_withField 58 = .ok (.lreturn, 1) := by decide +kernel
set_option maxRecDepth 20000 in
theorem ggL_hits_L_isIn : GoodIn wsL_hits wsL_isIn := goodIn_r _ [4] (by decide +kernel) (by decide +kernel)
set_option maxRecDepth 20000 in
theorem gL_hits_L_isIn : GoodIn wsL_hits (va_wsS RL 15 yL_isIn wsL_isIn) := goodIn_app (goodIn_of _ (by decide +kernel)) ggL_hits_L_isIn
set_option maxRecDepth 20000 in
theorem ggL_hits_L_key : GoodIn wsL_hits wsL_key := goodIn_r _ [7, 8] (by decide +kernel) (by decide +kernel)
set_option maxRecDepth 20000 in
theorem gL_hits_L_key : GoodIn wsL_hits (va_wsS RL 21 yL_key wsL_key) := goodIn_app (goodIn_of _ (by decide +kernel)) ggL_hits_L_key
theorem dL_hits_0 : decode cL_hits 0 = .ok (.bipush 9, 2) := by decide +kernel
theorem dL_hits_2 : decode cL_hits 2 = .ok (.istore 5, 2) := by decide +kernel
theorem dL_hits_4 : decode cL_hits 4 = .ok (.iload 5, 2) := by decide +kernel
theorem dL_hits_6 : decode cL_hits 6 = .ok (.bipush 12, 2) := by decide +kernel
theorem dL_hits_8 : decode cL_hits 8 = .ok (.if_icmp .ge 130, 3) := by decide +kernel
theorem dL_hits_11 : decode cL_hits 11 = .ok (.iconst 0, 1) := by decide +kernel
theorem dL_hits_12 : decode cL_hits 12 = .ok (.istore 6, 2) := by decide +kernel
theorem dL_hits_14 : decode cL_hits 14 = .ok (.iconst (-1), 1) := by decide +kernel
theorem dL_hits_15 : decode cL_hits 15 = .ok (.istore 7, 2) := by decide +kernel
theorem dL_hits_17 : decode cL_hits 17 = .ok (.iconst 0, 1) := by decide +kernel
theorem dL_hits_18 : decode cL_hits 18 = .ok (.istore 8, 2) := by decide +kernel
theorem dL_hits_20 : decode cL_hits 20 = .ok (.iload 8, 2) := by decide +kernel
theorem dL_hits_22 : decode cL_hits 22 = .ok (.aload_n 1, 1) := by decide +kernel
theorem dL_hits_23 : decode cL_hits 23 = .ok (.iconst 1, 1) := by decide +kernel
theorem dL_hits_24 : decode cL_hits 24 = .ok (.iaload, 1) := by decide +kernel
theorem dL_hits_25 : decode cL_hits 25 = .ok (.if_icmp .ge 88, 3) := by decide +kernel
theorem dL_hits_28 : decode cL_hits 28 = .ok (.aload_n 0, 1) := by decide +kernel
theorem dL_hits_29 : decode cL_hits 29 = .ok (.iload 8, 2) := by decide +kernel
theorem dL_hits_31 : decode cL_hits 31 = .ok (.laload, 1) := by decide +kernel
theorem dL_hits_32 : decode cL_hits 32 = .ok (.invokestatic 15, 3) := by decide +kernel
theorem dL_hits_35 : decode cL_hits 35 = .ok (.ifCond .eq 40, 3) := by decide +kernel
theorem dL_hits_38 : decode cL_hits 38 = .ok (.lload_n 3, 1) := by decide +kernel
theorem dL_hits_39 : decode cL_hits 39 = .ok (.aload_n 2, 1) := by decide +kernel
theorem dL_hits_40 : decode cL_hits 40 = .ok (.iload 5, 2) := by decide +kernel
theorem dL_hits_42 : decode cL_hits 42 = .ok (.iaload, 1) := by decide +kernel
theorem dL_hits_43 : decode cL_hits 43 = .ok (.invokestatic 21, 3) := by decide +kernel
theorem dL_hits_46 : decode cL_hits 46 = .ok (.ifCond .le 29, 3) := by decide +kernel
theorem dL_hits_49 : decode cL_hits 49 = .ok (.aload_n 0, 1) := by decide +kernel
theorem dL_hits_50 : decode cL_hits 50 = .ok (.iload 8, 2) := by decide +kernel
theorem dL_hits_52 : decode cL_hits 52 = .ok (.laload, 1) := by decide +kernel
theorem dL_hits_53 : decode cL_hits 53 = .ok (.aload_n 2, 1) := by decide +kernel
theorem dL_hits_54 : decode cL_hits 54 = .ok (.iload 5, 2) := by decide +kernel
theorem dL_hits_56 : decode cL_hits 56 = .ok (.iaload, 1) := by decide +kernel
theorem dL_hits_57 : decode cL_hits 57 = .ok (.invokestatic 21, 3) := by decide +kernel
theorem dL_hits_60 : decode cL_hits 60 = .ok (.lload_n 3, 1) := by decide +kernel
theorem dL_hits_61 : decode cL_hits 61 = .ok (.aload_n 2, 1) := by decide +kernel
theorem dL_hits_62 : decode cL_hits 62 = .ok (.iload 5, 2) := by decide +kernel
theorem dL_hits_64 : decode cL_hits 64 = .ok (.iaload, 1) := by decide +kernel
theorem dL_hits_65 : decode cL_hits 65 = .ok (.invokestatic 21, 3) := by decide +kernel
theorem dL_hits_68 : decode cL_hits 68 = .ok (.if_icmp .ne 7, 3) := by decide +kernel
theorem dL_hits_71 : decode cL_hits 71 = .ok (.iconst 1, 1) := by decide +kernel
theorem dL_hits_72 : decode cL_hits 72 = .ok (.goto 4, 3) := by decide +kernel
theorem dL_hits_75 : decode cL_hits 75 = .ok (.iconst 0, 1) := by decide +kernel
theorem dL_hits_76 : decode cL_hits 76 = .ok (.istore 9, 2) := by decide +kernel
theorem dL_hits_78 : decode cL_hits 78 = .ok (.iload 6, 2) := by decide +kernel
theorem dL_hits_80 : decode cL_hits 80 = .ok (.iload 9, 2) := by decide +kernel
theorem dL_hits_82 : decode cL_hits 82 = .ok (.ifCond .eq 7, 3) := by decide +kernel
theorem dL_hits_85 : decode cL_hits 85 = .ok (.iconst 1, 1) := by decide +kernel
theorem dL_hits_86 : decode cL_hits 86 = .ok (.goto 4, 3) := by decide +kernel
theorem dL_hits_89 : decode cL_hits 89 = .ok (.iconst 0, 1) := by decide +kernel
theorem dL_hits_90 : decode cL_hits 90 = .ok (.iadd, 1) := by decide +kernel
theorem dL_hits_91 : decode cL_hits 91 = .ok (.istore 6, 2) := by decide +kernel
theorem dL_hits_93 : decode cL_hits 93 = .ok (.iload 9, 2) := by decide +kernel
theorem dL_hits_95 : decode cL_hits 95 = .ok (.ifCond .eq 8, 3) := by decide +kernel
theorem dL_hits_98 : decode cL_hits 98 = .ok (.iload 8, 2) := by decide +kernel
theorem dL_hits_100 : decode cL_hits 100 = .ok (.goto 5, 3) := by decide +kernel
theorem dL_hits_103 : decode cL_hits 103 = .ok (.iload 7, 2) := by decide +kernel
theorem dL_hits_105 : decode cL_hits 105 = .ok (.istore 7, 2) := by decide +kernel
theorem dL_hits_107 : decode cL_hits 107 = .ok (.iinc 8 1, 3) := by decide +kernel
theorem dL_hits_110 : decode cL_hits 110 = .ok (.goto (-90), 3) := by decide +kernel
theorem dL_hits_113 : decode cL_hits 113 = .ok (.iload 6, 2) := by decide +kernel
theorem dL_hits_115 : decode cL_hits 115 = .ok (.ifCond .le 17, 3) := by decide +kernel
theorem dL_hits_118 : decode cL_hits 118 = .ok (.iload 6, 2) := by decide +kernel
theorem dL_hits_120 : decode cL_hits 120 = .ok (.iconst 1, 1) := by decide +kernel
theorem dL_hits_121 : decode cL_hits 121 = .ok (.if_icmp .ne 8, 3) := by decide +kernel
theorem dL_hits_124 : decode cL_hits 124 = .ok (.iload 7, 2) := by decide +kernel
theorem dL_hits_126 : decode cL_hits 126 = .ok (.goto 5, 3) := by decide +kernel
theorem dL_hits_129 : decode cL_hits 129 = .ok (.bipush (-2), 2) := by decide +kernel
theorem dL_hits_131 : decode cL_hits 131 = .ok (.ireturn, 1) := by decide +kernel
theorem dL_hits_132 : decode cL_hits 132 = .ok (.iinc 5 1, 3) := by decide +kernel
theorem dL_hits_135 : decode cL_hits 135 = .ok (.goto (-131), 3) := by decide +kernel
theorem dL_hits_138 : decode cL_hits 138 = .ok (.iconst (-1), 1) := by decide +kernel
theorem dL_hits_139 : decode cL_hits 139 = .ok (.ireturn, 1) := by decide +kernel
set_option maxRecDepth 20000 in
theorem ggL_loads_L_hits : GoodIn wsL_loads wsL_hits := goodIn_r _ [5, 6, 7, 4, 8, 9, 10, 11, 12] (by decide +kernel) (by decide +kernel)
set_option maxRecDepth 20000 in
theorem gL_loads_L_hits : GoodIn wsL_loads (va_wsS RL 25 yL_hits wsL_hits) := goodIn_app (goodIn_of _ (by decide +kernel)) ggL_loads_L_hits
set_option maxRecDepth 20000 in
theorem ggL_loads_L_key : GoodIn wsL_loads wsL_key := goodIn_r _ [11, 12] (by decide +kernel) (by decide +kernel)
set_option maxRecDepth 20000 in
theorem gL_loads_L_key : GoodIn wsL_loads (va_wsS RL 21 yL_key wsL_key) := goodIn_app (goodIn_of _ (by decide +kernel)) ggL_loads_L_key
set_option maxRecDepth 20000 in
theorem ggL_loads_L_withKey : GoodIn wsL_loads wsL_withKey := goodIn_r _ [15, 12, 16] (by decide +kernel) (by decide +kernel)
set_option maxRecDepth 20000 in
theorem gL_loads_L_withKey : GoodIn wsL_loads (va_wsS RL 31 yL_withKey wsL_withKey) := goodIn_app (goodIn_of _ (by decide +kernel)) ggL_loads_L_withKey
set_option maxRecDepth 20000 in
theorem ggL_loads_L_field : GoodIn wsL_loads wsL_field := goodIn_r _ [19, 20] (by decide +kernel) (by decide +kernel)
set_option maxRecDepth 20000 in
theorem gL_loads_L_field : GoodIn wsL_loads (va_wsS RL 35 yL_field wsL_field) := goodIn_app (goodIn_of _ (by decide +kernel)) ggL_loads_L_field
set_option maxRecDepth 20000 in
theorem ggL_loads_L_source : GoodIn wsL_loads wsL_source := goodIn_r _ [23, 24] (by decide +kernel) (by decide +kernel)
set_option maxRecDepth 20000 in
theorem gL_loads_L_source : GoodIn wsL_loads (va_wsS RL 38 yL_source wsL_source) := goodIn_app (goodIn_of _ (by decide +kernel)) ggL_loads_L_source
set_option maxRecDepth 20000 in
theorem ggL_loads_L_isKept : GoodIn wsL_loads wsL_isKept := goodIn_r _ [27] (by decide +kernel) (by decide +kernel)
set_option maxRecDepth 20000 in
theorem gL_loads_L_isKept : GoodIn wsL_loads (va_wsS RL 41 yL_isKept wsL_isKept) := goodIn_app (goodIn_of _ (by decide +kernel)) ggL_loads_L_isKept
set_option maxRecDepth 20000 in
theorem ggL_loads_L_withField : GoodIn wsL_loads wsL_withField := goodIn_r _ [30, 20, 16, 24] (by decide +kernel) (by decide +kernel)
set_option maxRecDepth 20000 in
theorem gL_loads_L_withField : GoodIn wsL_loads (va_wsS RL 45 yL_withField wsL_withField) := goodIn_app (goodIn_of _ (by decide +kernel)) ggL_loads_L_withField
theorem dL_loads_0 : decode cL_loads 0 = .ok (.aload 7, 2) := by decide +kernel
theorem dL_loads_2 : decode cL_loads 2 = .ok (.iconst 0, 1) := by decide +kernel
theorem dL_loads_3 : decode cL_loads 3 = .ok (.iaload, 1) := by decide +kernel
theorem dL_loads_4 : decode cL_loads 4 = .ok (.aload 5, 2) := by decide +kernel
theorem dL_loads_6 : decode cL_loads 6 = .ok (.iload 8, 2) := by decide +kernel
theorem dL_loads_8 : decode cL_loads 8 = .ok (.iaload, 1) := by decide +kernel
theorem dL_loads_9 : decode cL_loads 9 = .ok (.bipush 16, 2) := by decide +kernel
theorem dL_loads_11 : decode cL_loads 11 = .ok (.irem, 1) := by decide +kernel
theorem dL_loads_12 : decode cL_loads 12 = .ok (.ishr, 1) := by decide +kernel
theorem dL_loads_13 : decode cL_loads 13 = .ok (.iconst 1, 1) := by decide +kernel
theorem dL_loads_14 : decode cL_loads 14 = .ok (.iand, 1) := by decide +kernel
theorem dL_loads_15 : decode cL_loads 15 = .ok (.iconst 1, 1) := by decide +kernel
theorem dL_loads_16 : decode cL_loads 16 = .ok (.if_icmp .ne 10, 3) := by decide +kernel
theorem dL_loads_19 : decode cL_loads 19 = .ok (.aload 6, 2) := by decide +kernel
theorem dL_loads_21 : decode cL_loads 21 = .ok (.iload 8, 2) := by decide +kernel
theorem dL_loads_23 : decode cL_loads 23 = .ok (.iconst (-1), 1) := by decide +kernel
theorem dL_loads_24 : decode cL_loads 24 = .ok (.iastore, 1) := by decide +kernel
theorem dL_loads_25 : decode cL_loads 25 = .ok (.return_, 1) := by decide +kernel
theorem dL_loads_26 : decode cL_loads 26 = .ok (.aload_n 0, 1) := by decide +kernel
theorem dL_loads_27 : decode cL_loads 27 = .ok (.aload_n 2, 1) := by decide +kernel
theorem dL_loads_28 : decode cL_loads 28 = .ok (.aload_n 3, 1) := by decide +kernel
theorem dL_loads_29 : decode cL_loads 29 = .ok (.aload 4, 2) := by decide +kernel
theorem dL_loads_31 : decode cL_loads 31 = .ok (.iload 8, 2) := by decide +kernel
theorem dL_loads_33 : decode cL_loads 33 = .ok (.laload, 1) := by decide +kernel
theorem dL_loads_34 : decode cL_loads 34 = .ok (.invokestatic 25, 3) := by decide +kernel
theorem dL_loads_37 : decode cL_loads 37 = .ok (.istore 9, 2) := by decide +kernel
theorem dL_loads_39 : decode cL_loads 39 = .ok (.aload 6, 2) := by decide +kernel
theorem dL_loads_41 : decode cL_loads 41 = .ok (.iload 8, 2) := by decide +kernel
theorem dL_loads_43 : decode cL_loads 43 = .ok (.iload 9, 2) := by decide +kernel
theorem dL_loads_45 : decode cL_loads 45 = .ok (.iconst (-1), 1) := by decide +kernel
theorem dL_loads_46 : decode cL_loads 46 = .ok (.if_icmp .ne 8, 3) := by decide +kernel
theorem dL_loads_49 : decode cL_loads 49 = .ok (.iload 8, 2) := by decide +kernel
theorem dL_loads_51 : decode cL_loads 51 = .ok (.goto 5, 3) := by decide +kernel
theorem dL_loads_54 : decode cL_loads 54 = .ok (.iload 9, 2) := by decide +kernel
theorem dL_loads_56 : decode cL_loads 56 = .ok (.iastore, 1) := by decide +kernel
theorem dL_loads_57 : decode cL_loads 57 = .ok (.iload 9, 2) := by decide +kernel
theorem dL_loads_59 : decode cL_loads 59 = .ok (.iconst (-1), 1) := by decide +kernel
theorem dL_loads_60 : decode cL_loads 60 = .ok (.if_icmp .ne 24, 3) := by decide +kernel
theorem dL_loads_63 : decode cL_loads 63 = .ok (.aload_n 0, 1) := by decide +kernel
theorem dL_loads_64 : decode cL_loads 64 = .ok (.iload 8, 2) := by decide +kernel
theorem dL_loads_66 : decode cL_loads 66 = .ok (.aload 4, 2) := by decide +kernel
theorem dL_loads_68 : decode cL_loads 68 = .ok (.iload 8, 2) := by decide +kernel
theorem dL_loads_70 : decode cL_loads 70 = .ok (.laload, 1) := by decide +kernel
theorem dL_loads_71 : decode cL_loads 71 = .ok (.ldc2_w 29, 3) := by decide +kernel
theorem dL_loads_74 : decode cL_loads 74 = .ok (.lor, 1) := by decide +kernel
theorem dL_loads_75 : decode cL_loads 75 = .ok (.lastore, 1) := by decide +kernel
theorem dL_loads_76 : decode cL_loads 76 = .ok (.aload_n 1, 1) := by decide +kernel
theorem dL_loads_77 : decode cL_loads 77 = .ok (.iload 8, 2) := by decide +kernel
theorem dL_loads_79 : decode cL_loads 79 = .ok (.iconst 0, 1) := by decide +kernel
theorem dL_loads_80 : decode cL_loads 80 = .ok (.iastore, 1) := by decide +kernel
theorem dL_loads_81 : decode cL_loads 81 = .ok (.goto 199, 3) := by decide +kernel
theorem dL_loads_84 : decode cL_loads 84 = .ok (.iload 9, 2) := by decide +kernel
theorem dL_loads_86 : decode cL_loads 86 = .ok (.ifCond .lt 194, 3) := by decide +kernel
theorem dL_loads_89 : decode cL_loads 89 = .ok (.aload_n 0, 1) := by decide +kernel
theorem dL_loads_90 : decode cL_loads 90 = .ok (.iload 9, 2) := by decide +kernel
theorem dL_loads_92 : decode cL_loads 92 = .ok (.laload, 1) := by decide +kernel
theorem dL_loads_93 : decode cL_loads 93 = .ok (.lstore 10, 2) := by decide +kernel
theorem dL_loads_95 : decode cL_loads 95 = .ok (.iconst 0, 1) := by decide +kernel
theorem dL_loads_96 : decode cL_loads 96 = .ok (.istore 12, 2) := by decide +kernel
theorem dL_loads_98 : decode cL_loads 98 = .ok (.iload 12, 2) := by decide +kernel
theorem dL_loads_100 : decode cL_loads 100 = .ok (.iconst 3, 1) := by decide +kernel
theorem dL_loads_101 : decode cL_loads 101 = .ok (.if_icmp .ge 43, 3) := by decide +kernel
theorem dL_loads_104 : decode cL_loads 104 = .ok (.lload 10, 2) := by decide +kernel
theorem dL_loads_106 : decode cL_loads 106 = .ok (.iload 12, 2) := by decide +kernel
theorem dL_loads_108 : decode cL_loads 108 = .ok (.invokestatic 21, 3) := by decide +kernel
theorem dL_loads_111 : decode cL_loads 111 = .ok (.ifCond .ne 23, 3) := by decide +kernel
theorem dL_loads_114 : decode cL_loads 114 = .ok (.lload 10, 2) := by decide +kernel
theorem dL_loads_116 : decode cL_loads 116 = .ok (.iload 12, 2) := by decide +kernel
theorem dL_loads_118 : decode cL_loads 118 = .ok (.aload 4, 2) := by decide +kernel
theorem dL_loads_120 : decode cL_loads 120 = .ok (.iload 8, 2) := by decide +kernel
theorem dL_loads_122 : decode cL_loads 122 = .ok (.laload, 1) := by decide +kernel
theorem dL_loads_123 : decode cL_loads 123 = .ok (.iload 12, 2) := by decide +kernel
theorem dL_loads_125 : decode cL_loads 125 = .ok (.invokestatic 21, 3) := by decide +kernel
theorem dL_loads_128 : decode cL_loads 128 = .ok (.invokestatic 31, 3) := by decide +kernel
theorem dL_loads_131 : decode cL_loads 131 = .ok (.goto 5, 3) := by decide +kernel
theorem dL_loads_134 : decode cL_loads 134 = .ok (.lload 10, 2) := by decide +kernel
theorem dL_loads_136 : decode cL_loads 136 = .ok (.lstore 10, 2) := by decide +kernel
theorem dL_loads_138 : decode cL_loads 138 = .ok (.iinc 12 1, 3) := by decide +kernel
theorem dL_loads_141 : decode cL_loads 141 = .ok (.goto (-43), 3) := by decide +kernel
theorem dL_loads_144 : decode cL_loads 144 = .ok (.iconst 0, 1) := by decide +kernel
theorem dL_loads_145 : decode cL_loads 145 = .ok (.istore 12, 2) := by decide +kernel
theorem dL_loads_147 : decode cL_loads 147 = .ok (.iload 12, 2) := by decide +kernel
theorem dL_loads_149 : decode cL_loads 149 = .ok (.iconst 4, 1) := by decide +kernel
theorem dL_loads_150 : decode cL_loads 150 = .ok (.if_icmp .ge 124, 3) := by decide +kernel
theorem dL_loads_153 : decode cL_loads 153 = .ok (.aload 4, 2) := by decide +kernel
theorem dL_loads_155 : decode cL_loads 155 = .ok (.iload 8, 2) := by decide +kernel
theorem dL_loads_157 : decode cL_loads 157 = .ok (.laload, 1) := by decide +kernel
theorem dL_loads_158 : decode cL_loads 158 = .ok (.iload 12, 2) := by decide +kernel
theorem dL_loads_160 : decode cL_loads 160 = .ok (.invokestatic 35, 3) := by decide +kernel
theorem dL_loads_163 : decode cL_loads 163 = .ok (.istore 13, 2) := by decide +kernel
theorem dL_loads_165 : decode cL_loads 165 = .ok (.lload 10, 2) := by decide +kernel
theorem dL_loads_167 : decode cL_loads 167 = .ok (.iload 12, 2) := by decide +kernel
theorem dL_loads_169 : decode cL_loads 169 = .ok (.invokestatic 35, 3) := by decide +kernel
theorem dL_loads_172 : decode cL_loads 172 = .ok (.ifCond .eq 45, 3) := by decide +kernel
theorem dL_loads_175 : decode cL_loads 175 = .ok (.aload_n 3, 1) := by decide +kernel
theorem dL_loads_176 : decode cL_loads 176 = .ok (.iconst 5, 1) := by decide +kernel
theorem dL_loads_177 : decode cL_loads 177 = .ok (.iload 12, 2) := by decide +kernel
theorem dL_loads_179 : decode cL_loads 179 = .ok (.iadd, 1) := by decide +kernel
theorem dL_loads_180 : decode cL_loads 180 = .ok (.iaload, 1) := by decide +kernel
theorem dL_loads_181 : decode cL_loads 181 = .ok (.iconst 2, 1) := by decide +kernel
theorem dL_loads_182 : decode cL_loads 182 = .ok (.if_icmp .eq 35, 3) := by decide +kernel
theorem dL_loads_185 : decode cL_loads 185 = .ok (.aload_n 3, 1) := by decide +kernel
theorem dL_loads_186 : decode cL_loads 186 = .ok (.iconst 5, 1) := by decide +kernel
theorem dL_loads_187 : decode cL_loads 187 = .ok (.iload 12, 2) := by decide +kernel
theorem dL_loads_189 : decode cL_loads 189 = .ok (.iadd, 1) := by decide +kernel
theorem dL_loads_190 : decode cL_loads 190 = .ok (.iaload, 1) := by decide +kernel
theorem dL_loads_191 : decode cL_loads 191 = .ok (.iconst 1, 1) := by decide +kernel
theorem dL_loads_192 : decode cL_loads 192 = .ok (.if_icmp .ne 29, 3) := by decide +kernel
theorem dL_loads_195 : decode cL_loads 195 = .ok (.aload_n 3, 1) := by decide +kernel
theorem dL_loads_196 : decode cL_loads 196 = .ok (.aload 5, 2) := by decide +kernel
theorem dL_loads_198 : decode cL_loads 198 = .ok (.iload 8, 2) := by decide +kernel
theorem dL_loads_200 : decode cL_loads 200 = .ok (.iaload, 1) := by decide +kernel
theorem dL_loads_201 : decode cL_loads 201 = .ok (.bipush 16, 2) := by decide +kernel
theorem dL_loads_203 : decode cL_loads 203 = .ok (.idiv, 1) := by decide +kernel
theorem dL_loads_204 : decode cL_loads 204 = .ok (.iaload, 1) := by decide +kernel
theorem dL_loads_205 : decode cL_loads 205 = .ok (.aload_n 3, 1) := by decide +kernel
theorem dL_loads_206 : decode cL_loads 206 = .ok (.lload 10, 2) := by decide +kernel
theorem dL_loads_208 : decode cL_loads 208 = .ok (.iload 12, 2) := by decide +kernel
theorem dL_loads_210 : decode cL_loads 210 = .ok (.invokestatic 38, 3) := by decide +kernel
theorem dL_loads_213 : decode cL_loads 213 = .ok (.iaload, 1) := by decide +kernel
theorem dL_loads_214 : decode cL_loads 214 = .ok (.if_icmp .lt 7, 3) := by decide +kernel
theorem dL_loads_217 : decode cL_loads 217 = .ok (.iconst 1, 1) := by decide +kernel
theorem dL_loads_218 : decode cL_loads 218 = .ok (.goto 4, 3) := by decide +kernel
theorem dL_loads_221 : decode cL_loads 221 = .ok (.iconst 0, 1) := by decide +kernel
theorem dL_loads_222 : decode cL_loads 222 = .ok (.istore 14, 2) := by decide +kernel
theorem dL_loads_224 : decode cL_loads 224 = .ok (.iload 13, 2) := by decide +kernel
theorem dL_loads_226 : decode cL_loads 226 = .ok (.ifCond .le 38, 3) := by decide +kernel
theorem dL_loads_229 : decode cL_loads 229 = .ok (.lload 10, 2) := by decide +kernel
theorem dL_loads_231 : decode cL_loads 231 = .ok (.iload 12, 2) := by decide +kernel
theorem dL_loads_233 : decode cL_loads 233 = .ok (.invokestatic 41, 3) := by decide +kernel
theorem dL_loads_236 : decode cL_loads 236 = .ok (.ifCond .ne 28, 3) := by decide +kernel
theorem dL_loads_239 : decode cL_loads 239 = .ok (.iload 14, 2) := by decide +kernel
theorem dL_loads_241 : decode cL_loads 241 = .ok (.ifCond .eq 23, 3) := by decide +kernel
theorem dL_loads_244 : decode cL_loads 244 = .ok (.lload 10, 2) := by decide +kernel
theorem dL_loads_246 : decode cL_loads 246 = .ok (.iload 12, 2) := by decide +kernel
theorem dL_loads_248 : decode cL_loads 248 = .ok (.iload 13, 2) := by decide +kernel
theorem dL_loads_250 : decode cL_loads 250 = .ok (.aload 5, 2) := by decide +kernel
theorem dL_loads_252 : decode cL_loads 252 = .ok (.iload 8, 2) := by decide +kernel
theorem dL_loads_254 : decode cL_loads 254 = .ok (.iaload, 1) := by decide +kernel
theorem dL_loads_255 : decode cL_loads 255 = .ok (.bipush 16, 2) := by decide +kernel
theorem dL_loads_257 : decode cL_loads 257 = .ok (.idiv, 1) := by decide +kernel
theorem dL_loads_258 : decode cL_loads 258 = .ok (.invokestatic 45, 3) := by decide +kernel
theorem dL_loads_261 : decode cL_loads 261 = .ok (.goto 5, 3) := by decide +kernel
theorem dL_loads_264 : decode cL_loads 264 = .ok (.lload 10, 2) := by decide +kernel
theorem dL_loads_266 : decode cL_loads 266 = .ok (.lstore 10, 2) := by decide +kernel
theorem dL_loads_268 : decode cL_loads 268 = .ok (.iinc 12 1, 3) := by decide +kernel
theorem dL_loads_271 : decode cL_loads 271 = .ok (.goto (-124), 3) := by decide +kernel
theorem dL_loads_274 : decode cL_loads 274 = .ok (.aload_n 0, 1) := by decide +kernel
theorem dL_loads_275 : decode cL_loads 275 = .ok (.iload 9, 2) := by decide +kernel
theorem dL_loads_277 : decode cL_loads 277 = .ok (.lload 10, 2) := by decide +kernel
theorem dL_loads_279 : decode cL_loads 279 = .ok (.lastore, 1) := by decide +kernel
theorem dL_loads_280 : decode cL_loads 280 = .ok (.return_, 1) := by decide +kernel
set_option maxRecDepth 20000 in
theorem ggL_merges_L_key : GoodIn wsL_merges wsL_key := goodIn_r _ [4, 5] (by decide +kernel) (by decide +kernel)
set_option maxRecDepth 20000 in
theorem gL_merges_L_key : GoodIn wsL_merges (va_wsS RL 21 yL_key wsL_key) := goodIn_app (goodIn_of _ (by decide +kernel)) ggL_merges_L_key
set_option maxRecDepth 20000 in
theorem ggL_merges_L_withKey : GoodIn wsL_merges wsL_withKey := goodIn_r _ [8, 5, 9] (by decide +kernel) (by decide +kernel)
set_option maxRecDepth 20000 in
theorem gL_merges_L_withKey : GoodIn wsL_merges (va_wsS RL 31 yL_withKey wsL_withKey) := goodIn_app (goodIn_of _ (by decide +kernel)) ggL_merges_L_withKey
set_option maxRecDepth 20000 in
theorem ggL_merges_L_field : GoodIn wsL_merges wsL_field := goodIn_r _ [12, 13] (by decide +kernel) (by decide +kernel)
set_option maxRecDepth 20000 in
theorem gL_merges_L_field : GoodIn wsL_merges (va_wsS RL 35 yL_field wsL_field) := goodIn_app (goodIn_of _ (by decide +kernel)) ggL_merges_L_field
set_option maxRecDepth 20000 in
theorem ggL_merges_L_source : GoodIn wsL_merges wsL_source := goodIn_r _ [16, 17] (by decide +kernel) (by decide +kernel)
set_option maxRecDepth 20000 in
theorem gL_merges_L_source : GoodIn wsL_merges (va_wsS RL 38 yL_source wsL_source) := goodIn_app (goodIn_of _ (by decide +kernel)) ggL_merges_L_source
set_option maxRecDepth 20000 in
theorem ggL_merges_L_withField : GoodIn wsL_merges wsL_withField := goodIn_r _ [20, 13, 9, 17] (by decide +kernel) (by decide +kernel)
set_option maxRecDepth 20000 in
theorem gL_merges_L_withField : GoodIn wsL_merges (va_wsS RL 45 yL_withField wsL_withField) := goodIn_app (goodIn_of _ (by decide +kernel)) ggL_merges_L_withField
theorem dL_merges_0 : decode cL_merges 0 = .ok (.aload_n 0, 1) := by decide +kernel
theorem dL_merges_1 : decode cL_merges 1 = .ok (.iload_n 3, 1) := by decide +kernel
theorem dL_merges_2 : decode cL_merges 2 = .ok (.laload, 1) := by decide +kernel
theorem dL_merges_3 : decode cL_merges 3 = .ok (.lstore 4, 2) := by decide +kernel
theorem dL_merges_5 : decode cL_merges 5 = .ok (.iconst 0, 1) := by decide +kernel
theorem dL_merges_6 : decode cL_merges 6 = .ok (.istore 6, 2) := by decide +kernel
theorem dL_merges_8 : decode cL_merges 8 = .ok (.iload 6, 2) := by decide +kernel
theorem dL_merges_10 : decode cL_merges 10 = .ok (.iconst 3, 1) := by decide +kernel
theorem dL_merges_11 : decode cL_merges 11 = .ok (.if_icmp .ge 41, 3) := by decide +kernel
theorem dL_merges_14 : decode cL_merges 14 = .ok (.lload 4, 2) := by decide +kernel
theorem dL_merges_16 : decode cL_merges 16 = .ok (.iload 6, 2) := by decide +kernel
theorem dL_merges_18 : decode cL_merges 18 = .ok (.invokestatic 21, 3) := by decide +kernel
theorem dL_merges_21 : decode cL_merges 21 = .ok (.ifCond .ne 21, 3) := by decide +kernel
theorem dL_merges_24 : decode cL_merges 24 = .ok (.lload 4, 2) := by decide +kernel
theorem dL_merges_26 : decode cL_merges 26 = .ok (.iload 6, 2) := by decide +kernel
theorem dL_merges_28 : decode cL_merges 28 = .ok (.aload_n 0, 1) := by decide +kernel
theorem dL_merges_29 : decode cL_merges 29 = .ok (.iload_n 2, 1) := by decide +kernel
theorem dL_merges_30 : decode cL_merges 30 = .ok (.laload, 1) := by decide +kernel
theorem dL_merges_31 : decode cL_merges 31 = .ok (.iload 6, 2) := by decide +kernel
theorem dL_merges_33 : decode cL_merges 33 = .ok (.invokestatic 21, 3) := by decide +kernel
theorem dL_merges_36 : decode cL_merges 36 = .ok (.invokestatic 31, 3) := by decide +kernel
theorem dL_merges_39 : decode cL_merges 39 = .ok (.goto 5, 3) := by decide +kernel
theorem dL_merges_42 : decode cL_merges 42 = .ok (.lload 4, 2) := by decide +kernel
theorem dL_merges_44 : decode cL_merges 44 = .ok (.lstore 4, 2) := by decide +kernel
theorem dL_merges_46 : decode cL_merges 46 = .ok (.iinc 6 1, 3) := by decide +kernel
theorem dL_merges_49 : decode cL_merges 49 = .ok (.goto (-41), 3) := by decide +kernel
theorem dL_merges_52 : decode cL_merges 52 = .ok (.iconst 0, 1) := by decide +kernel
theorem dL_merges_53 : decode cL_merges 53 = .ok (.istore 6, 2) := by decide +kernel
theorem dL_merges_55 : decode cL_merges 55 = .ok (.iload 6, 2) := by decide +kernel
theorem dL_merges_57 : decode cL_merges 57 = .ok (.iconst 4, 1) := by decide +kernel
theorem dL_merges_58 : decode cL_merges 58 = .ok (.if_icmp .ge 49, 3) := by decide +kernel
theorem dL_merges_61 : decode cL_merges 61 = .ok (.lload 4, 2) := by decide +kernel
theorem dL_merges_63 : decode cL_merges 63 = .ok (.iload 6, 2) := by decide +kernel
theorem dL_merges_65 : decode cL_merges 65 = .ok (.invokestatic 35, 3) := by decide +kernel
theorem dL_merges_68 : decode cL_merges 68 = .ok (.ifCond .ne 29, 3) := by decide +kernel
theorem dL_merges_71 : decode cL_merges 71 = .ok (.lload 4, 2) := by decide +kernel
theorem dL_merges_73 : decode cL_merges 73 = .ok (.iload 6, 2) := by decide +kernel
theorem dL_merges_75 : decode cL_merges 75 = .ok (.aload_n 0, 1) := by decide +kernel
theorem dL_merges_76 : decode cL_merges 76 = .ok (.iload_n 2, 1) := by decide +kernel
theorem dL_merges_77 : decode cL_merges 77 = .ok (.laload, 1) := by decide +kernel
theorem dL_merges_78 : decode cL_merges 78 = .ok (.iload 6, 2) := by decide +kernel
theorem dL_merges_80 : decode cL_merges 80 = .ok (.invokestatic 35, 3) := by decide +kernel
theorem dL_merges_83 : decode cL_merges 83 = .ok (.aload_n 0, 1) := by decide +kernel
theorem dL_merges_84 : decode cL_merges 84 = .ok (.iload_n 2, 1) := by decide +kernel
theorem dL_merges_85 : decode cL_merges 85 = .ok (.laload, 1) := by decide +kernel
theorem dL_merges_86 : decode cL_merges 86 = .ok (.iload 6, 2) := by decide +kernel
theorem dL_merges_88 : decode cL_merges 88 = .ok (.invokestatic 38, 3) := by decide +kernel
theorem dL_merges_91 : decode cL_merges 91 = .ok (.invokestatic 45, 3) := by decide +kernel
theorem dL_merges_94 : decode cL_merges 94 = .ok (.goto 5, 3) := by decide +kernel
theorem dL_merges_97 : decode cL_merges 97 = .ok (.lload 4, 2) := by decide +kernel
theorem dL_merges_99 : decode cL_merges 99 = .ok (.lstore 4, 2) := by decide +kernel
theorem dL_merges_101 : decode cL_merges 101 = .ok (.iinc 6 1, 3) := by decide +kernel
theorem dL_merges_104 : decode cL_merges 104 = .ok (.goto (-49), 3) := by decide +kernel
theorem dL_merges_107 : decode cL_merges 107 = .ok (.aload_n 0, 1) := by decide +kernel
theorem dL_merges_108 : decode cL_merges 108 = .ok (.iload_n 3, 1) := by decide +kernel
theorem dL_merges_109 : decode cL_merges 109 = .ok (.lload 4, 2) := by decide +kernel
theorem dL_merges_111 : decode cL_merges 111 = .ok (.lastore, 1) := by decide +kernel
theorem dL_merges_112 : decode cL_merges 112 = .ok (.aload_n 1, 1) := by decide +kernel
theorem dL_merges_113 : decode cL_merges 113 = .ok (.iload_n 3, 1) := by decide +kernel
theorem dL_merges_114 : decode cL_merges 114 = .ok (.dup2, 1) := by decide +kernel
theorem dL_merges_115 : decode cL_merges 115 = .ok (.iaload, 1) := by decide +kernel
theorem dL_merges_116 : decode cL_merges 116 = .ok (.aload_n 1, 1) := by decide +kernel
theorem dL_merges_117 : decode cL_merges 117 = .ok (.iload_n 2, 1) := by decide +kernel
theorem dL_merges_118 : decode cL_merges 118 = .ok (.iaload, 1) := by decide +kernel
theorem dL_merges_119 : decode cL_merges 119 = .ok (.iadd, 1) := by decide +kernel
theorem dL_merges_120 : decode cL_merges 120 = .ok (.iastore, 1) := by decide +kernel
theorem dL_merges_121 : decode cL_merges 121 = .ok (.aload_n 0, 1) := by decide +kernel
theorem dL_merges_122 : decode cL_merges 122 = .ok (.iload_n 2, 1) := by decide +kernel
theorem dL_merges_123 : decode cL_merges 123 = .ok (.lconst 0, 1) := by decide +kernel
theorem dL_merges_124 : decode cL_merges 124 = .ok (.lastore, 1) := by decide +kernel
theorem dL_merges_125 : decode cL_merges 125 = .ok (.return_, 1) := by decide +kernel
set_option maxRecDepth 20000 in
theorem ggL_makes_L_loads : GoodIn wsL_makes wsL_loads := goodIn_r _ [5, 6, 7, 8, 4, 9, 10, 11, 12, 13, 14, 15, 16, 17, 18, 19, 1, 20, 21, 22, 23, 24, 25, 26, 27, 28, 29, 30, 31, 32, 33] (by decide +kernel) (by decide +kernel)
set_option maxRecDepth 20000 in
theorem gL_makes_L_loads : GoodIn wsL_makes (va_wsS RL 49 yL_loads wsL_loads) := goodIn_app (goodIn_of _ (by decide +kernel)) ggL_makes_L_loads
set_option maxRecDepth 20000 in
theorem ggL_makes_L_isIn : GoodIn wsL_makes wsL_isIn := goodIn_r _ [12] (by decide +kernel) (by decide +kernel)
set_option maxRecDepth 20000 in
theorem gL_makes_L_isIn : GoodIn wsL_makes (va_wsS RL 15 yL_isIn wsL_isIn) := goodIn_app (goodIn_of _ (by decide +kernel)) ggL_makes_L_isIn
set_option maxRecDepth 20000 in
theorem ggL_makes_L_merges : GoodIn wsL_makes wsL_merges := goodIn_r _ [36, 13, 14, 4, 15, 16, 17, 18, 19, 1, 20, 21, 22, 23, 24, 25, 26, 27, 31, 32, 33] (by decide +kernel) (by decide +kernel)
set_option maxRecDepth 20000 in
theorem gL_makes_L_merges : GoodIn wsL_makes (va_wsS RL 53 yL_merges wsL_merges) := goodIn_app (goodIn_of _ (by decide +kernel)) ggL_makes_L_merges
theorem dL_makes_0 : decode cL_makes 0 = .ok (.iconst 0, 1) := by decide +kernel
theorem dL_makes_1 : decode cL_makes 1 = .ok (.istore 9, 2) := by decide +kernel
theorem dL_makes_3 : decode cL_makes 3 = .ok (.iload 9, 2) := by decide +kernel
theorem dL_makes_5 : decode cL_makes 5 = .ok (.bipush 40, 2) := by decide +kernel
theorem dL_makes_7 : decode cL_makes 7 = .ok (.if_icmp .ge 19, 3) := by decide +kernel
theorem dL_makes_10 : decode cL_makes 10 = .ok (.aload_n 0, 1) := by decide +kernel
theorem dL_makes_11 : decode cL_makes 11 = .ok (.iload 9, 2) := by decide +kernel
theorem dL_makes_13 : decode cL_makes 13 = .ok (.lconst 0, 1) := by decide +kernel
theorem dL_makes_14 : decode cL_makes 14 = .ok (.lastore, 1) := by decide +kernel
theorem dL_makes_15 : decode cL_makes 15 = .ok (.aload_n 1, 1) := by decide +kernel
theorem dL_makes_16 : decode cL_makes 16 = .ok (.iload 9, 2) := by decide +kernel
theorem dL_makes_18 : decode cL_makes 18 = .ok (.iconst 0, 1) := by decide +kernel
theorem dL_makes_19 : decode cL_makes 19 = .ok (.iastore, 1) := by decide +kernel
theorem dL_makes_20 : decode cL_makes 20 = .ok (.iinc 9 1, 3) := by decide +kernel
theorem dL_makes_23 : decode cL_makes 23 = .ok (.goto (-20), 3) := by decide +kernel
theorem dL_makes_26 : decode cL_makes 26 = .ok (.iconst 0, 1) := by decide +kernel
theorem dL_makes_27 : decode cL_makes 27 = .ok (.istore 9, 2) := by decide +kernel
theorem dL_makes_29 : decode cL_makes 29 = .ok (.iload 9, 2) := by decide +kernel
theorem dL_makes_31 : decode cL_makes 31 = .ok (.aload_n 3, 1) := by decide +kernel
theorem dL_makes_32 : decode cL_makes 32 = .ok (.iconst 2, 1) := by decide +kernel
theorem dL_makes_33 : decode cL_makes 33 = .ok (.iaload, 1) := by decide +kernel
theorem dL_makes_34 : decode cL_makes 34 = .ok (.if_icmp .ge 189, 3) := by decide +kernel
theorem dL_makes_37 : decode cL_makes 37 = .ok (.aload_n 2, 1) := by decide +kernel
theorem dL_makes_38 : decode cL_makes 38 = .ok (.iload 9, 2) := by decide +kernel
theorem dL_makes_40 : decode cL_makes 40 = .ok (.iaload, 1) := by decide +kernel
theorem dL_makes_41 : decode cL_makes 41 = .ok (.bipush 8, 2) := by decide +kernel
theorem dL_makes_43 : decode cL_makes 43 = .ok (.irem, 1) := by decide +kernel
theorem dL_makes_44 : decode cL_makes 44 = .ok (.istore 10, 2) := by decide +kernel
theorem dL_makes_46 : decode cL_makes 46 = .ok (.aload_n 2, 1) := by decide +kernel
theorem dL_makes_47 : decode cL_makes 47 = .ok (.iload 9, 2) := by decide +kernel
theorem dL_makes_49 : decode cL_makes 49 = .ok (.iaload, 1) := by decide +kernel
theorem dL_makes_50 : decode cL_makes 50 = .ok (.bipush 8, 2) := by decide +kernel
theorem dL_makes_52 : decode cL_makes 52 = .ok (.idiv, 1) := by decide +kernel
theorem dL_makes_53 : decode cL_makes 53 = .ok (.sipush 128, 3) := by decide +kernel
theorem dL_makes_56 : decode cL_makes 56 = .ok (.irem, 1) := by decide +kernel
theorem dL_makes_57 : decode cL_makes 57 = .ok (.istore 11, 2) := by decide +kernel
theorem dL_makes_59 : decode cL_makes 59 = .ok (.aload_n 2, 1) := by decide +kernel
theorem dL_makes_60 : decode cL_makes 60 = .ok (.iload 9, 2) := by decide +kernel
theorem dL_makes_62 : decode cL_makes 62 = .ok (.iaload, 1) := by decide +kernel
theorem dL_makes_63 : decode cL_makes 63 = .ok (.sipush 1024, 3) := by decide +kernel
theorem dL_makes_66 : decode cL_makes 66 = .ok (.idiv, 1) := by decide +kernel
theorem dL_makes_67 : decode cL_makes 67 = .ok (.istore 12, 2) := by decide +kernel
theorem dL_makes_69 : decode cL_makes 69 = .ok (.iload 10, 2) := by decide +kernel
theorem dL_makes_71 : decode cL_makes 71 = .ok (.ifCond .ne 24, 3) := by decide +kernel
theorem dL_makes_74 : decode cL_makes 74 = .ok (.aload_n 0, 1) := by decide +kernel
theorem dL_makes_75 : decode cL_makes 75 = .ok (.aload_n 1, 1) := by decide +kernel
theorem dL_makes_76 : decode cL_makes 76 = .ok (.aload_n 3, 1) := by decide +kernel
theorem dL_makes_77 : decode cL_makes 77 = .ok (.aload 4, 2) := by decide +kernel
theorem dL_makes_79 : decode cL_makes 79 = .ok (.aload 5, 2) := by decide +kernel
theorem dL_makes_81 : decode cL_makes 81 = .ok (.aload 6, 2) := by decide +kernel
theorem dL_makes_83 : decode cL_makes 83 = .ok (.aload 7, 2) := by decide +kernel
theorem dL_makes_85 : decode cL_makes 85 = .ok (.aload 8, 2) := by decide +kernel
theorem dL_makes_87 : decode cL_makes 87 = .ok (.iload 11, 2) := by decide +kernel
theorem dL_makes_89 : decode cL_makes 89 = .ok (.invokestatic 49, 3) := by decide +kernel
theorem dL_makes_92 : decode cL_makes 92 = .ok (.goto 125, 3) := by decide +kernel
theorem dL_makes_95 : decode cL_makes 95 = .ok (.aload_n 0, 1) := by decide +kernel
theorem dL_makes_96 : decode cL_makes 96 = .ok (.iload 11, 2) := by decide +kernel
theorem dL_makes_98 : decode cL_makes 98 = .ok (.laload, 1) := by decide +kernel
theorem dL_makes_99 : decode cL_makes 99 = .ok (.invokestatic 15, 3) := by decide +kernel
theorem dL_makes_102 : decode cL_makes 102 = .ok (.ifCond .eq 20, 3) := by decide +kernel
theorem dL_makes_105 : decode cL_makes 105 = .ok (.iload 10, 2) := by decide +kernel
theorem dL_makes_107 : decode cL_makes 107 = .ok (.iconst 3, 1) := by decide +kernel
theorem dL_makes_108 : decode cL_makes 108 = .ok (.if_icmp .ne 14, 3) := by decide +kernel
theorem dL_makes_111 : decode cL_makes 111 = .ok (.aload_n 1, 1) := by decide +kernel
theorem dL_makes_112 : decode cL_makes 112 = .ok (.iload 11, 2) := by decide +kernel
theorem dL_makes_114 : decode cL_makes 114 = .ok (.dup2, 1) := by decide +kernel
theorem dL_makes_115 : decode cL_makes 115 = .ok (.iaload, 1) := by decide +kernel
theorem dL_makes_116 : decode cL_makes 116 = .ok (.iconst 1, 1) := by decide +kernel
theorem dL_makes_117 : decode cL_makes 117 = .ok (.iadd, 1) := by decide +kernel
theorem dL_makes_118 : decode cL_makes 118 = .ok (.iastore, 1) := by decide +kernel
theorem dL_makes_119 : decode cL_makes 119 = .ok (.goto 98, 3) := by decide +kernel
theorem dL_makes_122 : decode cL_makes 122 = .ok (.aload_n 0, 1) := by decide +kernel
theorem dL_makes_123 : decode cL_makes 123 = .ok (.iload 11, 2) := by decide +kernel
theorem dL_makes_125 : decode cL_makes 125 = .ok (.laload, 1) := by decide +kernel
theorem dL_makes_126 : decode cL_makes 126 = .ok (.invokestatic 15, 3) := by decide +kernel
theorem dL_makes_129 : decode cL_makes 129 = .ok (.ifCond .eq 31, 3) := by decide +kernel
theorem dL_makes_132 : decode cL_makes 132 = .ok (.iload 10, 2) := by decide +kernel
theorem dL_makes_134 : decode cL_makes 134 = .ok (.iconst 4, 1) := by decide +kernel
theorem dL_makes_135 : decode cL_makes 135 = .ok (.if_icmp .ne 25, 3) := by decide +kernel
theorem dL_makes_138 : decode cL_makes 138 = .ok (.aload_n 0, 1) := by decide +kernel
theorem dL_makes_139 : decode cL_makes 139 = .ok (.iload 12, 2) := by decide +kernel
theorem dL_makes_141 : decode cL_makes 141 = .ok (.laload, 1) := by decide +kernel
theorem dL_makes_142 : decode cL_makes 142 = .ok (.invokestatic 15, 3) := by decide +kernel
theorem dL_makes_145 : decode cL_makes 145 = .ok (.ifCond .eq 15, 3) := by decide +kernel
theorem dL_makes_148 : decode cL_makes 148 = .ok (.aload_n 0, 1) := by decide +kernel
theorem dL_makes_149 : decode cL_makes 149 = .ok (.aload_n 1, 1) := by decide +kernel
theorem dL_makes_150 : decode cL_makes 150 = .ok (.iload 11, 2) := by decide +kernel
theorem dL_makes_152 : decode cL_makes 152 = .ok (.iload 12, 2) := by decide +kernel
theorem dL_makes_154 : decode cL_makes 154 = .ok (.invokestatic 53, 3) := by decide +kernel
theorem dL_makes_157 : decode cL_makes 157 = .ok (.goto 60, 3) := by decide +kernel
theorem dL_makes_160 : decode cL_makes 160 = .ok (.aload_n 0, 1) := by decide +kernel
theorem dL_makes_161 : decode cL_makes 161 = .ok (.iload 11, 2) := by decide +kernel
theorem dL_makes_163 : decode cL_makes 163 = .ok (.laload, 1) := by decide +kernel
theorem dL_makes_164 : decode cL_makes 164 = .ok (.invokestatic 15, 3) := by decide +kernel
theorem dL_makes_167 : decode cL_makes 167 = .ok (.ifCond .eq 50, 3) := by decide +kernel
theorem dL_makes_170 : decode cL_makes 170 = .ok (.iload 10, 2) := by decide +kernel
theorem dL_makes_172 : decode cL_makes 172 = .ok (.iconst 3, 1) := by decide +kernel
theorem dL_makes_173 : decode cL_makes 173 = .ok (.if_icmp .ge 44, 3) := by decide +kernel
theorem dL_makes_176 : decode cL_makes 176 = .ok (.aload_n 0, 1) := by decide +kernel
theorem dL_makes_177 : decode cL_makes 177 = .ok (.iload 11, 2) := by decide +kernel
theorem dL_makes_179 : decode cL_makes 179 = .ok (.iload 10, 2) := by decide +kernel
theorem dL_makes_181 : decode cL_makes 181 = .ok (.iconst 1, 1) := by decide +kernel
theorem dL_makes_182 : decode cL_makes 182 = .ok (.if_icmp .ne 18, 3) := by decide +kernel
theorem dL_makes_185 : decode cL_makes 185 = .ok (.aload_n 0, 1) := by decide +kernel
theorem dL_makes_186 : decode cL_makes 186 = .ok (.iload 11, 2) := by decide +kernel
theorem dL_makes_188 : decode cL_makes 188 = .ok (.laload, 1) := by decide +kernel
theorem dL_makes_189 : decode cL_makes 189 = .ok (.lconst 1, 1) := by decide +kernel
theorem dL_makes_190 : decode cL_makes 190 = .ok (.bipush 58, 2) := by decide +kernel
theorem dL_makes_192 : decode cL_makes 192 = .ok (.iload 12, 2) := by decide +kernel
theorem dL_makes_194 : decode cL_makes 194 = .ok (.iadd, 1) := by decide +kernel
theorem dL_makes_195 : decode cL_makes 195 = .ok (.lshl, 1) := by decide +kernel
theorem dL_makes_196 : decode cL_makes 196 = .ok (.lor, 1) := by decide +kernel
theorem dL_makes_197 : decode cL_makes 197 = .ok (.goto 19, 3) := by decide +kernel
theorem dL_makes_200 : decode cL_makes 200 = .ok (.aload_n 0, 1) := by decide +kernel
theorem dL_makes_201 : decode cL_makes 201 = .ok (.iload 11, 2) := by decide +kernel
theorem dL_makes_203 : decode cL_makes 203 = .ok (.laload, 1) := by decide +kernel
theorem dL_makes_204 : decode cL_makes 204 = .ok (.lconst 1, 1) := by decide +kernel
theorem dL_makes_205 : decode cL_makes 205 = .ok (.bipush 58, 2) := by decide +kernel
theorem dL_makes_207 : decode cL_makes 207 = .ok (.iload 12, 2) := by decide +kernel
theorem dL_makes_209 : decode cL_makes 209 = .ok (.iadd, 1) := by decide +kernel
theorem dL_makes_210 : decode cL_makes 210 = .ok (.lshl, 1) := by decide +kernel
theorem dL_makes_211 : decode cL_makes 211 = .ok (.ldc2_w 13, 3) := by decide +kernel
theorem dL_makes_214 : decode cL_makes 214 = .ok (.lxor, 1) := by decide +kernel
theorem dL_makes_215 : decode cL_makes 215 = .ok (.land, 1) := by decide +kernel
theorem dL_makes_216 : decode cL_makes 216 = .ok (.lastore, 1) := by decide +kernel
theorem dL_makes_217 : decode cL_makes 217 = .ok (.iinc 9 1, 3) := by decide +kernel
theorem dL_makes_220 : decode cL_makes 220 = .ok (.goto (-191), 3) := by decide +kernel
theorem dL_makes_223 : decode cL_makes 223 = .ok (.return_, 1) := by decide +kernel
set_option maxRecDepth 20000 in
theorem ggL_does_X6_beginBatch : GoodIn wsL_does wsX6_beginBatch := goodIn_ca (goodIn_r _ [8, 9, 10, 11, 12, 13, 14, 15, 16, 17, 214, 215, 216, 217, 218, 219, 220, 221, 222, 223, 224, 225] (by decide +kernel) (by decide +kernel)) (goodIn_sub (fun _ h => List.mem_cons_of_mem _ (List.mem_append_left _ (List.mem_append_left _ (List.mem_append_right _ h)))) (by decide +kernel))
set_option maxRecDepth 20000 in
theorem gL_does_X6_beginBatch : GoodIn wsL_does (wsV RL 57 RX6 yX6_beginBatch wsX6_beginBatch) := goodIn_app (goodIn_of _ (by decide +kernel)) ggL_does_X6_beginBatch
set_option maxRecDepth 20000 in
theorem ggL_does_X6_key : GoodIn wsL_does wsX6_key := goodIn_ca (goodIn_ca (goodIn_r _ [21, 11, 22, 23, 7, 24, 25, 26, 27, 28, 29, 30, 31, 32, 33, 34, 35, 36, 37, 38, 39, 40, 41, 42, 43, 214, 215, 216, 217, 218, 219, 220, 221, 222, 223, 224, 225, 226, 227, 228] (by decide +kernel) (by decide +kernel)) (goodIn_sub (fun _ h => List.mem_cons_of_mem _ (List.mem_append_left _ (List.mem_append_right _ h))) (by decide +kernel))) (goodIn_sub (fun _ h => List.mem_cons_of_mem _ (List.mem_append_right _ h)) (by decide +kernel))
set_option maxRecDepth 20000 in
theorem gL_does_X6_key : GoodIn wsL_does (wsV RL 63 RX6 yX6_key wsX6_key) := goodIn_app (goodIn_of _ (by decide +kernel)) ggL_does_X6_key
set_option maxRecDepth 20000 in
theorem ggL_does_X6_field : GoodIn wsL_does wsX6_field := goodIn_ca (goodIn_ca (goodIn_r _ [47, 11, 22, 23, 7, 24, 25, 26, 27, 28, 29, 30, 31, 32, 33, 34, 35, 36, 37, 38, 39, 40, 41, 42, 43, 214, 215, 216, 217, 218, 219, 220, 221, 222, 223, 224, 225, 226, 227, 228] (by decide +kernel) (by decide +kernel)) (goodIn_sub (fun _ h => List.mem_cons_of_mem _ (List.mem_append_left _ (List.mem_append_right _ h))) (by decide +kernel))) (goodIn_sub (fun _ h => List.mem_cons_of_mem _ (List.mem_append_right _ h)) (by decide +kernel))
set_option maxRecDepth 20000 in
theorem gL_does_X6_field : GoodIn wsL_does (wsV RL 66 RX6 yX6_field wsX6_field) := goodIn_app (goodIn_of _ (by decide +kernel)) ggL_does_X6_field
set_option maxRecDepth 20000 in
theorem ggL_does_X6_load : GoodIn wsL_does wsX6_load := goodIn_ca (goodIn_ca (goodIn_r _ [51, 9, 10, 11, 52, 53, 54, 22, 23, 7, 24, 25, 26, 55, 56, 57, 15, 58, 59, 60, 61, 17, 62, 63, 64, 65, 66, 67, 68, 69, 70, 71, 72, 73, 74, 75, 76, 77, 78, 79, 80, 81, 82, 83, 84, 85, 86, 87, 88, 89, 90, 91, 92, 93, 94, 95, 96, 97, 98, 99, 100, 101, 33, 34, 35, 36, 37, 38, 39, 102, 103, 104, 105, 106, 107, 108, 109, 110, 111, 112, 41, 42, 43, 113, 114, 115, 116, 117, 118, 119, 120, 121, 122, 123, 124, 125, 126, 127, 214, 215, 216, 217, 218, 219, 220, 221, 222, 223, 224, 225, 229, 230, 231, 232, 233, 234, 235, 236, 237, 238, 239, 240, 241, 242, 243, 244, 245, 226, 227, 228] (by decide +kernel) (by decide +kernel)) (goodIn_sub (fun _ h => List.mem_cons_of_mem _ (List.mem_append_left _ (List.mem_append_left _ (List.mem_append_right _ h)))) (by decide +kernel))) (goodIn_sub (fun _ h => List.mem_cons_of_mem _ (List.mem_append_left _ (List.mem_append_right _ h))) (by decide +kernel))
set_option maxRecDepth 20000 in
theorem gL_does_X6_load : GoodIn wsL_does (wsV RL 68 RX6 yX6_load wsX6_load) := goodIn_app (goodIn_of _ (by decide +kernel)) ggL_does_X6_load
set_option maxRecDepth 20000 in
theorem ggL_does_X6_hold : GoodIn wsL_does wsX6_hold := goodIn_ca (goodIn_ca (goodIn_r _ [131, 52, 53, 132, 133, 134, 7, 135, 25, 26, 136, 137, 138, 83, 139, 85, 100, 93, 94, 65, 95, 67, 140, 141, 142, 143, 9, 10, 144, 145, 146, 71, 147, 74, 78, 68, 69, 70, 72, 73, 75, 76, 77, 79, 63, 64, 66, 148, 149, 150, 151, 152, 153, 107, 214, 215, 216, 217, 218, 236, 237, 238, 239, 240, 241, 242, 229, 230, 231, 232, 233, 234, 235] (by decide +kernel) (by decide +kernel)) (goodIn_sub (fun _ h => List.mem_cons_of_mem _ (List.mem_append_left _ (List.mem_append_right _ h))) (by decide +kernel))) (goodIn_sub (fun _ h => List.mem_cons_of_mem _ (List.mem_append_left _ (List.mem_append_left _ (List.mem_append_right _ h)))) (by decide +kernel))
set_option maxRecDepth 20000 in
theorem gL_does_X6_hold : GoodIn wsL_does (wsV RL 72 RX6 yX6_hold wsX6_hold) := goodIn_app (goodIn_of _ (by decide +kernel)) ggL_does_X6_hold
set_option maxRecDepth 20000 in
theorem ggL_does_X6_merge : GoodIn wsL_does wsX6_merge := goodIn_ca (goodIn_ca (goodIn_ca (goodIn_r _ [157, 30, 31, 52, 53, 132, 133, 134, 7, 135, 25, 26, 136, 137, 138, 83, 139, 85, 100, 93, 94, 65, 95, 67, 140, 141, 142, 143, 9, 10, 144, 145, 146, 71, 147, 74, 78, 68, 69, 70, 72, 73, 75, 76, 77, 79, 63, 64, 66, 158, 159, 160, 161, 106, 118, 119, 152, 153, 101, 33, 34, 35, 36, 37, 38, 39, 112, 41, 42, 43, 107, 162, 149, 150, 151, 214, 215, 216, 217, 218, 236, 237, 238, 239, 240, 241, 242, 229, 230, 231, 232, 233, 234, 235, 226, 227, 228] (by decide +kernel) (by decide +kernel)) (goodIn_sub (fun _ h => List.mem_cons_of_mem _ (List.mem_append_right _ h)) (by decide +kernel))) (goodIn_sub (fun _ h => List.mem_cons_of_mem _ (List.mem_append_left _ (List.mem_append_right _ h))) (by decide +kernel))) (goodIn_sub (fun _ h => List.mem_cons_of_mem _ (List.mem_append_left _ (List.mem_append_left _ (List.mem_append_right _ h)))) (by decide +kernel))
set_option maxRecDepth 20000 in
theorem gL_does_X6_merge : GoodIn wsL_does (wsV RL 75 RX6 yX6_merge wsX6_merge) := goodIn_app (goodIn_of _ (by decide +kernel)) ggL_does_X6_merge
set_option maxRecDepth 20000 in
theorem ggL_does_X6_undo : GoodIn wsL_does wsX6_undo := goodIn_ca (goodIn_ca (goodIn_r _ [166, 9, 10, 11, 53, 22, 23, 7, 24, 25, 26, 167, 93, 94, 65, 95, 67, 168, 63, 64, 66, 169, 170, 171, 172, 52, 173, 174, 175, 83, 176, 85, 106, 118, 119, 117, 152, 86, 177, 178, 179, 180, 181, 182, 183, 184, 185, 186, 187, 35, 188, 39, 189, 190, 191, 192, 193, 54, 80, 81, 82, 84, 87, 88, 89, 15, 90, 91, 61, 92, 96, 97, 98, 99, 100, 101, 33, 34, 36, 37, 38, 102, 103, 104, 105, 107, 108, 109, 110, 111, 112, 41, 42, 43, 113, 114, 115, 116, 120, 121, 122, 123, 124, 125, 126, 127, 194, 195, 196, 197, 153, 137, 138, 139, 148, 149, 150, 151, 158, 159, 160, 161, 162, 198, 199, 200, 201, 214, 215, 216, 217, 218, 219, 220, 221, 222, 223, 224, 225, 229, 230, 231, 232, 233, 234, 235, 236, 237, 238, 239, 240, 241, 242, 226, 227, 228, 243, 244, 245] (by decide +kernel) (by decide +kernel)) (goodIn_sub (fun _ h => List.mem_cons_of_mem _ (List.mem_append_left _ (List.mem_append_left _ (List.mem_append_right _ h)))) (by decide +kernel))) (goodIn_sub (fun _ h => List.mem_cons_of_mem _ (List.mem_append_left _ (List.mem_append_right _ h))) (by decide +kernel))
set_option maxRecDepth 20000 in
theorem gL_does_X6_undo : GoodIn wsL_does (wsV RL 78 RX6 yX6_undo wsX6_undo) := goodIn_app (goodIn_of _ (by decide +kernel)) ggL_does_X6_undo
set_option maxRecDepth 20000 in
theorem ggL_does_X6_setRank : GoodIn wsL_does wsX6_setRank := goodIn_ca (goodIn_ca (goodIn_ca (goodIn_r _ [205, 54, 22, 23, 7, 24, 25, 26, 27, 28, 29, 30, 31, 206, 207, 208, 209, 9, 10, 11, 167, 93, 94, 65, 95, 67, 168, 63, 64, 66, 214, 215, 216, 217, 218, 243, 244, 245, 219, 220, 221, 222, 223, 224, 225, 229] (by decide +kernel) (by decide +kernel)) (goodIn_sub (fun _ h => List.mem_cons_of_mem _ (List.mem_append_left _ (List.mem_append_right _ h))) (by decide +kernel))) (goodIn_sub (fun _ h => List.mem_cons_of_mem _ (List.mem_append_right _ h)) (by decide +kernel))) (goodIn_sub (fun _ h => List.mem_cons_of_mem _ (List.mem_append_left _ (List.mem_append_left _ (List.mem_append_right _ h)))) (by decide +kernel))
set_option maxRecDepth 20000 in
theorem gL_does_X6_setRank : GoodIn wsL_does (wsV RL 82 RX6 yX6_setRank wsX6_setRank) := goodIn_app (goodIn_of _ (by decide +kernel)) ggL_does_X6_setRank
set_option maxRecDepth 20000 in
theorem ggL_does_X6_setRule : GoodIn wsL_does wsX6_setRule := goodIn_ca (goodIn_ca (goodIn_ca (goodIn_r _ [213, 54, 22, 23, 7, 24, 25, 26, 27, 28, 29, 30, 31, 206, 207, 208, 209, 9, 10, 11, 167, 93, 94, 65, 95, 67, 168, 63, 64, 66, 214, 215, 216, 217, 218, 243, 244, 245, 219, 220, 221, 222, 223, 224, 225, 229] (by decide +kernel) (by decide +kernel)) (goodIn_sub (fun _ h => List.mem_cons_of_mem _ (List.mem_append_left _ (List.mem_append_right _ h))) (by decide +kernel))) (goodIn_sub (fun _ h => List.mem_cons_of_mem _ (List.mem_append_right _ h)) (by decide +kernel))) (goodIn_sub (fun _ h => List.mem_cons_of_mem _ (List.mem_append_left _ (List.mem_append_left _ (List.mem_append_right _ h)))) (by decide +kernel))
set_option maxRecDepth 20000 in
theorem gL_does_X6_setRule : GoodIn wsL_does (wsV RL 85 RX6 yX6_setRule wsX6_setRule) := goodIn_app (goodIn_of _ (by decide +kernel)) ggL_does_X6_setRule
theorem dL_does_0 : decode cL_does 0 = .ok (.iload_n 1, 1) := by decide +kernel
theorem dL_does_1 : decode cL_does 1 = .ok (.ifCond .ne 10, 3) := by decide +kernel
theorem dL_does_4 : decode cL_does 4 = .ok (.aload_n 0, 1) := by decide +kernel
theorem dL_does_5 : decode cL_does 5 = .ok (.invokevirtual 57, 3) := by decide +kernel
theorem dL_does_8 : decode cL_does 8 = .ok (.goto 116, 3) := by decide +kernel
theorem dL_does_11 : decode cL_does 11 = .ok (.iload_n 1, 1) := by decide +kernel
theorem dL_does_12 : decode cL_does 12 = .ok (.iconst 1, 1) := by decide +kernel
theorem dL_does_13 : decode cL_does 13 = .ok (.if_icmp .ne 12, 3) := by decide +kernel
theorem dL_does_16 : decode cL_does 16 = .ok (.aload_n 0, 1) := by decide +kernel
theorem dL_does_17 : decode cL_does 17 = .ok (.iload_n 2, 1) := by decide +kernel
theorem dL_does_18 : decode cL_does 18 = .ok (.iload_n 3, 1) := by decide +kernel
theorem dL_does_19 : decode cL_does 19 = .ok (.invokevirtual 63, 3) := by decide +kernel
theorem dL_does_22 : decode cL_does 22 = .ok (.goto 102, 3) := by decide +kernel
theorem dL_does_25 : decode cL_does 25 = .ok (.iload_n 1, 1) := by decide +kernel
theorem dL_does_26 : decode cL_does 26 = .ok (.iconst 2, 1) := by decide +kernel
theorem dL_does_27 : decode cL_does 27 = .ok (.if_icmp .ne 12, 3) := by decide +kernel
theorem dL_does_30 : decode cL_does 30 = .ok (.aload_n 0, 1) := by decide +kernel
theorem dL_does_31 : decode cL_does 31 = .ok (.iload_n 2, 1) := by decide +kernel
theorem dL_does_32 : decode cL_does 32 = .ok (.iload_n 3, 1) := by decide +kernel
theorem dL_does_33 : decode cL_does 33 = .ok (.invokevirtual 66, 3) := by decide +kernel
theorem dL_does_36 : decode cL_does 36 = .ok (.goto 88, 3) := by decide +kernel
theorem dL_does_39 : decode cL_does 39 = .ok (.iload_n 1, 1) := by decide +kernel
theorem dL_does_40 : decode cL_does 40 = .ok (.iconst 3, 1) := by decide +kernel
theorem dL_does_41 : decode cL_does 41 = .ok (.if_icmp .ne 11, 3) := by decide +kernel
theorem dL_does_44 : decode cL_does 44 = .ok (.aload_n 0, 1) := by decide +kernel
theorem dL_does_45 : decode cL_does 45 = .ok (.iload_n 2, 1) := by decide +kernel
theorem dL_does_46 : decode cL_does 46 = .ok (.invokevirtual 68, 3) := by decide +kernel
theorem dL_does_49 : decode cL_does 49 = .ok (.goto 75, 3) := by decide +kernel
theorem dL_does_52 : decode cL_does 52 = .ok (.iload_n 1, 1) := by decide +kernel
theorem dL_does_53 : decode cL_does 53 = .ok (.iconst 4, 1) := by decide +kernel
theorem dL_does_54 : decode cL_does 54 = .ok (.if_icmp .ne 11, 3) := by decide +kernel
theorem dL_does_57 : decode cL_does 57 = .ok (.aload_n 0, 1) := by decide +kernel
theorem dL_does_58 : decode cL_does 58 = .ok (.iload_n 2, 1) := by decide +kernel
theorem dL_does_59 : decode cL_does 59 = .ok (.invokevirtual 72, 3) := by decide +kernel
theorem dL_does_62 : decode cL_does 62 = .ok (.goto 62, 3) := by decide +kernel
theorem dL_does_65 : decode cL_does 65 = .ok (.iload_n 1, 1) := by decide +kernel
theorem dL_does_66 : decode cL_does 66 = .ok (.iconst 5, 1) := by decide +kernel
theorem dL_does_67 : decode cL_does 67 = .ok (.if_icmp .ne 12, 3) := by decide +kernel
theorem dL_does_70 : decode cL_does 70 = .ok (.aload_n 0, 1) := by decide +kernel
theorem dL_does_71 : decode cL_does 71 = .ok (.iload_n 2, 1) := by decide +kernel
theorem dL_does_72 : decode cL_does 72 = .ok (.iload_n 3, 1) := by decide +kernel
theorem dL_does_73 : decode cL_does 73 = .ok (.invokevirtual 75, 3) := by decide +kernel
theorem dL_does_76 : decode cL_does 76 = .ok (.goto 48, 3) := by decide +kernel
theorem dL_does_79 : decode cL_does 79 = .ok (.iload_n 1, 1) := by decide +kernel
theorem dL_does_80 : decode cL_does 80 = .ok (.bipush 6, 2) := by decide +kernel
theorem dL_does_82 : decode cL_does 82 = .ok (.if_icmp .ne 21, 3) := by decide +kernel
theorem dL_does_85 : decode cL_does 85 = .ok (.aload_n 0, 1) := by decide +kernel
theorem dL_does_86 : decode cL_does 86 = .ok (.iload_n 2, 1) := by decide +kernel
theorem dL_does_87 : decode cL_does 87 = .ok (.iload_n 3, 1) := by decide +kernel
theorem dL_does_88 : decode cL_does 88 = .ok (.iconst 1, 1) := by decide +kernel
theorem dL_does_89 : decode cL_does 89 = .ok (.if_icmp .ne 7, 3) := by decide +kernel
theorem dL_does_92 : decode cL_does 92 = .ok (.iconst 1, 1) := by decide +kernel
theorem dL_does_93 : decode cL_does 93 = .ok (.goto 4, 3) := by decide +kernel
theorem dL_does_96 : decode cL_does 96 = .ok (.iconst 0, 1) := by decide +kernel
theorem dL_does_97 : decode cL_does 97 = .ok (.invokevirtual 78, 3) := by decide +kernel
theorem dL_does_100 : decode cL_does 100 = .ok (.goto 24, 3) := by decide +kernel
theorem dL_does_103 : decode cL_does 103 = .ok (.iload_n 1, 1) := by decide +kernel
theorem dL_does_104 : decode cL_does 104 = .ok (.bipush 7, 2) := by decide +kernel
theorem dL_does_106 : decode cL_does 106 = .ok (.if_icmp .ne 12, 3) := by decide +kernel
theorem dL_does_109 : decode cL_does 109 = .ok (.aload_n 0, 1) := by decide +kernel
theorem dL_does_110 : decode cL_does 110 = .ok (.iload_n 2, 1) := by decide +kernel
theorem dL_does_111 : decode cL_does 111 = .ok (.iload_n 3, 1) := by decide +kernel
theorem dL_does_112 : decode cL_does 112 = .ok (.invokevirtual 82, 3) := by decide +kernel
theorem dL_does_115 : decode cL_does 115 = .ok (.goto 9, 3) := by decide +kernel
theorem dL_does_118 : decode cL_does 118 = .ok (.aload_n 0, 1) := by decide +kernel
theorem dL_does_119 : decode cL_does 119 = .ok (.iload_n 2, 1) := by decide +kernel
theorem dL_does_120 : decode cL_does 120 = .ok (.iload_n 3, 1) := by decide +kernel
theorem dL_does_121 : decode cL_does 121 = .ok (.invokevirtual 85, 3) := by decide +kernel
theorem dL_does_124 : decode cL_does 124 = .ok (.ireturn, 1) := by decide +kernel
theorem dL_does_125 : decode cL_does 125 = .ok (.astore 4, 2) := by decide +kernel
theorem dL_does_127 : decode cL_does 127 = .ok (.bipush (-11), 2) := by decide +kernel
theorem dL_does_129 : decode cL_does 129 = .ok (.ireturn, 1) := by decide +kernel
theorem dL_does_130 : decode cL_does 130 = .ok (.astore 4, 2) := by decide +kernel
theorem dL_does_132 : decode cL_does 132 = .ok (.bipush (-12), 2) := by decide +kernel
theorem dL_does_134 : decode cL_does 134 = .ok (.ireturn, 1) := by decide +kernel
theorem dL_does_135 : decode cL_does 135 = .ok (.astore 4, 2) := by decide +kernel
theorem dL_does_137 : decode cL_does 137 = .ok (.bipush (-13), 2) := by decide +kernel
theorem dL_does_139 : decode cL_does 139 = .ok (.ireturn, 1) := by decide +kernel
set_option maxRecDepth 20000 in
theorem ggL_protects_X6_protect : GoodIn wsL_protects wsX6_protect := goodIn_ca (goodIn_ca (goodIn_r _ [7, 8, 9, 10, 11, 12, 6, 13, 14, 15, 16, 17, 18, 19, 20, 21, 22, 23, 24, 25, 26, 27, 28, 29, 30, 31, 32, 33, 34, 35, 36, 37, 38, 39, 40, 41, 42, 43, 44, 45, 46, 47, 48, 49, 50, 51, 52, 53, 54, 55, 56, 57, 58, 59, 60, 61, 62, 63, 64, 65, 66, 67, 68, 69, 70, 71, 72, 73, 74, 75, 76, 77, 78, 79, 80, 81, 82, 83, 84, 85, 86, 87, 88, 89, 90, 91, 92, 93, 94, 95] (by decide +kernel) (by decide +kernel)) (goodIn_sub (fun _ h => List.mem_cons_of_mem _ (List.mem_append_left _ (List.mem_append_right _ h))) (by decide +kernel))) (goodIn_sub (fun _ h => List.mem_cons_of_mem _ (List.mem_append_right _ h)) (by decide +kernel))
set_option maxRecDepth 20000 in
theorem gL_protects_X6_protect : GoodIn wsL_protects (wsV RL 94 RX6 yX6_protect wsX6_protect) := goodIn_app (goodIn_of _ (by decide +kernel)) ggL_protects_X6_protect
theorem dL_protects_0 : decode cL_protects 0 = .ok (.aload_n 0, 1) := by decide +kernel
theorem dL_protects_1 : decode cL_protects 1 = .ok (.iload_n 1, 1) := by decide +kernel
theorem dL_protects_2 : decode cL_protects 2 = .ok (.iload_n 2, 1) := by decide +kernel
theorem dL_protects_3 : decode cL_protects 3 = .ok (.iload_n 3, 1) := by decide +kernel
theorem dL_protects_4 : decode cL_protects 4 = .ok (.invokevirtual 94, 3) := by decide +kernel
theorem dL_protects_7 : decode cL_protects 7 = .ok (.ifCond .eq 7, 3) := by decide +kernel
theorem dL_protects_10 : decode cL_protects 10 = .ok (.iconst 1, 1) := by decide +kernel
theorem dL_protects_11 : decode cL_protects 11 = .ok (.goto 4, 3) := by decide +kernel
theorem dL_protects_14 : decode cL_protects 14 = .ok (.iconst 0, 1) := by decide +kernel
theorem dL_protects_15 : decode cL_protects 15 = .ok (.ireturn, 1) := by decide +kernel
theorem dL_protects_16 : decode cL_protects 16 = .ok (.astore 4, 2) := by decide +kernel
theorem dL_protects_18 : decode cL_protects 18 = .ok (.bipush (-11), 2) := by decide +kernel
theorem dL_protects_20 : decode cL_protects 20 = .ok (.ireturn, 1) := by decide +kernel
theorem dL_protects_21 : decode cL_protects 21 = .ok (.astore 4, 2) := by decide +kernel
theorem dL_protects_23 : decode cL_protects 23 = .ok (.bipush (-13), 2) := by decide +kernel
theorem dL_protects_25 : decode cL_protects 25 = .ok (.ireturn, 1) := by decide +kernel
set_option maxRecDepth 20000 in
theorem ggL_many_L_isIn : GoodIn wsL_many wsL_isIn := goodIn_r _ [4] (by decide +kernel) (by decide +kernel)
set_option maxRecDepth 20000 in
theorem gL_many_L_isIn : GoodIn wsL_many (va_wsS RL 15 yL_isIn wsL_isIn) := goodIn_app (goodIn_of _ (by decide +kernel)) ggL_many_L_isIn
theorem dL_many_0 : decode cL_many 0 = .ok (.iconst 0, 1) := by decide +kernel
theorem dL_many_1 : decode cL_many 1 = .ok (.istore_n 1, 1) := by decide +kernel
theorem dL_many_2 : decode cL_many 2 = .ok (.iconst 0, 1) := by decide +kernel
theorem dL_many_3 : decode cL_many 3 = .ok (.istore_n 2, 1) := by decide +kernel
theorem dL_many_4 : decode cL_many 4 = .ok (.iload_n 2, 1) := by decide +kernel
theorem dL_many_5 : decode cL_many 5 = .ok (.bipush 40, 2) := by decide +kernel
theorem dL_many_7 : decode cL_many 7 = .ok (.if_icmp .ge 26, 3) := by decide +kernel
theorem dL_many_10 : decode cL_many 10 = .ok (.iload_n 1, 1) := by decide +kernel
theorem dL_many_11 : decode cL_many 11 = .ok (.aload_n 0, 1) := by decide +kernel
theorem dL_many_12 : decode cL_many 12 = .ok (.iload_n 2, 1) := by decide +kernel
theorem dL_many_13 : decode cL_many 13 = .ok (.laload, 1) := by decide +kernel
theorem dL_many_14 : decode cL_many 14 = .ok (.invokestatic 15, 3) := by decide +kernel
theorem dL_many_17 : decode cL_many 17 = .ok (.ifCond .eq 7, 3) := by decide +kernel
theorem dL_many_20 : decode cL_many 20 = .ok (.iconst 1, 1) := by decide +kernel
theorem dL_many_21 : decode cL_many 21 = .ok (.goto 4, 3) := by decide +kernel
theorem dL_many_24 : decode cL_many 24 = .ok (.iconst 0, 1) := by decide +kernel
theorem dL_many_25 : decode cL_many 25 = .ok (.iadd, 1) := by decide +kernel
theorem dL_many_26 : decode cL_many 26 = .ok (.istore_n 1, 1) := by decide +kernel
theorem dL_many_27 : decode cL_many 27 = .ok (.iinc 2 1, 3) := by decide +kernel
theorem dL_many_30 : decode cL_many 30 = .ok (.goto (-26), 3) := by decide +kernel
theorem dL_many_33 : decode cL_many 33 = .ok (.iload_n 1, 1) := by decide +kernel
theorem dL_many_34 : decode cL_many 34 = .ok (.ireturn, 1) := by decide +kernel
set_option maxRecDepth 20000 in
theorem ggL_isCatalogue_X6_batches : GoodIn wsL_isCatalogue wsX6_batches := goodIn_r _ [5, 6, 210, 211, 212, 213, 214, 215, 216, 217, 218, 219, 220, 221] (by decide +kernel) (by decide +kernel)
set_option maxRecDepth 20000 in
theorem gL_isCatalogue_X6_batches : GoodIn wsL_isCatalogue (wsV RL 98 RX6 yX6_batches wsX6_batches) := goodIn_app (goodIn_of _ (by decide +kernel)) ggL_isCatalogue_X6_batches
set_option maxRecDepth 20000 in
theorem ggL_isCatalogue_X6_loads : GoodIn wsL_isCatalogue wsX6_loads := goodIn_r _ [10, 6, 210, 211, 212, 213, 214, 215, 216, 217, 218, 219, 220, 221] (by decide +kernel) (by decide +kernel)
set_option maxRecDepth 20000 in
theorem gL_isCatalogue_X6_loads : GoodIn wsL_isCatalogue (wsV RL 101 RX6 yX6_loads wsX6_loads) := goodIn_app (goodIn_of _ (by decide +kernel)) ggL_isCatalogue_X6_loads
set_option maxRecDepth 20000 in
theorem ggL_isCatalogue_X6_records : GoodIn wsL_isCatalogue wsX6_records := goodIn_r _ [14, 15, 16, 17, 18, 19, 20, 21, 22, 23, 24, 25, 26, 27, 28, 29, 30, 31, 210, 211, 212, 213, 214, 222, 223, 224, 225, 226, 227, 228, 229] (by decide +kernel) (by decide +kernel)
set_option maxRecDepth 20000 in
theorem gL_isCatalogue_X6_records : GoodIn wsL_isCatalogue (wsV RL 103 RX6 yX6_records wsX6_records) := goodIn_app (goodIn_of _ (by decide +kernel)) ggL_isCatalogue_X6_records
set_option maxRecDepth 20000 in
theorem ggL_isCatalogue_L_many : GoodIn wsL_isCatalogue wsL_many := goodIn_r _ [35, 36, 37, 34, 38] (by decide +kernel) (by decide +kernel)
set_option maxRecDepth 20000 in
theorem gL_isCatalogue_L_many : GoodIn wsL_isCatalogue (va_wsS RL 106 yL_many wsL_many) := goodIn_app (goodIn_of _ (by decide +kernel)) ggL_isCatalogue_L_many
set_option maxRecDepth 20000 in
theorem ggL_isCatalogue_X6_isThere : GoodIn wsL_isCatalogue wsX6_isThere := goodIn_r _ [42, 15, 43, 22, 23, 19, 24, 25, 26, 27, 28, 29, 30, 31, 210, 211, 212, 213, 214, 222, 223, 224, 225, 226, 227, 228, 229] (by decide +kernel) (by decide +kernel)
set_option maxRecDepth 20000 in
theorem gL_isCatalogue_X6_isThere : GoodIn wsL_isCatalogue (wsV RL 110 RX6 yX6_isThere wsX6_isThere) := goodIn_app (goodIn_of _ (by decide +kernel)) ggL_isCatalogue_X6_isThere
set_option maxRecDepth 20000 in
theorem ggL_isCatalogue_L_isIn : GoodIn wsL_isCatalogue wsL_isIn := goodIn_r _ [38] (by decide +kernel) (by decide +kernel)
set_option maxRecDepth 20000 in
theorem gL_isCatalogue_L_isIn : GoodIn wsL_isCatalogue (va_wsS RL 15 yL_isIn wsL_isIn) := goodIn_app (goodIn_of _ (by decide +kernel)) ggL_isCatalogue_L_isIn
set_option maxRecDepth 20000 in
theorem ggL_isCatalogue_X6_hit : GoodIn wsL_isCatalogue wsX6_hit := goodIn_ca (goodIn_r _ [47, 6, 15, 48, 49, 4, 50, 51, 52, 53, 27, 28, 29, 30, 31, 210, 211, 212, 213, 214, 215, 216, 217, 218, 219, 220, 221, 222, 223, 224, 225, 226, 227, 228, 229] (by decide +kernel) (by decide +kernel)) (goodIn_sub (fun _ h => List.mem_cons_of_mem _ (List.mem_append_right _ h)) (by decide +kernel))
set_option maxRecDepth 20000 in
theorem gL_isCatalogue_X6_hit : GoodIn wsL_isCatalogue (wsV RL 114 RX6 yX6_hit wsX6_hit) := goodIn_app (goodIn_of _ (by decide +kernel)) ggL_isCatalogue_X6_hit
set_option maxRecDepth 20000 in
theorem ggL_isCatalogue_X6_keyOf : GoodIn wsL_isCatalogue wsX6_keyOf := goodIn_ca (goodIn_r _ [57, 15, 58, 59, 60, 4, 61, 51, 52, 43, 22, 23, 19, 24, 25, 26, 27, 28, 29, 30, 31, 48, 49, 50, 62, 63, 64, 65, 66, 67, 68, 69, 210, 211, 212, 213, 214, 222, 223, 224, 225, 226, 227, 228, 229, 230, 231, 232] (by decide +kernel) (by decide +kernel)) (goodIn_sub (fun _ h => List.mem_cons_of_mem _ (List.mem_append_right _ h)) (by decide +kernel))
set_option maxRecDepth 20000 in
theorem gL_isCatalogue_X6_keyOf : GoodIn wsL_isCatalogue (wsV RL 117 RX6 yX6_keyOf wsX6_keyOf) := goodIn_app (goodIn_of _ (by decide +kernel)) ggL_isCatalogue_X6_keyOf
set_option maxRecDepth 20000 in
theorem ggL_isCatalogue_L_key : GoodIn wsL_isCatalogue wsL_key := goodIn_r _ [72, 73] (by decide +kernel) (by decide +kernel)
set_option maxRecDepth 20000 in
theorem gL_isCatalogue_L_key : GoodIn wsL_isCatalogue (va_wsS RL 21 yL_key wsL_key) := goodIn_app (goodIn_of _ (by decide +kernel)) ggL_isCatalogue_L_key
set_option maxRecDepth 20000 in
theorem ggL_isCatalogue_L_field : GoodIn wsL_isCatalogue wsL_field := goodIn_r _ [76, 77] (by decide +kernel) (by decide +kernel)
set_option maxRecDepth 20000 in
theorem gL_isCatalogue_L_field : GoodIn wsL_isCatalogue (va_wsS RL 35 yL_field wsL_field) := goodIn_app (goodIn_of _ (by decide +kernel)) ggL_isCatalogue_L_field
set_option maxRecDepth 20000 in
theorem ggL_isCatalogue_X6_fieldOf : GoodIn wsL_isCatalogue wsX6_fieldOf := goodIn_ca (goodIn_r _ [81, 15, 58, 59, 60, 4, 61, 51, 52, 43, 22, 23, 19, 24, 25, 26, 27, 28, 29, 30, 31, 48, 49, 50, 62, 63, 64, 65, 66, 67, 68, 69, 210, 211, 212, 213, 214, 222, 223, 224, 225, 226, 227, 228, 229, 230, 231, 232] (by decide +kernel) (by decide +kernel)) (goodIn_sub (fun _ h => List.mem_cons_of_mem _ (List.mem_append_right _ h)) (by decide +kernel))
set_option maxRecDepth 20000 in
theorem gL_isCatalogue_X6_fieldOf : GoodIn wsL_isCatalogue (wsV RL 120 RX6 yX6_fieldOf wsX6_fieldOf) := goodIn_app (goodIn_of _ (by decide +kernel)) ggL_isCatalogue_X6_fieldOf
set_option maxRecDepth 20000 in
theorem ggL_isCatalogue_X6_sourceOf : GoodIn wsL_isCatalogue wsX6_sourceOf := goodIn_ca (goodIn_r _ [85, 15, 58, 59, 60, 4, 61, 51, 52, 43, 22, 23, 19, 24, 25, 26, 27, 28, 29, 30, 31, 48, 49, 50, 62, 63, 64, 65, 66, 67, 68, 69, 210, 211, 212, 213, 214, 222, 223, 224, 225, 226, 227, 228, 229, 230, 231, 232] (by decide +kernel) (by decide +kernel)) (goodIn_sub (fun _ h => List.mem_cons_of_mem _ (List.mem_append_right _ h)) (by decide +kernel))
set_option maxRecDepth 20000 in
theorem gL_isCatalogue_X6_sourceOf : GoodIn wsL_isCatalogue (wsV RL 123 RX6 yX6_sourceOf wsX6_sourceOf) := goodIn_app (goodIn_of _ (by decide +kernel)) ggL_isCatalogue_X6_sourceOf
set_option maxRecDepth 20000 in
theorem ggL_isCatalogue_L_source : GoodIn wsL_isCatalogue wsL_source := goodIn_r _ [88, 89] (by decide +kernel) (by decide +kernel)
set_option maxRecDepth 20000 in
theorem gL_isCatalogue_L_source : GoodIn wsL_isCatalogue (va_wsS RL 38 yL_source wsL_source) := goodIn_app (goodIn_of _ (by decide +kernel)) ggL_isCatalogue_L_source
set_option maxRecDepth 20000 in
theorem ggL_isCatalogue_X6_holdings : GoodIn wsL_isCatalogue wsX6_holdings := goodIn_ca (goodIn_r _ [93, 15, 58, 59, 60, 4, 61, 51, 52, 43, 22, 23, 19, 24, 25, 26, 27, 28, 29, 30, 31, 53, 210, 211, 212, 213, 214, 222, 223, 224, 225, 226, 227, 228, 229] (by decide +kernel) (by decide +kernel)) (goodIn_sub (fun _ h => List.mem_cons_of_mem _ (List.mem_append_right _ h)) (by decide +kernel))
set_option maxRecDepth 20000 in
theorem gL_isCatalogue_X6_holdings : GoodIn wsL_isCatalogue (wsV RL 126 RX6 yX6_holdings wsX6_holdings) := goodIn_app (goodIn_of _ (by decide +kernel)) ggL_isCatalogue_X6_holdings
set_option maxRecDepth 20000 in
theorem ggL_isCatalogue_X6_isUndone : GoodIn wsL_isCatalogue wsX6_isUndone := goodIn_ca (goodIn_r _ [97, 6, 48, 49, 4, 50, 51, 52, 53, 27, 28, 29, 30, 31, 210, 211, 212, 213, 214, 215, 216, 217, 218, 219, 220, 221, 229] (by decide +kernel) (by decide +kernel)) (goodIn_sub (fun _ h => List.mem_cons_of_mem _ (List.mem_append_right _ h)) (by decide +kernel))
set_option maxRecDepth 20000 in
theorem gL_isCatalogue_X6_isUndone : GoodIn wsL_isCatalogue (wsV RL 129 RX6 yX6_isUndone wsX6_isUndone) := goodIn_app (goodIn_of _ (by decide +kernel)) ggL_isCatalogue_X6_isUndone
set_option maxRecDepth 20000 in
theorem ggL_isCatalogue_X6_digest : GoodIn wsL_isCatalogue wsX6_digest := goodIn_r _ [101, 15, 102, 103, 104, 19, 105, 106, 21, 22, 23, 24, 25, 26, 27, 28, 29, 30, 31, 107, 108, 109, 110, 111, 112, 113, 114, 115, 116, 117, 63, 64, 65, 66, 67, 68, 69, 210, 211, 212, 213, 214, 222, 223, 224, 225, 226, 227, 228, 229, 230, 231, 232] (by decide +kernel) (by decide +kernel)
set_option maxRecDepth 20000 in
theorem gL_isCatalogue_X6_digest : GoodIn wsL_isCatalogue (wsV RL 132 RX6 yX6_digest wsX6_digest) := goodIn_app (goodIn_of _ (by decide +kernel)) ggL_isCatalogue_X6_digest
set_option maxRecDepth 20000 in
theorem ggL_isCatalogue_X6_digestAnew : GoodIn wsL_isCatalogue wsX6_digestAnew := goodIn_r _ [121, 122, 123, 124, 125, 4, 126, 127, 128, 129, 130, 19, 131, 25, 111, 116, 132, 133, 106, 134, 135, 136, 137, 29, 138, 31, 139, 140, 141, 142, 143, 144, 145, 65, 146, 69, 147, 148, 149, 150, 151, 152, 6, 53, 27, 28, 30, 153, 154, 155, 156, 157, 158, 159, 160, 161, 162, 163, 164, 165, 166, 167, 168, 26, 117, 63, 64, 66, 67, 68, 169, 170, 171, 172, 173, 174, 175, 176, 177, 178, 179, 180, 181, 182, 183, 184, 185, 186, 187, 188, 189, 190, 191, 192, 193, 194, 195, 196, 197, 198, 199, 200, 21, 22, 23, 24, 201, 202, 203, 204, 205, 206, 207, 208, 209, 102, 103, 104, 105, 107, 108, 109, 110, 112, 113, 114, 115, 210, 211, 212, 213, 214, 233, 234, 235, 236, 237, 238, 222, 223, 224, 225, 226, 227, 228, 229, 230, 231, 232, 215, 216, 217, 218, 219, 220, 221, 239, 240, 241] (by decide +kernel) (by decide +kernel)
set_option maxRecDepth 20000 in
theorem gL_isCatalogue_X6_digestAnew : GoodIn wsL_isCatalogue (wsV RL 135 RX6 yX6_digestAnew wsX6_digestAnew) := goodIn_app (goodIn_of _ (by decide +kernel)) ggL_isCatalogue_X6_digestAnew
theorem dL_isCatalogue_0 : decode cL_isCatalogue 0 = .ok (.iconst 0, 1) := by decide +kernel
theorem dL_isCatalogue_1 : decode cL_isCatalogue 1 = .ok (.istore 6, 2) := by decide +kernel
theorem dL_isCatalogue_3 : decode cL_isCatalogue 3 = .ok (.aload_n 0, 1) := by decide +kernel
theorem dL_isCatalogue_4 : decode cL_isCatalogue 4 = .ok (.invokevirtual 98, 3) := by decide +kernel
theorem dL_isCatalogue_7 : decode cL_isCatalogue 7 = .ok (.aload_n 3, 1) := by decide +kernel
theorem dL_isCatalogue_8 : decode cL_isCatalogue 8 = .ok (.iconst 0, 1) := by decide +kernel
theorem dL_isCatalogue_9 : decode cL_isCatalogue 9 = .ok (.iaload, 1) := by decide +kernel
theorem dL_isCatalogue_10 : decode cL_isCatalogue 10 = .ok (.if_icmp .ne 28, 3) := by decide +kernel
theorem dL_isCatalogue_13 : decode cL_isCatalogue 13 = .ok (.aload_n 0, 1) := by decide +kernel
theorem dL_isCatalogue_14 : decode cL_isCatalogue 14 = .ok (.invokevirtual 101, 3) := by decide +kernel
theorem dL_isCatalogue_17 : decode cL_isCatalogue 17 = .ok (.aload_n 3, 1) := by decide +kernel
theorem dL_isCatalogue_18 : decode cL_isCatalogue 18 = .ok (.iconst 1, 1) := by decide +kernel
theorem dL_isCatalogue_19 : decode cL_isCatalogue 19 = .ok (.iaload, 1) := by decide +kernel
theorem dL_isCatalogue_20 : decode cL_isCatalogue 20 = .ok (.if_icmp .ne 18, 3) := by decide +kernel
theorem dL_isCatalogue_23 : decode cL_isCatalogue 23 = .ok (.aload_n 0, 1) := by decide +kernel
theorem dL_isCatalogue_24 : decode cL_isCatalogue 24 = .ok (.invokevirtual 103, 3) := by decide +kernel
theorem dL_isCatalogue_27 : decode cL_isCatalogue 27 = .ok (.aload_n 1, 1) := by decide +kernel
theorem dL_isCatalogue_28 : decode cL_isCatalogue 28 = .ok (.invokestatic 106, 3) := by decide +kernel
theorem dL_isCatalogue_31 : decode cL_isCatalogue 31 = .ok (.if_icmp .ne 7, 3) := by decide +kernel
theorem dL_isCatalogue_34 : decode cL_isCatalogue 34 = .ok (.iconst 1, 1) := by decide +kernel
theorem dL_isCatalogue_35 : decode cL_isCatalogue 35 = .ok (.goto 4, 3) := by decide +kernel
theorem dL_isCatalogue_38 : decode cL_isCatalogue 38 = .ok (.iconst 0, 1) := by decide +kernel
theorem dL_isCatalogue_39 : decode cL_isCatalogue 39 = .ok (.istore 7, 2) := by decide +kernel
theorem dL_isCatalogue_41 : decode cL_isCatalogue 41 = .ok (.iconst 0, 1) := by decide +kernel
theorem dL_isCatalogue_42 : decode cL_isCatalogue 42 = .ok (.istore 8, 2) := by decide +kernel
theorem dL_isCatalogue_44 : decode cL_isCatalogue 44 = .ok (.iload 8, 2) := by decide +kernel
theorem dL_isCatalogue_46 : decode cL_isCatalogue 46 = .ok (.bipush 40, 2) := by decide +kernel
theorem dL_isCatalogue_48 : decode cL_isCatalogue 48 = .ok (.if_icmp .ge 300, 3) := by decide +kernel
theorem dL_isCatalogue_51 : decode cL_isCatalogue 51 = .ok (.iload 7, 2) := by decide +kernel
theorem dL_isCatalogue_53 : decode cL_isCatalogue 53 = .ok (.ifCond .eq 295, 3) := by decide +kernel
theorem dL_isCatalogue_56 : decode cL_isCatalogue 56 = .ok (.aload_n 0, 1) := by decide +kernel
theorem dL_isCatalogue_57 : decode cL_isCatalogue 57 = .ok (.iload 8, 2) := by decide +kernel
theorem dL_isCatalogue_59 : decode cL_isCatalogue 59 = .ok (.invokevirtual 110, 3) := by decide +kernel
theorem dL_isCatalogue_62 : decode cL_isCatalogue 62 = .ok (.aload_n 1, 1) := by decide +kernel
theorem dL_isCatalogue_63 : decode cL_isCatalogue 63 = .ok (.iload 8, 2) := by decide +kernel
theorem dL_isCatalogue_65 : decode cL_isCatalogue 65 = .ok (.laload, 1) := by decide +kernel
theorem dL_isCatalogue_66 : decode cL_isCatalogue 66 = .ok (.invokestatic 15, 3) := by decide +kernel
theorem dL_isCatalogue_69 : decode cL_isCatalogue 69 = .ok (.if_icmp .ne 29, 3) := by decide +kernel
theorem dL_isCatalogue_72 : decode cL_isCatalogue 72 = .ok (.iload 8, 2) := by decide +kernel
theorem dL_isCatalogue_74 : decode cL_isCatalogue 74 = .ok (.aload_n 3, 1) := by decide +kernel
theorem dL_isCatalogue_75 : decode cL_isCatalogue 75 = .ok (.iconst 1, 1) := by decide +kernel
theorem dL_isCatalogue_76 : decode cL_isCatalogue 76 = .ok (.iaload, 1) := by decide +kernel
theorem dL_isCatalogue_77 : decode cL_isCatalogue 77 = .ok (.if_icmp .ge 17, 3) := by decide +kernel
theorem dL_isCatalogue_80 : decode cL_isCatalogue 80 = .ok (.aload_n 0, 1) := by decide +kernel
theorem dL_isCatalogue_81 : decode cL_isCatalogue 81 = .ok (.iload 8, 2) := by decide +kernel
theorem dL_isCatalogue_83 : decode cL_isCatalogue 83 = .ok (.invokevirtual 114, 3) := by decide +kernel
theorem dL_isCatalogue_86 : decode cL_isCatalogue 86 = .ok (.aload 4, 2) := by decide +kernel
theorem dL_isCatalogue_88 : decode cL_isCatalogue 88 = .ok (.iload 8, 2) := by decide +kernel
theorem dL_isCatalogue_90 : decode cL_isCatalogue 90 = .ok (.iaload, 1) := by decide +kernel
theorem dL_isCatalogue_91 : decode cL_isCatalogue 91 = .ok (.if_icmp .ne 7, 3) := by decide +kernel
theorem dL_isCatalogue_94 : decode cL_isCatalogue 94 = .ok (.iconst 1, 1) := by decide +kernel
theorem dL_isCatalogue_95 : decode cL_isCatalogue 95 = .ok (.goto 4, 3) := by decide +kernel
theorem dL_isCatalogue_98 : decode cL_isCatalogue 98 = .ok (.iconst 0, 1) := by decide +kernel
theorem dL_isCatalogue_99 : decode cL_isCatalogue 99 = .ok (.istore 7, 2) := by decide +kernel
theorem dL_isCatalogue_101 : decode cL_isCatalogue 101 = .ok (.iload 7, 2) := by decide +kernel
theorem dL_isCatalogue_103 : decode cL_isCatalogue 103 = .ok (.ifCond .eq 239, 3) := by decide +kernel
theorem dL_isCatalogue_106 : decode cL_isCatalogue 106 = .ok (.aload_n 1, 1) := by decide +kernel
theorem dL_isCatalogue_107 : decode cL_isCatalogue 107 = .ok (.iload 8, 2) := by decide +kernel
theorem dL_isCatalogue_109 : decode cL_isCatalogue 109 = .ok (.laload, 1) := by decide +kernel
theorem dL_isCatalogue_110 : decode cL_isCatalogue 110 = .ok (.invokestatic 15, 3) := by decide +kernel
theorem dL_isCatalogue_113 : decode cL_isCatalogue 113 = .ok (.ifCond .eq 229, 3) := by decide +kernel
theorem dL_isCatalogue_116 : decode cL_isCatalogue 116 = .ok (.iconst 0, 1) := by decide +kernel
theorem dL_isCatalogue_117 : decode cL_isCatalogue 117 = .ok (.istore 9, 2) := by decide +kernel
theorem dL_isCatalogue_119 : decode cL_isCatalogue 119 = .ok (.iconst 0, 1) := by decide +kernel
theorem dL_isCatalogue_120 : decode cL_isCatalogue 120 = .ok (.istore 10, 2) := by decide +kernel
theorem dL_isCatalogue_122 : decode cL_isCatalogue 122 = .ok (.iload 10, 2) := by decide +kernel
theorem dL_isCatalogue_124 : decode cL_isCatalogue 124 = .ok (.iconst 3, 1) := by decide +kernel
theorem dL_isCatalogue_125 : decode cL_isCatalogue 125 = .ok (.if_icmp .ge 75, 3) := by decide +kernel
theorem dL_isCatalogue_128 : decode cL_isCatalogue 128 = .ok (.iload 7, 2) := by decide +kernel
theorem dL_isCatalogue_130 : decode cL_isCatalogue 130 = .ok (.ifCond .eq 29, 3) := by decide +kernel
theorem dL_isCatalogue_133 : decode cL_isCatalogue 133 = .ok (.aload_n 0, 1) := by decide +kernel
theorem dL_isCatalogue_134 : decode cL_isCatalogue 134 = .ok (.iload 8, 2) := by decide +kernel
theorem dL_isCatalogue_136 : decode cL_isCatalogue 136 = .ok (.iload 10, 2) := by decide +kernel
theorem dL_isCatalogue_138 : decode cL_isCatalogue 138 = .ok (.invokevirtual 117, 3) := by decide +kernel
theorem dL_isCatalogue_141 : decode cL_isCatalogue 141 = .ok (.aload_n 1, 1) := by decide +kernel
theorem dL_isCatalogue_142 : decode cL_isCatalogue 142 = .ok (.iload 8, 2) := by decide +kernel
theorem dL_isCatalogue_144 : decode cL_isCatalogue 144 = .ok (.laload, 1) := by decide +kernel
theorem dL_isCatalogue_145 : decode cL_isCatalogue 145 = .ok (.iload 10, 2) := by decide +kernel
theorem dL_isCatalogue_147 : decode cL_isCatalogue 147 = .ok (.invokestatic 21, 3) := by decide +kernel
theorem dL_isCatalogue_150 : decode cL_isCatalogue 150 = .ok (.iconst 1, 1) := by decide +kernel
theorem dL_isCatalogue_151 : decode cL_isCatalogue 151 = .ok (.isub, 1) := by decide +kernel
theorem dL_isCatalogue_152 : decode cL_isCatalogue 152 = .ok (.if_icmp .ne 7, 3) := by decide +kernel
theorem dL_isCatalogue_155 : decode cL_isCatalogue 155 = .ok (.iconst 1, 1) := by decide +kernel
theorem dL_isCatalogue_156 : decode cL_isCatalogue 156 = .ok (.goto 4, 3) := by decide +kernel
theorem dL_isCatalogue_159 : decode cL_isCatalogue 159 = .ok (.iconst 0, 1) := by decide +kernel
theorem dL_isCatalogue_160 : decode cL_isCatalogue 160 = .ok (.istore 7, 2) := by decide +kernel
theorem dL_isCatalogue_162 : decode cL_isCatalogue 162 = .ok (.iload 9, 2) := by decide +kernel
theorem dL_isCatalogue_164 : decode cL_isCatalogue 164 = .ok (.aload_n 1, 1) := by decide +kernel
theorem dL_isCatalogue_165 : decode cL_isCatalogue 165 = .ok (.iload 8, 2) := by decide +kernel
theorem dL_isCatalogue_167 : decode cL_isCatalogue 167 = .ok (.laload, 1) := by decide +kernel
theorem dL_isCatalogue_168 : decode cL_isCatalogue 168 = .ok (.iload 10, 2) := by decide +kernel
theorem dL_isCatalogue_170 : decode cL_isCatalogue 170 = .ok (.invokestatic 21, 3) := by decide +kernel
theorem dL_isCatalogue_173 : decode cL_isCatalogue 173 = .ok (.ifCond .ne 7, 3) := by decide +kernel
theorem dL_isCatalogue_176 : decode cL_isCatalogue 176 = .ok (.iconst 0, 1) := by decide +kernel
theorem dL_isCatalogue_177 : decode cL_isCatalogue 177 = .ok (.goto 14, 3) := by decide +kernel
theorem dL_isCatalogue_180 : decode cL_isCatalogue 180 = .ok (.aload_n 1, 1) := by decide +kernel
theorem dL_isCatalogue_181 : decode cL_isCatalogue 181 = .ok (.iload 8, 2) := by decide +kernel
theorem dL_isCatalogue_183 : decode cL_isCatalogue 183 = .ok (.laload, 1) := by decide +kernel
theorem dL_isCatalogue_184 : decode cL_isCatalogue 184 = .ok (.iload 10, 2) := by decide +kernel
theorem dL_isCatalogue_186 : decode cL_isCatalogue 186 = .ok (.invokestatic 21, 3) := by decide +kernel
theorem dL_isCatalogue_189 : decode cL_isCatalogue 189 = .ok (.iconst 1, 1) := by decide +kernel
theorem dL_isCatalogue_190 : decode cL_isCatalogue 190 = .ok (.isub, 1) := by decide +kernel
theorem dL_isCatalogue_191 : decode cL_isCatalogue 191 = .ok (.iadd, 1) := by decide +kernel
theorem dL_isCatalogue_192 : decode cL_isCatalogue 192 = .ok (.istore 9, 2) := by decide +kernel
theorem dL_isCatalogue_194 : decode cL_isCatalogue 194 = .ok (.iinc 10 1, 3) := by decide +kernel
theorem dL_isCatalogue_197 : decode cL_isCatalogue 197 = .ok (.goto (-75), 3) := by decide +kernel
theorem dL_isCatalogue_200 : decode cL_isCatalogue 200 = .ok (.iconst 0, 1) := by decide +kernel
theorem dL_isCatalogue_201 : decode cL_isCatalogue 201 = .ok (.istore 10, 2) := by decide +kernel
theorem dL_isCatalogue_203 : decode cL_isCatalogue 203 = .ok (.iload 10, 2) := by decide +kernel
theorem dL_isCatalogue_205 : decode cL_isCatalogue 205 = .ok (.iconst 4, 1) := by decide +kernel
theorem dL_isCatalogue_206 : decode cL_isCatalogue 206 = .ok (.if_icmp .ge 94, 3) := by decide +kernel
theorem dL_isCatalogue_209 : decode cL_isCatalogue 209 = .ok (.aload_n 1, 1) := by decide +kernel
theorem dL_isCatalogue_210 : decode cL_isCatalogue 210 = .ok (.iload 8, 2) := by decide +kernel
theorem dL_isCatalogue_212 : decode cL_isCatalogue 212 = .ok (.laload, 1) := by decide +kernel
theorem dL_isCatalogue_213 : decode cL_isCatalogue 213 = .ok (.iload 10, 2) := by decide +kernel
theorem dL_isCatalogue_215 : decode cL_isCatalogue 215 = .ok (.invokestatic 35, 3) := by decide +kernel
theorem dL_isCatalogue_218 : decode cL_isCatalogue 218 = .ok (.istore 11, 2) := by decide +kernel
theorem dL_isCatalogue_220 : decode cL_isCatalogue 220 = .ok (.iload 7, 2) := by decide +kernel
theorem dL_isCatalogue_222 : decode cL_isCatalogue 222 = .ok (.ifCond .eq 51, 3) := by decide +kernel
theorem dL_isCatalogue_225 : decode cL_isCatalogue 225 = .ok (.aload_n 0, 1) := by decide +kernel
theorem dL_isCatalogue_226 : decode cL_isCatalogue 226 = .ok (.iload 8, 2) := by decide +kernel
theorem dL_isCatalogue_228 : decode cL_isCatalogue 228 = .ok (.iload 10, 2) := by decide +kernel
theorem dL_isCatalogue_230 : decode cL_isCatalogue 230 = .ok (.invokevirtual 120, 3) := by decide +kernel
theorem dL_isCatalogue_233 : decode cL_isCatalogue 233 = .ok (.iload 11, 2) := by decide +kernel
theorem dL_isCatalogue_235 : decode cL_isCatalogue 235 = .ok (.iconst 1, 1) := by decide +kernel
theorem dL_isCatalogue_236 : decode cL_isCatalogue 236 = .ok (.isub, 1) := by decide +kernel
theorem dL_isCatalogue_237 : decode cL_isCatalogue 237 = .ok (.if_icmp .ne 36, 3) := by decide +kernel
theorem dL_isCatalogue_240 : decode cL_isCatalogue 240 = .ok (.aload_n 0, 1) := by decide +kernel
theorem dL_isCatalogue_241 : decode cL_isCatalogue 241 = .ok (.iload 8, 2) := by decide +kernel
theorem dL_isCatalogue_243 : decode cL_isCatalogue 243 = .ok (.iload 10, 2) := by decide +kernel
theorem dL_isCatalogue_245 : decode cL_isCatalogue 245 = .ok (.invokevirtual 123, 3) := by decide +kernel
theorem dL_isCatalogue_248 : decode cL_isCatalogue 248 = .ok (.iload 11, 2) := by decide +kernel
theorem dL_isCatalogue_250 : decode cL_isCatalogue 250 = .ok (.ifCond .ne 7, 3) := by decide +kernel
theorem dL_isCatalogue_253 : decode cL_isCatalogue 253 = .ok (.iconst (-1), 1) := by decide +kernel
theorem dL_isCatalogue_254 : decode cL_isCatalogue 254 = .ok (.goto 12, 3) := by decide +kernel
theorem dL_isCatalogue_257 : decode cL_isCatalogue 257 = .ok (.aload_n 1, 1) := by decide +kernel
theorem dL_isCatalogue_258 : decode cL_isCatalogue 258 = .ok (.iload 8, 2) := by decide +kernel
theorem dL_isCatalogue_260 : decode cL_isCatalogue 260 = .ok (.laload, 1) := by decide +kernel
theorem dL_isCatalogue_261 : decode cL_isCatalogue 261 = .ok (.iload 10, 2) := by decide +kernel
theorem dL_isCatalogue_263 : decode cL_isCatalogue 263 = .ok (.invokestatic 38, 3) := by decide +kernel
theorem dL_isCatalogue_266 : decode cL_isCatalogue 266 = .ok (.if_icmp .ne 7, 3) := by decide +kernel
theorem dL_isCatalogue_269 : decode cL_isCatalogue 269 = .ok (.iconst 1, 1) := by decide +kernel
theorem dL_isCatalogue_270 : decode cL_isCatalogue 270 = .ok (.goto 4, 3) := by decide +kernel
theorem dL_isCatalogue_273 : decode cL_isCatalogue 273 = .ok (.iconst 0, 1) := by decide +kernel
theorem dL_isCatalogue_274 : decode cL_isCatalogue 274 = .ok (.istore 7, 2) := by decide +kernel
theorem dL_isCatalogue_276 : decode cL_isCatalogue 276 = .ok (.iload 9, 2) := by decide +kernel
theorem dL_isCatalogue_278 : decode cL_isCatalogue 278 = .ok (.iload 11, 2) := by decide +kernel
theorem dL_isCatalogue_280 : decode cL_isCatalogue 280 = .ok (.ifCond .ne 7, 3) := by decide +kernel
theorem dL_isCatalogue_283 : decode cL_isCatalogue 283 = .ok (.iconst 0, 1) := by decide +kernel
theorem dL_isCatalogue_284 : decode cL_isCatalogue 284 = .ok (.goto 7, 3) := by decide +kernel
theorem dL_isCatalogue_287 : decode cL_isCatalogue 287 = .ok (.iload 11, 2) := by decide +kernel
theorem dL_isCatalogue_289 : decode cL_isCatalogue 289 = .ok (.iconst 1, 1) := by decide +kernel
theorem dL_isCatalogue_290 : decode cL_isCatalogue 290 = .ok (.isub, 1) := by decide +kernel
theorem dL_isCatalogue_291 : decode cL_isCatalogue 291 = .ok (.iadd, 1) := by decide +kernel
theorem dL_isCatalogue_292 : decode cL_isCatalogue 292 = .ok (.istore 9, 2) := by decide +kernel
theorem dL_isCatalogue_294 : decode cL_isCatalogue 294 = .ok (.iinc 10 1, 3) := by decide +kernel
theorem dL_isCatalogue_297 : decode cL_isCatalogue 297 = .ok (.goto (-94), 3) := by decide +kernel
theorem dL_isCatalogue_300 : decode cL_isCatalogue 300 = .ok (.iload 7, 2) := by decide +kernel
theorem dL_isCatalogue_302 : decode cL_isCatalogue 302 = .ok (.ifCond .eq 20, 3) := by decide +kernel
theorem dL_isCatalogue_305 : decode cL_isCatalogue 305 = .ok (.aload_n 0, 1) := by decide +kernel
theorem dL_isCatalogue_306 : decode cL_isCatalogue 306 = .ok (.iload 8, 2) := by decide +kernel
theorem dL_isCatalogue_308 : decode cL_isCatalogue 308 = .ok (.invokevirtual 126, 3) := by decide +kernel
theorem dL_isCatalogue_311 : decode cL_isCatalogue 311 = .ok (.aload_n 2, 1) := by decide +kernel
theorem dL_isCatalogue_312 : decode cL_isCatalogue 312 = .ok (.iload 8, 2) := by decide +kernel
theorem dL_isCatalogue_314 : decode cL_isCatalogue 314 = .ok (.iaload, 1) := by decide +kernel
theorem dL_isCatalogue_315 : decode cL_isCatalogue 315 = .ok (.if_icmp .ne 7, 3) := by decide +kernel
theorem dL_isCatalogue_318 : decode cL_isCatalogue 318 = .ok (.iconst 1, 1) := by decide +kernel
theorem dL_isCatalogue_319 : decode cL_isCatalogue 319 = .ok (.goto 4, 3) := by decide +kernel
theorem dL_isCatalogue_322 : decode cL_isCatalogue 322 = .ok (.iconst 0, 1) := by decide +kernel
theorem dL_isCatalogue_323 : decode cL_isCatalogue 323 = .ok (.istore 7, 2) := by decide +kernel
theorem dL_isCatalogue_325 : decode cL_isCatalogue 325 = .ok (.iload 6, 2) := by decide +kernel
theorem dL_isCatalogue_327 : decode cL_isCatalogue 327 = .ok (.iload 9, 2) := by decide +kernel
theorem dL_isCatalogue_329 : decode cL_isCatalogue 329 = .ok (.iconst 1, 1) := by decide +kernel
theorem dL_isCatalogue_330 : decode cL_isCatalogue 330 = .ok (.iload 8, 2) := by decide +kernel
theorem dL_isCatalogue_332 : decode cL_isCatalogue 332 = .ok (.iadd, 1) := by decide +kernel
theorem dL_isCatalogue_333 : decode cL_isCatalogue 333 = .ok (.imul, 1) := by decide +kernel
theorem dL_isCatalogue_334 : decode cL_isCatalogue 334 = .ok (.aload_n 2, 1) := by decide +kernel
theorem dL_isCatalogue_335 : decode cL_isCatalogue 335 = .ok (.iload 8, 2) := by decide +kernel
theorem dL_isCatalogue_337 : decode cL_isCatalogue 337 = .ok (.iaload, 1) := by decide +kernel
theorem dL_isCatalogue_338 : decode cL_isCatalogue 338 = .ok (.iadd, 1) := by decide +kernel
theorem dL_isCatalogue_339 : decode cL_isCatalogue 339 = .ok (.iadd, 1) := by decide +kernel
theorem dL_isCatalogue_340 : decode cL_isCatalogue 340 = .ok (.istore 6, 2) := by decide +kernel
theorem dL_isCatalogue_342 : decode cL_isCatalogue 342 = .ok (.iinc 8 1, 3) := by decide +kernel
theorem dL_isCatalogue_345 : decode cL_isCatalogue 345 = .ok (.goto (-301), 3) := by decide +kernel
theorem dL_isCatalogue_348 : decode cL_isCatalogue 348 = .ok (.iconst 0, 1) := by decide +kernel
theorem dL_isCatalogue_349 : decode cL_isCatalogue 349 = .ok (.istore 8, 2) := by decide +kernel
theorem dL_isCatalogue_351 : decode cL_isCatalogue 351 = .ok (.iload 8, 2) := by decide +kernel
theorem dL_isCatalogue_353 : decode cL_isCatalogue 353 = .ok (.aload_n 3, 1) := by decide +kernel
theorem dL_isCatalogue_354 : decode cL_isCatalogue 354 = .ok (.iconst 0, 1) := by decide +kernel
theorem dL_isCatalogue_355 : decode cL_isCatalogue 355 = .ok (.iaload, 1) := by decide +kernel
theorem dL_isCatalogue_356 : decode cL_isCatalogue 356 = .ok (.if_icmp .ge 48, 3) := by decide +kernel
theorem dL_isCatalogue_359 : decode cL_isCatalogue 359 = .ok (.iload 7, 2) := by decide +kernel
theorem dL_isCatalogue_361 : decode cL_isCatalogue 361 = .ok (.ifCond .eq 43, 3) := by decide +kernel
theorem dL_isCatalogue_364 : decode cL_isCatalogue 364 = .ok (.aload_n 0, 1) := by decide +kernel
theorem dL_isCatalogue_365 : decode cL_isCatalogue 365 = .ok (.iload 8, 2) := by decide +kernel
theorem dL_isCatalogue_367 : decode cL_isCatalogue 367 = .ok (.invokevirtual 129, 3) := by decide +kernel
theorem dL_isCatalogue_370 : decode cL_isCatalogue 370 = .ok (.aload 5, 2) := by decide +kernel
theorem dL_isCatalogue_372 : decode cL_isCatalogue 372 = .ok (.iconst 0, 1) := by decide +kernel
theorem dL_isCatalogue_373 : decode cL_isCatalogue 373 = .ok (.iaload, 1) := by decide +kernel
theorem dL_isCatalogue_374 : decode cL_isCatalogue 374 = .ok (.iload 8, 2) := by decide +kernel
theorem dL_isCatalogue_376 : decode cL_isCatalogue 376 = .ok (.ishr, 1) := by decide +kernel
theorem dL_isCatalogue_377 : decode cL_isCatalogue 377 = .ok (.iconst 1, 1) := by decide +kernel
theorem dL_isCatalogue_378 : decode cL_isCatalogue 378 = .ok (.iand, 1) := by decide +kernel
theorem dL_isCatalogue_379 : decode cL_isCatalogue 379 = .ok (.iconst 1, 1) := by decide +kernel
theorem dL_isCatalogue_380 : decode cL_isCatalogue 380 = .ok (.if_icmp .ne 7, 3) := by decide +kernel
theorem dL_isCatalogue_383 : decode cL_isCatalogue 383 = .ok (.iconst 1, 1) := by decide +kernel
theorem dL_isCatalogue_384 : decode cL_isCatalogue 384 = .ok (.goto 4, 3) := by decide +kernel
theorem dL_isCatalogue_387 : decode cL_isCatalogue 387 = .ok (.iconst 0, 1) := by decide +kernel
theorem dL_isCatalogue_388 : decode cL_isCatalogue 388 = .ok (.if_icmp .ne 7, 3) := by decide +kernel
theorem dL_isCatalogue_391 : decode cL_isCatalogue 391 = .ok (.iconst 1, 1) := by decide +kernel
theorem dL_isCatalogue_392 : decode cL_isCatalogue 392 = .ok (.goto 4, 3) := by decide +kernel
theorem dL_isCatalogue_395 : decode cL_isCatalogue 395 = .ok (.iconst 0, 1) := by decide +kernel
theorem dL_isCatalogue_396 : decode cL_isCatalogue 396 = .ok (.istore 7, 2) := by decide +kernel
theorem dL_isCatalogue_398 : decode cL_isCatalogue 398 = .ok (.iinc 8 1, 3) := by decide +kernel
theorem dL_isCatalogue_401 : decode cL_isCatalogue 401 = .ok (.goto (-50), 3) := by decide +kernel
theorem dL_isCatalogue_404 : decode cL_isCatalogue 404 = .ok (.iload 7, 2) := by decide +kernel
theorem dL_isCatalogue_406 : decode cL_isCatalogue 406 = .ok (.ifCond .eq 25, 3) := by decide +kernel
theorem dL_isCatalogue_409 : decode cL_isCatalogue 409 = .ok (.aload_n 0, 1) := by decide +kernel
theorem dL_isCatalogue_410 : decode cL_isCatalogue 410 = .ok (.invokevirtual 132, 3) := by decide +kernel
theorem dL_isCatalogue_413 : decode cL_isCatalogue 413 = .ok (.iload 6, 2) := by decide +kernel
theorem dL_isCatalogue_415 : decode cL_isCatalogue 415 = .ok (.if_icmp .ne 16, 3) := by decide +kernel
theorem dL_isCatalogue_418 : decode cL_isCatalogue 418 = .ok (.aload_n 0, 1) := by decide +kernel
theorem dL_isCatalogue_419 : decode cL_isCatalogue 419 = .ok (.invokevirtual 135, 3) := by decide +kernel
theorem dL_isCatalogue_422 : decode cL_isCatalogue 422 = .ok (.iload 6, 2) := by decide +kernel
theorem dL_isCatalogue_424 : decode cL_isCatalogue 424 = .ok (.if_icmp .ne 7, 3) := by decide +kernel
theorem dL_isCatalogue_427 : decode cL_isCatalogue 427 = .ok (.iconst 1, 1) := by decide +kernel
theorem dL_isCatalogue_428 : decode cL_isCatalogue 428 = .ok (.goto 4, 3) := by decide +kernel
theorem dL_isCatalogue_431 : decode cL_isCatalogue 431 = .ok (.iconst 0, 1) := by decide +kernel
theorem dL_isCatalogue_432 : decode cL_isCatalogue 432 = .ok (.ireturn, 1) := by decide +kernel
theorem dL_adds_0 : decode cL_adds 0 = .ok (.aload_n 0, 1) := by decide +kernel
theorem dL_adds_1 : decode cL_adds 1 = .ok (.aload_n 1, 1) := by decide +kernel
theorem dL_adds_2 : decode cL_adds 2 = .ok (.iconst 2, 1) := by decide +kernel
theorem dL_adds_3 : decode cL_adds 3 = .ok (.iaload, 1) := by decide +kernel
theorem dL_adds_4 : decode cL_adds 4 = .ok (.iload_n 2, 1) := by decide +kernel
theorem dL_adds_5 : decode cL_adds 5 = .ok (.bipush 8, 2) := by decide +kernel
theorem dL_adds_7 : decode cL_adds 7 = .ok (.iload_n 3, 1) := by decide +kernel
theorem dL_adds_8 : decode cL_adds 8 = .ok (.imul, 1) := by decide +kernel
theorem dL_adds_9 : decode cL_adds 9 = .ok (.iadd, 1) := by decide +kernel
theorem dL_adds_10 : decode cL_adds 10 = .ok (.sipush 1024, 3) := by decide +kernel
theorem dL_adds_13 : decode cL_adds 13 = .ok (.iload 4, 2) := by decide +kernel
theorem dL_adds_15 : decode cL_adds 15 = .ok (.imul, 1) := by decide +kernel
theorem dL_adds_16 : decode cL_adds 16 = .ok (.iadd, 1) := by decide +kernel
theorem dL_adds_17 : decode cL_adds 17 = .ok (.iastore, 1) := by decide +kernel
theorem dL_adds_18 : decode cL_adds 18 = .ok (.aload_n 1, 1) := by decide +kernel
theorem dL_adds_19 : decode cL_adds 19 = .ok (.iconst 2, 1) := by decide +kernel
theorem dL_adds_20 : decode cL_adds 20 = .ok (.dup2, 1) := by decide +kernel
theorem dL_adds_21 : decode cL_adds 21 = .ok (.iaload, 1) := by decide +kernel
theorem dL_adds_22 : decode cL_adds 22 = .ok (.iconst 1, 1) := by decide +kernel
theorem dL_adds_23 : decode cL_adds 23 = .ok (.iadd, 1) := by decide +kernel
theorem dL_adds_24 : decode cL_adds 24 = .ok (.iastore, 1) := by decide +kernel
theorem dL_adds_25 : decode cL_adds 25 = .ok (.aload_n 1, 1) := by decide +kernel
theorem dL_adds_26 : decode cL_adds 26 = .ok (.iconst 3, 1) := by decide +kernel
theorem dL_adds_27 : decode cL_adds 27 = .ok (.dup2, 1) := by decide +kernel
theorem dL_adds_28 : decode cL_adds 28 = .ok (.iaload, 1) := by decide +kernel
theorem dL_adds_29 : decode cL_adds 29 = .ok (.iload_n 2, 1) := by decide +kernel
theorem dL_adds_30 : decode cL_adds 30 = .ok (.ifCond .le 7, 3) := by decide +kernel
theorem dL_adds_33 : decode cL_adds 33 = .ok (.iconst 1, 1) := by decide +kernel
theorem dL_adds_34 : decode cL_adds 34 = .ok (.goto 4, 3) := by decide +kernel
theorem dL_adds_37 : decode cL_adds 37 = .ok (.iconst 0, 1) := by decide +kernel
theorem dL_adds_38 : decode cL_adds 38 = .ok (.iadd, 1) := by decide +kernel
theorem dL_adds_39 : decode cL_adds 39 = .ok (.iastore, 1) := by decide +kernel
theorem dL_adds_40 : decode cL_adds 40 = .ok (.return_, 1) := by decide +kernel
