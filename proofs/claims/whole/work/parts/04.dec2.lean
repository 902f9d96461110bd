set_option maxRecDepth 20000 in
theorem ggX10_init_X10_addsCloud : GoodIn wsX10_init wsX10_addsCloud := goodIn_r _ [18] (by decide +kernel) (by decide +kernel)
set_option maxRecDepth 20000 in
theorem gX10_init_X10_addsCloud : GoodIn wsX10_init (va_wsS RX10 39 yX10_addsCloud wsX10_addsCloud) := goodIn_app (goodIn_of _ (by decide +kernel)) ggX10_init_X10_addsCloud
set_option maxRecDepth 20000 in
theorem ggX10_init_X10_addsClerk : GoodIn wsX10_init wsX10_addsClerk := goodIn_r _ [21, 22, 23, 17, 24] (by decide +kernel) (by decide +kernel)
set_option maxRecDepth 20000 in
theorem gX10_init_X10_addsClerk : GoodIn wsX10_init (va_wsS RX10 43 yX10_addsClerk wsX10_addsClerk) := goodIn_app (goodIn_of _ (by decide +kernel)) ggX10_init_X10_addsClerk
set_option maxRecDepth 20000 in
theorem ggX10_init_X10_files : GoodIn wsX10_init wsX10_files := goodIn_r _ [27, 28, 29, 17, 30] (by decide +kernel) (by decide +kernel)
set_option maxRecDepth 20000 in
theorem gX10_init_X10_files : GoodIn wsX10_init (va_wsS RX10 47 yX10_files wsX10_files) := goodIn_app (goodIn_of _ (by decide +kernel)) ggX10_init_X10_files
theorem dX10_init_0 : decode cX10_init 0 = .ok (.aload_n 0, 1) := by decide +kernel
theorem dX10_init_1 : decode cX10_init 1 = .ok (.invokespecial 1, 3) := by decide +kernel
theorem dX10_init_4 : decode cX10_init 4 = .ok (.aload_n 0, 1) := by decide +kernel
theorem dX10_init_5 : decode cX10_init 5 = .ok (.sipush 202, 3) := by decide +kernel
theorem dX10_init_8 : decode cX10_init 8 = .ok (.newarray .int, 2) := by decide +kernel
theorem dX10_init_10 : decode cX10_init 10 = .ok (.putfield 7, 3) := by decide +kernel
theorem dX10_init_13 : decode cX10_init 13 = .ok (.aload_n 0, 1) := by decide +kernel
theorem dX10_init_14 : decode cX10_init 14 = .ok (.sipush 202, 3) := by decide +kernel
theorem dX10_init_17 : decode cX10_init 17 = .ok (.newarray .int, 2) := by decide +kernel
theorem dX10_init_19 : decode cX10_init 19 = .ok (.putfield 13, 3) := by decide +kernel
theorem dX10_init_22 : decode cX10_init 22 = .ok (.aload_n 0, 1) := by decide +kernel
theorem dX10_init_23 : decode cX10_init 23 = .ok (.sipush 202, 3) := by decide +kernel
theorem dX10_init_26 : decode cX10_init 26 = .ok (.newarray .int, 2) := by decide +kernel
theorem dX10_init_28 : decode cX10_init 28 = .ok (.putfield 16, 3) := by decide +kernel
theorem dX10_init_31 : decode cX10_init 31 = .ok (.aload_n 0, 1) := by decide +kernel
theorem dX10_init_32 : decode cX10_init 32 = .ok (.sipush 1616, 3) := by decide +kernel
theorem dX10_init_35 : decode cX10_init 35 = .ok (.newarray .int, 2) := by decide +kernel
theorem dX10_init_37 : decode cX10_init 37 = .ok (.putfield 19, 3) := by decide +kernel
theorem dX10_init_40 : decode cX10_init 40 = .ok (.aload_n 0, 1) := by decide +kernel
theorem dX10_init_41 : decode cX10_init 41 = .ok (.sipush 404, 3) := by decide +kernel
theorem dX10_init_44 : decode cX10_init 44 = .ok (.newarray .int, 2) := by decide +kernel
theorem dX10_init_46 : decode cX10_init 46 = .ok (.putfield 22, 3) := by decide +kernel
theorem dX10_init_49 : decode cX10_init 49 = .ok (.aload_n 0, 1) := by decide +kernel
theorem dX10_init_50 : decode cX10_init 50 = .ok (.iconst 2, 1) := by decide +kernel
theorem dX10_init_51 : decode cX10_init 51 = .ok (.newarray .boolean, 2) := by decide +kernel
theorem dX10_init_53 : decode cX10_init 53 = .ok (.putfield 25, 3) := by decide +kernel
theorem dX10_init_56 : decode cX10_init 56 = .ok (.aload_n 0, 1) := by decide +kernel
theorem dX10_init_57 : decode cX10_init 57 = .ok (.sipush 600, 3) := by decide +kernel
theorem dX10_init_60 : decode cX10_init 60 = .ok (.newarray .int, 2) := by decide +kernel
theorem dX10_init_62 : decode cX10_init 62 = .ok (.putfield 29, 3) := by decide +kernel
theorem dX10_init_65 : decode cX10_init 65 = .ok (.aload_n 0, 1) := by decide +kernel
theorem dX10_init_66 : decode cX10_init 66 = .ok (.iconst (-1), 1) := by decide +kernel
theorem dX10_init_67 : decode cX10_init 67 = .ok (.putfield 32, 3) := by decide +kernel
theorem dX10_init_70 : decode cX10_init 70 = .ok (.aload_n 0, 1) := by decide +kernel
theorem dX10_init_71 : decode cX10_init 71 = .ok (.sipush 200, 3) := by decide +kernel
theorem dX10_init_74 : decode cX10_init 74 = .ok (.newarray .int, 2) := by decide +kernel
theorem dX10_init_76 : decode cX10_init 76 = .ok (.putfield 36, 3) := by decide +kernel
theorem dX10_init_79 : decode cX10_init 79 = .ok (.aload_n 0, 1) := by decide +kernel
theorem dX10_init_80 : decode cX10_init 80 = .ok (.getfield 7, 3) := by decide +kernel
theorem dX10_init_83 : decode cX10_init 83 = .ok (.iconst 1, 1) := by decide +kernel
theorem dX10_init_84 : decode cX10_init 84 = .ok (.bipush 8, 2) := by decide +kernel
theorem dX10_init_86 : decode cX10_init 86 = .ok (.iastore, 1) := by decide +kernel
theorem dX10_init_87 : decode cX10_init 87 = .ok (.aload_n 0, 1) := by decide +kernel
theorem dX10_init_88 : decode cX10_init 88 = .ok (.getfield 7, 3) := by decide +kernel
theorem dX10_init_91 : decode cX10_init 91 = .ok (.iconst 2, 1) := by decide +kernel
theorem dX10_init_92 : decode cX10_init 92 = .ok (.iconst 2, 1) := by decide +kernel
theorem dX10_init_93 : decode cX10_init 93 = .ok (.iastore, 1) := by decide +kernel
theorem dX10_init_94 : decode cX10_init 94 = .ok (.aload_n 0, 1) := by decide +kernel
theorem dX10_init_95 : decode cX10_init 95 = .ok (.getfield 7, 3) := by decide +kernel
theorem dX10_init_98 : decode cX10_init 98 = .ok (.iconst 3, 1) := by decide +kernel
theorem dX10_init_99 : decode cX10_init 99 = .ok (.bipush 6, 2) := by decide +kernel
theorem dX10_init_101 : decode cX10_init 101 = .ok (.iastore, 1) := by decide +kernel
theorem dX10_init_102 : decode cX10_init 102 = .ok (.aload_n 0, 1) := by decide +kernel
theorem dX10_init_103 : decode cX10_init 103 = .ok (.getfield 7, 3) := by decide +kernel
theorem dX10_init_106 : decode cX10_init 106 = .ok (.iconst 0, 1) := by decide +kernel
theorem dX10_init_107 : decode cX10_init 107 = .ok (.invokestatic 39, 3) := by decide +kernel
theorem dX10_init_110 : decode cX10_init 110 = .ok (.aload_n 0, 1) := by decide +kernel
theorem dX10_init_111 : decode cX10_init 111 = .ok (.getfield 7, 3) := by decide +kernel
theorem dX10_init_114 : decode cX10_init 114 = .ok (.iconst 3, 1) := by decide +kernel
theorem dX10_init_115 : decode cX10_init 115 = .ok (.invokestatic 39, 3) := by decide +kernel
theorem dX10_init_118 : decode cX10_init 118 = .ok (.aload_n 0, 1) := by decide +kernel
theorem dX10_init_119 : decode cX10_init 119 = .ok (.getfield 7, 3) := by decide +kernel
theorem dX10_init_122 : decode cX10_init 122 = .ok (.bipush 9, 2) := by decide +kernel
theorem dX10_init_124 : decode cX10_init 124 = .ok (.invokestatic 39, 3) := by decide +kernel
theorem dX10_init_127 : decode cX10_init 127 = .ok (.aload_n 0, 1) := by decide +kernel
theorem dX10_init_128 : decode cX10_init 128 = .ok (.getfield 7, 3) := by decide +kernel
theorem dX10_init_131 : decode cX10_init 131 = .ok (.iconst 3, 1) := by decide +kernel
theorem dX10_init_132 : decode cX10_init 132 = .ok (.bipush 20, 2) := by decide +kernel
theorem dX10_init_134 : decode cX10_init 134 = .ok (.invokestatic 43, 3) := by decide +kernel
theorem dX10_init_137 : decode cX10_init 137 = .ok (.pop, 1) := by decide +kernel
theorem dX10_init_138 : decode cX10_init 138 = .ok (.aload_n 0, 1) := by decide +kernel
theorem dX10_init_139 : decode cX10_init 139 = .ok (.getfield 7, 3) := by decide +kernel
theorem dX10_init_142 : decode cX10_init 142 = .ok (.bipush 7, 2) := by decide +kernel
theorem dX10_init_144 : decode cX10_init 144 = .ok (.iconst 5, 1) := by decide +kernel
theorem dX10_init_145 : decode cX10_init 145 = .ok (.invokestatic 43, 3) := by decide +kernel
theorem dX10_init_148 : decode cX10_init 148 = .ok (.pop, 1) := by decide +kernel
theorem dX10_init_149 : decode cX10_init 149 = .ok (.aload_n 0, 1) := by decide +kernel
theorem dX10_init_150 : decode cX10_init 150 = .ok (.getfield 7, 3) := by decide +kernel
theorem dX10_init_153 : decode cX10_init 153 = .ok (.iconst 4, 1) := by decide +kernel
theorem dX10_init_154 : decode cX10_init 154 = .ok (.iconst 0, 1) := by decide +kernel
theorem dX10_init_155 : decode cX10_init 155 = .ok (.iconst 5, 1) := by decide +kernel
theorem dX10_init_156 : decode cX10_init 156 = .ok (.invokestatic 47, 3) := by decide +kernel
theorem dX10_init_159 : decode cX10_init 159 = .ok (.pop, 1) := by decide +kernel
theorem dX10_init_160 : decode cX10_init 160 = .ok (.aload_n 0, 1) := by decide +kernel
theorem dX10_init_161 : decode cX10_init 161 = .ok (.getfield 7, 3) := by decide +kernel
theorem dX10_init_164 : decode cX10_init 164 = .ok (.iconst 4, 1) := by decide +kernel
theorem dX10_init_165 : decode cX10_init 165 = .ok (.iconst 1, 1) := by decide +kernel
theorem dX10_init_166 : decode cX10_init 166 = .ok (.iconst 2, 1) := by decide +kernel
theorem dX10_init_167 : decode cX10_init 167 = .ok (.invokestatic 47, 3) := by decide +kernel
theorem dX10_init_170 : decode cX10_init 170 = .ok (.pop, 1) := by decide +kernel
theorem dX10_init_171 : decode cX10_init 171 = .ok (.aload_n 0, 1) := by decide +kernel
theorem dX10_init_172 : decode cX10_init 172 = .ok (.getfield 7, 3) := by decide +kernel
theorem dX10_init_175 : decode cX10_init 175 = .ok (.bipush 9, 2) := by decide +kernel
theorem dX10_init_177 : decode cX10_init 177 = .ok (.iconst 2, 1) := by decide +kernel
theorem dX10_init_178 : decode cX10_init 178 = .ok (.bipush 6, 2) := by decide +kernel
theorem dX10_init_180 : decode cX10_init 180 = .ok (.invokestatic 47, 3) := by decide +kernel
theorem dX10_init_183 : decode cX10_init 183 = .ok (.pop, 1) := by decide +kernel
theorem dX10_init_184 : decode cX10_init 184 = .ok (.aload_n 0, 1) := by decide +kernel
theorem dX10_init_185 : decode cX10_init 185 = .ok (.getfield 7, 3) := by decide +kernel
theorem dX10_init_188 : decode cX10_init 188 = .ok (.bipush 30, 2) := by decide +kernel
theorem dX10_init_190 : decode cX10_init 190 = .ok (.iconst 3, 1) := by decide +kernel
theorem dX10_init_191 : decode cX10_init 191 = .ok (.bipush 9, 2) := by decide +kernel
theorem dX10_init_193 : decode cX10_init 193 = .ok (.invokestatic 47, 3) := by decide +kernel
theorem dX10_init_196 : decode cX10_init 196 = .ok (.pop, 1) := by decide +kernel
theorem dX10_init_197 : decode cX10_init 197 = .ok (.return_, 1) := by decide +kernel
theorem dX10_thrown_0 : decode cX10_thrown 0 = .ok (.aload_n 0, 1) := by decide +kernel
theorem dX10_thrown_1 : decode cX10_thrown 1 = .ok (.getfield 51, 3) := by decide +kernel
theorem dX10_thrown_4 : decode cX10_thrown 4 = .ok (.ireturn, 1) := by decide +kernel
theorem dX10_fails_0 : decode cX10_fails 0 = .ok (.aload_n 0, 1) := by decide +kernel
theorem dX10_fails_1 : decode cX10_fails 1 = .ok (.iload_n 1, 1) := by decide +kernel
theorem dX10_fails_2 : decode cX10_fails 2 = .ok (.putfield 51, 3) := by decide +kernel
theorem dX10_fails_5 : decode cX10_fails 5 = .ok (.iconst 0, 1) := by decide +kernel
theorem dX10_fails_6 : decode cX10_fails 6 = .ok (.ireturn, 1) := by decide +kernel
theorem dX10_isFailed_0 : decode cX10_isFailed 0 = .ok (.aload_n 0, 1) := by decide +kernel
theorem dX10_isFailed_1 : decode cX10_isFailed 1 = .ok (.iload_n 1, 1) := by decide +kernel
theorem dX10_isFailed_2 : decode cX10_isFailed 2 = .ok (.putfield 51, 3) := by decide +kernel
theorem dX10_isFailed_5 : decode cX10_isFailed 5 = .ok (.iconst 0, 1) := by decide +kernel
theorem dX10_isFailed_6 : decode cX10_isFailed 6 = .ok (.ireturn, 1) := by decide +kernel
theorem dX10_in_0 : decode cX10_in 0 = .ok (.iload_n 1, 1) := by decide +kernel
theorem dX10_in_1 : decode cX10_in 1 = .ok (.iload_n 0, 1) := by decide +kernel
theorem dX10_in_2 : decode cX10_in 2 = .ok (.if_icmp .gt 12, 3) := by decide +kernel
theorem dX10_in_5 : decode cX10_in 5 = .ok (.iload_n 0, 1) := by decide +kernel
theorem dX10_in_6 : decode cX10_in 6 = .ok (.iload_n 2, 1) := by decide +kernel
theorem dX10_in_7 : decode cX10_in 7 = .ok (.if_icmp .gt 7, 3) := by decide +kernel
theorem dX10_in_10 : decode cX10_in 10 = .ok (.iconst 1, 1) := by decide +kernel
theorem dX10_in_11 : decode cX10_in 11 = .ok (.goto 4, 3) := by decide +kernel
theorem dX10_in_14 : decode cX10_in 14 = .ok (.iconst 0, 1) := by decide +kernel
theorem dX10_in_15 : decode cX10_in 15 = .ok (.ireturn, 1) := by decide +kernel
theorem dX10_less_0 : decode cX10_less 0 = .ok (.iload_n 0, 1) := by decide +kernel
theorem dX10_less_1 : decode cX10_less 1 = .ok (.iload_n 1, 1) := by decide +kernel
theorem dX10_less_2 : decode cX10_less 2 = .ok (.if_icmp .ge 5, 3) := by decide +kernel
theorem dX10_less_5 : decode cX10_less 5 = .ok (.iload_n 0, 1) := by decide +kernel
theorem dX10_less_6 : decode cX10_less 6 = .ok (.ireturn, 1) := by decide +kernel
theorem dX10_less_7 : decode cX10_less 7 = .ok (.iload_n 1, 1) := by decide +kernel
theorem dX10_less_8 : decode cX10_less 8 = .ok (.ireturn, 1) := by decide +kernel
theorem dX10_apart_0 : decode cX10_apart 0 = .ok (.iload_n 0, 1) := by decide +kernel
theorem dX10_apart_1 : decode cX10_apart 1 = .ok (.iload_n 1, 1) := by decide +kernel
theorem dX10_apart_2 : decode cX10_apart 2 = .ok (.if_icmp .le 7, 3) := by decide +kernel
theorem dX10_apart_5 : decode cX10_apart 5 = .ok (.iload_n 0, 1) := by decide +kernel
theorem dX10_apart_6 : decode cX10_apart 6 = .ok (.iload_n 1, 1) := by decide +kernel
theorem dX10_apart_7 : decode cX10_apart 7 = .ok (.isub, 1) := by decide +kernel
theorem dX10_apart_8 : decode cX10_apart 8 = .ok (.ireturn, 1) := by decide +kernel
theorem dX10_apart_9 : decode cX10_apart 9 = .ok (.iload_n 1, 1) := by decide +kernel
theorem dX10_apart_10 : decode cX10_apart 10 = .ok (.iload_n 0, 1) := by decide +kernel
theorem dX10_apart_11 : decode cX10_apart 11 = .ok (.isub, 1) := by decide +kernel
theorem dX10_apart_12 : decode cX10_apart 12 = .ok (.ireturn, 1) := by decide +kernel
theorem dX10_layRow_0 : decode cX10_layRow 0 = .ok (.iconst 0, 1) := by decide +kernel
theorem dX10_layRow_1 : decode cX10_layRow 1 = .ok (.istore 4, 2) := by decide +kernel
theorem dX10_layRow_3 : decode cX10_layRow 3 = .ok (.iload 4, 2) := by decide +kernel
theorem dX10_layRow_5 : decode cX10_layRow 5 = .ok (.sipush 202, 3) := by decide +kernel
theorem dX10_layRow_8 : decode cX10_layRow 8 = .ok (.if_icmp .ge 21, 3) := by decide +kernel
theorem dX10_layRow_11 : decode cX10_layRow 11 = .ok (.aload_n 2, 1) := by decide +kernel
theorem dX10_layRow_12 : decode cX10_layRow 12 = .ok (.iload_n 3, 1) := by decide +kernel
theorem dX10_layRow_13 : decode cX10_layRow 13 = .ok (.iload 4, 2) := by decide +kernel
theorem dX10_layRow_15 : decode cX10_layRow 15 = .ok (.iadd, 1) := by decide +kernel
theorem dX10_layRow_16 : decode cX10_layRow 16 = .ok (.aload_n 0, 1) := by decide +kernel
theorem dX10_layRow_17 : decode cX10_layRow 17 = .ok (.iload_n 1, 1) := by decide +kernel
theorem dX10_layRow_18 : decode cX10_layRow 18 = .ok (.iload 4, 2) := by decide +kernel
theorem dX10_layRow_20 : decode cX10_layRow 20 = .ok (.iadd, 1) := by decide +kernel
theorem dX10_layRow_21 : decode cX10_layRow 21 = .ok (.iaload, 1) := by decide +kernel
theorem dX10_layRow_22 : decode cX10_layRow 22 = .ok (.iastore, 1) := by decide +kernel
theorem dX10_layRow_23 : decode cX10_layRow 23 = .ok (.iinc 4 1, 3) := by decide +kernel
theorem dX10_layRow_26 : decode cX10_layRow 26 = .ok (.goto (-23), 3) := by decide +kernel
theorem dX10_layRow_29 : decode cX10_layRow 29 = .ok (.return_, 1) := by decide +kernel
set_option maxRecDepth 20000 in
theorem ggX10_takesSpare_X10_layRow : GoodIn wsX10_takesSpare wsX10_layRow := goodIn_r _ [6] (by decide +kernel) (by decide +kernel)
set_option maxRecDepth 20000 in
theorem gX10_takesSpare_X10_layRow : GoodIn wsX10_takesSpare (va_wsS RX10 54 yX10_layRow wsX10_layRow) := goodIn_app (goodIn_of _ (by decide +kernel)) ggX10_takesSpare_X10_layRow
theorem dX10_takesSpare_0 : decode cX10_takesSpare 0 = .ok (.aload_n 0, 1) := by decide +kernel
theorem dX10_takesSpare_1 : decode cX10_takesSpare 1 = .ok (.getfield 7, 3) := by decide +kernel
theorem dX10_takesSpare_4 : decode cX10_takesSpare 4 = .ok (.iconst 0, 1) := by decide +kernel
theorem dX10_takesSpare_5 : decode cX10_takesSpare 5 = .ok (.aload_n 0, 1) := by decide +kernel
theorem dX10_takesSpare_6 : decode cX10_takesSpare 6 = .ok (.getfield 16, 3) := by decide +kernel
theorem dX10_takesSpare_9 : decode cX10_takesSpare 9 = .ok (.iconst 0, 1) := by decide +kernel
theorem dX10_takesSpare_10 : decode cX10_takesSpare 10 = .ok (.invokestatic 54, 3) := by decide +kernel
theorem dX10_takesSpare_13 : decode cX10_takesSpare 13 = .ok (.return_, 1) := by decide +kernel
theorem dX10_clerkAt_0 : decode cX10_clerkAt 0 = .ok (.bipush 19, 2) := by decide +kernel
theorem dX10_clerkAt_2 : decode cX10_clerkAt 2 = .ok (.iconst 3, 1) := by decide +kernel
theorem dX10_clerkAt_3 : decode cX10_clerkAt 3 = .ok (.iload_n 0, 1) := by decide +kernel
theorem dX10_clerkAt_4 : decode cX10_clerkAt 4 = .ok (.imul, 1) := by decide +kernel
theorem dX10_clerkAt_5 : decode cX10_clerkAt 5 = .ok (.iadd, 1) := by decide +kernel
theorem dX10_clerkAt_6 : decode cX10_clerkAt 6 = .ok (.iload_n 1, 1) := by decide +kernel
theorem dX10_clerkAt_7 : decode cX10_clerkAt 7 = .ok (.iadd, 1) := by decide +kernel
theorem dX10_clerkAt_8 : decode cX10_clerkAt 8 = .ok (.ireturn, 1) := by decide +kernel
theorem dX10_complaintAt_0 : decode cX10_complaintAt 0 = .ok (.bipush 34, 2) := by decide +kernel
theorem dX10_complaintAt_2 : decode cX10_complaintAt 2 = .ok (.bipush 7, 2) := by decide +kernel
theorem dX10_complaintAt_4 : decode cX10_complaintAt 4 = .ok (.iload_n 0, 1) := by decide +kernel
theorem dX10_complaintAt_5 : decode cX10_complaintAt 5 = .ok (.imul, 1) := by decide +kernel
theorem dX10_complaintAt_6 : decode cX10_complaintAt 6 = .ok (.iadd, 1) := by decide +kernel
theorem dX10_complaintAt_7 : decode cX10_complaintAt 7 = .ok (.iload_n 1, 1) := by decide +kernel
theorem dX10_complaintAt_8 : decode cX10_complaintAt 8 = .ok (.iadd, 1) := by decide +kernel
theorem dX10_complaintAt_9 : decode cX10_complaintAt 9 = .ok (.ireturn, 1) := by decide +kernel
set_option maxRecDepth 20000 in
theorem ggX10_isClerk_X10_in : GoodIn wsX10_isClerk wsX10_in := goodIn_r _ [5] (by decide +kernel) (by decide +kernel)
set_option maxRecDepth 20000 in
theorem gX10_isClerk_X10_in : GoodIn wsX10_isClerk (va_wsS RX10 58 yX10_in wsX10_in) := goodIn_app (goodIn_of _ (by decide +kernel)) ggX10_isClerk_X10_in
theorem dX10_isClerk_0 : decode cX10_isClerk 0 = .ok (.iload_n 1, 1) := by decide +kernel
theorem dX10_isClerk_1 : decode cX10_isClerk 1 = .ok (.iconst 0, 1) := by decide +kernel
theorem dX10_isClerk_2 : decode cX10_isClerk 2 = .ok (.aload_n 0, 1) := by decide +kernel
theorem dX10_isClerk_3 : decode cX10_isClerk 3 = .ok (.getfield 7, 3) := by decide +kernel
theorem dX10_isClerk_6 : decode cX10_isClerk 6 = .ok (.iconst 5, 1) := by decide +kernel
theorem dX10_isClerk_7 : decode cX10_isClerk 7 = .ok (.iaload, 1) := by decide +kernel
theorem dX10_isClerk_8 : decode cX10_isClerk 8 = .ok (.iconst 1, 1) := by decide +kernel
theorem dX10_isClerk_9 : decode cX10_isClerk 9 = .ok (.isub, 1) := by decide +kernel
theorem dX10_isClerk_10 : decode cX10_isClerk 10 = .ok (.invokestatic 58, 3) := by decide +kernel
theorem dX10_isClerk_13 : decode cX10_isClerk 13 = .ok (.ireturn, 1) := by decide +kernel
set_option maxRecDepth 20000 in
theorem ggX10_isComplaint_X10_in : GoodIn wsX10_isComplaint wsX10_in := goodIn_r _ [5] (by decide +kernel) (by decide +kernel)
set_option maxRecDepth 20000 in
theorem gX10_isComplaint_X10_in : GoodIn wsX10_isComplaint (va_wsS RX10 58 yX10_in wsX10_in) := goodIn_app (goodIn_of _ (by decide +kernel)) ggX10_isComplaint_X10_in
theorem dX10_isComplaint_0 : decode cX10_isComplaint 0 = .ok (.iload_n 1, 1) := by decide +kernel
theorem dX10_isComplaint_1 : decode cX10_isComplaint 1 = .ok (.iconst 0, 1) := by decide +kernel
theorem dX10_isComplaint_2 : decode cX10_isComplaint 2 = .ok (.aload_n 0, 1) := by decide +kernel
theorem dX10_isComplaint_3 : decode cX10_isComplaint 3 = .ok (.getfield 7, 3) := by decide +kernel
theorem dX10_isComplaint_6 : decode cX10_isComplaint 6 = .ok (.bipush 6, 2) := by decide +kernel
theorem dX10_isComplaint_8 : decode cX10_isComplaint 8 = .ok (.iaload, 1) := by decide +kernel
theorem dX10_isComplaint_9 : decode cX10_isComplaint 9 = .ok (.iconst 1, 1) := by decide +kernel
theorem dX10_isComplaint_10 : decode cX10_isComplaint 10 = .ok (.isub, 1) := by decide +kernel
theorem dX10_isComplaint_11 : decode cX10_isComplaint 11 = .ok (.invokestatic 58, 3) := by decide +kernel
theorem dX10_isComplaint_14 : decode cX10_isComplaint 14 = .ok (.ireturn, 1) := by decide +kernel
set_option maxRecDepth 20000 in
theorem ggX10_isSort_X10_in : GoodIn wsX10_isSort wsX10_in := goodIn_r _ [4] (by decide +kernel) (by decide +kernel)
set_option maxRecDepth 20000 in
theorem gX10_isSort_X10_in : GoodIn wsX10_isSort (va_wsS RX10 58 yX10_in wsX10_in) := goodIn_app (goodIn_of _ (by decide +kernel)) ggX10_isSort_X10_in
theorem dX10_isSort_0 : decode cX10_isSort 0 = .ok (.iload_n 0, 1) := by decide +kernel
theorem dX10_isSort_1 : decode cX10_isSort 1 = .ok (.iconst 0, 1) := by decide +kernel
theorem dX10_isSort_2 : decode cX10_isSort 2 = .ok (.iconst 3, 1) := by decide +kernel
theorem dX10_isSort_3 : decode cX10_isSort 3 = .ok (.invokestatic 58, 3) := by decide +kernel
theorem dX10_isSort_6 : decode cX10_isSort 6 = .ok (.ireturn, 1) := by decide +kernel
set_option maxRecDepth 20000 in
theorem ggX10_isPerson_X10_in : GoodIn wsX10_isPerson wsX10_in := goodIn_r _ [4] (by decide +kernel) (by decide +kernel)
set_option maxRecDepth 20000 in
theorem gX10_isPerson_X10_in : GoodIn wsX10_isPerson (va_wsS RX10 58 yX10_in wsX10_in) := goodIn_app (goodIn_of _ (by decide +kernel)) ggX10_isPerson_X10_in
theorem dX10_isPerson_0 : decode cX10_isPerson 0 = .ok (.iload_n 0, 1) := by decide +kernel
theorem dX10_isPerson_1 : decode cX10_isPerson 1 = .ok (.iconst 0, 1) := by decide +kernel
theorem dX10_isPerson_2 : decode cX10_isPerson 2 = .ok (.bipush 99, 2) := by decide +kernel
theorem dX10_isPerson_4 : decode cX10_isPerson 4 = .ok (.invokestatic 58, 3) := by decide +kernel
theorem dX10_isPerson_7 : decode cX10_isPerson 7 = .ok (.ireturn, 1) := by decide +kernel
set_option maxRecDepth 20000 in
theorem ggX10_isNight_X10_in : GoodIn wsX10_isNight wsX10_in := goodIn_r _ [4] (by decide +kernel) (by decide +kernel)
set_option maxRecDepth 20000 in
theorem gX10_isNight_X10_in : GoodIn wsX10_isNight (va_wsS RX10 58 yX10_in wsX10_in) := goodIn_app (goodIn_of _ (by decide +kernel)) ggX10_isNight_X10_in
theorem dX10_isNight_0 : decode cX10_isNight 0 = .ok (.iload_n 0, 1) := by decide +kernel
theorem dX10_isNight_1 : decode cX10_isNight 1 = .ok (.iconst 0, 1) := by decide +kernel
theorem dX10_isNight_2 : decode cX10_isNight 2 = .ok (.sipush 2000, 3) := by decide +kernel
theorem dX10_isNight_5 : decode cX10_isNight 5 = .ok (.invokestatic 58, 3) := by decide +kernel
theorem dX10_isNight_8 : decode cX10_isNight 8 = .ok (.ireturn, 1) := by decide +kernel
set_option maxRecDepth 20000 in
theorem ggX10_lightOn_X10_apart : GoodIn wsX10_lightOn wsX10_apart := goodIn_r _ [4] (by decide +kernel) (by decide +kernel)
set_option maxRecDepth 20000 in
theorem gX10_lightOn_X10_apart : GoodIn wsX10_lightOn (va_wsS RX10 62 yX10_apart wsX10_apart) := goodIn_app (goodIn_of _ (by decide +kernel)) ggX10_lightOn_X10_apart
theorem dX10_lightOn_0 : decode cX10_lightOn 0 = .ok (.bipush 14, 2) := by decide +kernel
theorem dX10_lightOn_2 : decode cX10_lightOn 2 = .ok (.bipush 14, 2) := by decide +kernel
theorem dX10_lightOn_4 : decode cX10_lightOn 4 = .ok (.iload_n 0, 1) := by decide +kernel
theorem dX10_lightOn_5 : decode cX10_lightOn 5 = .ok (.bipush 28, 2) := by decide +kernel
theorem dX10_lightOn_7 : decode cX10_lightOn 7 = .ok (.irem, 1) := by decide +kernel
theorem dX10_lightOn_8 : decode cX10_lightOn 8 = .ok (.invokestatic 62, 3) := by decide +kernel
theorem dX10_lightOn_11 : decode cX10_lightOn 11 = .ok (.isub, 1) := by decide +kernel
theorem dX10_lightOn_12 : decode cX10_lightOn 12 = .ok (.ireturn, 1) := by decide +kernel
set_option maxRecDepth 20000 in
theorem ggX10_tideOn_X10_apart : GoodIn wsX10_tideOn wsX10_apart := goodIn_r _ [4] (by decide +kernel) (by decide +kernel)
set_option maxRecDepth 20000 in
theorem gX10_tideOn_X10_apart : GoodIn wsX10_tideOn (va_wsS RX10 62 yX10_apart wsX10_apart) := goodIn_app (goodIn_of _ (by decide +kernel)) ggX10_tideOn_X10_apart
theorem dX10_tideOn_0 : decode cX10_tideOn 0 = .ok (.bipush 7, 2) := by decide +kernel
theorem dX10_tideOn_2 : decode cX10_tideOn 2 = .ok (.iload_n 0, 1) := by decide +kernel
theorem dX10_tideOn_3 : decode cX10_tideOn 3 = .ok (.bipush 28, 2) := by decide +kernel
theorem dX10_tideOn_5 : decode cX10_tideOn 5 = .ok (.irem, 1) := by decide +kernel
theorem dX10_tideOn_6 : decode cX10_tideOn 6 = .ok (.bipush 14, 2) := by decide +kernel
theorem dX10_tideOn_8 : decode cX10_tideOn 8 = .ok (.irem, 1) := by decide +kernel
theorem dX10_tideOn_9 : decode cX10_tideOn 9 = .ok (.invokestatic 62, 3) := by decide +kernel
theorem dX10_tideOn_12 : decode cX10_tideOn 12 = .ok (.ireturn, 1) := by decide +kernel
theorem dX10_cloudOn_0 : decode cX10_cloudOn 0 = .ok (.aload_n 0, 1) := by decide +kernel
theorem dX10_cloudOn_1 : decode cX10_cloudOn 1 = .ok (.bipush 9, 2) := by decide +kernel
theorem dX10_cloudOn_3 : decode cX10_cloudOn 3 = .ok (.iload_n 1, 1) := by decide +kernel
theorem dX10_cloudOn_4 : decode cX10_cloudOn 4 = .ok (.aload_n 0, 1) := by decide +kernel
theorem dX10_cloudOn_5 : decode cX10_cloudOn 5 = .ok (.iconst 4, 1) := by decide +kernel
theorem dX10_cloudOn_6 : decode cX10_cloudOn 6 = .ok (.iaload, 1) := by decide +kernel
theorem dX10_cloudOn_7 : decode cX10_cloudOn 7 = .ok (.irem, 1) := by decide +kernel
theorem dX10_cloudOn_8 : decode cX10_cloudOn 8 = .ok (.iadd, 1) := by decide +kernel
theorem dX10_cloudOn_9 : decode cX10_cloudOn 9 = .ok (.iaload, 1) := by decide +kernel
theorem dX10_cloudOn_10 : decode cX10_cloudOn 10 = .ok (.ireturn, 1) := by decide +kernel
set_option maxRecDepth 20000 in
theorem ggX10_visibleOn_X10_lightOn : GoodIn wsX10_visibleOn wsX10_lightOn := goodIn_r _ [4, 5, 6, 3, 7] (by decide +kernel) (by decide +kernel)
set_option maxRecDepth 20000 in
theorem gX10_visibleOn_X10_lightOn : GoodIn wsX10_visibleOn (va_wsS RX10 66 yX10_lightOn wsX10_lightOn) := goodIn_app (goodIn_of _ (by decide +kernel)) ggX10_visibleOn_X10_lightOn
set_option maxRecDepth 20000 in
theorem ggX10_visibleOn_X10_cloudOn : GoodIn wsX10_visibleOn wsX10_cloudOn := goodIn_r _ [10] (by decide +kernel) (by decide +kernel)
set_option maxRecDepth 20000 in
theorem gX10_visibleOn_X10_cloudOn : GoodIn wsX10_visibleOn (va_wsS RX10 70 yX10_cloudOn wsX10_cloudOn) := goodIn_app (goodIn_of _ (by decide +kernel)) ggX10_visibleOn_X10_cloudOn
theorem dX10_visibleOn_0 : decode cX10_visibleOn 0 = .ok (.iload_n 1, 1) := by decide +kernel
theorem dX10_visibleOn_1 : decode cX10_visibleOn 1 = .ok (.invokestatic 66, 3) := by decide +kernel
theorem dX10_visibleOn_4 : decode cX10_visibleOn 4 = .ok (.bipush 10, 2) := by decide +kernel
theorem dX10_visibleOn_6 : decode cX10_visibleOn 6 = .ok (.aload_n 0, 1) := by decide +kernel
theorem dX10_visibleOn_7 : decode cX10_visibleOn 7 = .ok (.iload_n 1, 1) := by decide +kernel
theorem dX10_visibleOn_8 : decode cX10_visibleOn 8 = .ok (.invokestatic 70, 3) := by decide +kernel
theorem dX10_visibleOn_11 : decode cX10_visibleOn 11 = .ok (.isub, 1) := by decide +kernel
theorem dX10_visibleOn_12 : decode cX10_visibleOn 12 = .ok (.imul, 1) := by decide +kernel
theorem dX10_visibleOn_13 : decode cX10_visibleOn 13 = .ok (.bipush 10, 2) := by decide +kernel
theorem dX10_visibleOn_15 : decode cX10_visibleOn 15 = .ok (.idiv, 1) := by decide +kernel
theorem dX10_visibleOn_16 : decode cX10_visibleOn 16 = .ok (.ireturn, 1) := by decide +kernel
theorem dX10_limitOf_0 : decode cX10_limitOf 0 = .ok (.aload_n 0, 1) := by decide +kernel
theorem dX10_limitOf_1 : decode cX10_limitOf 1 = .ok (.iconst 1, 1) := by decide +kernel
theorem dX10_limitOf_2 : decode cX10_limitOf 2 = .ok (.iload_n 1, 1) := by decide +kernel
theorem dX10_limitOf_3 : decode cX10_limitOf 3 = .ok (.iadd, 1) := by decide +kernel
theorem dX10_limitOf_4 : decode cX10_limitOf 4 = .ok (.iaload, 1) := by decide +kernel
theorem dX10_limitOf_5 : decode cX10_limitOf 5 = .ok (.ireturn, 1) := by decide +kernel
set_option maxRecDepth 20000 in
theorem ggX10_isJust_X10_visibleOn : GoodIn wsX10_isJust wsX10_visibleOn := goodIn_r _ [4, 5, 6, 3, 7, 8, 9, 10, 11, 12, 13] (by decide +kernel) (by decide +kernel)
set_option maxRecDepth 20000 in
theorem gX10_isJust_X10_visibleOn : GoodIn wsX10_isJust (va_wsS RX10 74 yX10_visibleOn wsX10_visibleOn) := goodIn_app (goodIn_of _ (by decide +kernel)) ggX10_isJust_X10_visibleOn
set_option maxRecDepth 20000 in
theorem ggX10_isJust_X10_limitOf : GoodIn wsX10_isJust wsX10_limitOf := goodIn_r _ [16] (by decide +kernel) (by decide +kernel)
set_option maxRecDepth 20000 in
theorem gX10_isJust_X10_limitOf : GoodIn wsX10_isJust (va_wsS RX10 77 yX10_limitOf wsX10_limitOf) := goodIn_app (goodIn_of _ (by decide +kernel)) ggX10_isJust_X10_limitOf
set_option maxRecDepth 20000 in
theorem ggX10_isJust_X10_tideOn : GoodIn wsX10_isJust wsX10_tideOn := goodIn_r _ [19, 8, 9, 3, 10] (by decide +kernel) (by decide +kernel)
set_option maxRecDepth 20000 in
theorem gX10_isJust_X10_tideOn : GoodIn wsX10_isJust (va_wsS RX10 80 yX10_tideOn wsX10_tideOn) := goodIn_app (goodIn_of _ (by decide +kernel)) ggX10_isJust_X10_tideOn
set_option maxRecDepth 20000 in
theorem ggX10_isJust_X10_lightOn : GoodIn wsX10_isJust wsX10_lightOn := goodIn_r _ [7, 8, 9, 3, 10] (by decide +kernel) (by decide +kernel)
set_option maxRecDepth 20000 in
theorem gX10_isJust_X10_lightOn : GoodIn wsX10_isJust (va_wsS RX10 66 yX10_lightOn wsX10_lightOn) := goodIn_app (goodIn_of _ (by decide +kernel)) ggX10_isJust_X10_lightOn
set_option maxRecDepth 20000 in
theorem ggX10_isJust_X10_cloudOn : GoodIn wsX10_isJust wsX10_cloudOn := goodIn_r _ [13] (by decide +kernel) (by decide +kernel)
set_option maxRecDepth 20000 in
theorem gX10_isJust_X10_cloudOn : GoodIn wsX10_isJust (va_wsS RX10 70 yX10_cloudOn wsX10_cloudOn) := goodIn_app (goodIn_of _ (by decide +kernel)) ggX10_isJust_X10_cloudOn
theorem dX10_isJust_0 : decode cX10_isJust 0 = .ok (.iload_n 1, 1) := by decide +kernel
theorem dX10_isJust_1 : decode cX10_isJust 1 = .ok (.tableswitch 83 0 2 #[27, 46, 65], 27) := by decide +kernel
theorem dX10_isJust_28 : decode cX10_isJust 28 = .ok (.aload_n 0, 1) := by decide +kernel
theorem dX10_isJust_29 : decode cX10_isJust 29 = .ok (.iload_n 2, 1) := by decide +kernel
theorem dX10_isJust_30 : decode cX10_isJust 30 = .ok (.invokestatic 74, 3) := by decide +kernel
theorem dX10_isJust_33 : decode cX10_isJust 33 = .ok (.aload_n 0, 1) := by decide +kernel
theorem dX10_isJust_34 : decode cX10_isJust 34 = .ok (.iconst 0, 1) := by decide +kernel
theorem dX10_isJust_35 : decode cX10_isJust 35 = .ok (.invokestatic 77, 3) := by decide +kernel
theorem dX10_isJust_38 : decode cX10_isJust 38 = .ok (.if_icmp .lt 7, 3) := by decide +kernel
theorem dX10_isJust_41 : decode cX10_isJust 41 = .ok (.iconst 1, 1) := by decide +kernel
theorem dX10_isJust_42 : decode cX10_isJust 42 = .ok (.goto 4, 3) := by decide +kernel
theorem dX10_isJust_45 : decode cX10_isJust 45 = .ok (.iconst 0, 1) := by decide +kernel
theorem dX10_isJust_46 : decode cX10_isJust 46 = .ok (.ireturn, 1) := by decide +kernel
theorem dX10_isJust_47 : decode cX10_isJust 47 = .ok (.aload_n 0, 1) := by decide +kernel
theorem dX10_isJust_48 : decode cX10_isJust 48 = .ok (.iload_n 2, 1) := by decide +kernel
theorem dX10_isJust_49 : decode cX10_isJust 49 = .ok (.invokestatic 74, 3) := by decide +kernel
theorem dX10_isJust_52 : decode cX10_isJust 52 = .ok (.aload_n 0, 1) := by decide +kernel
theorem dX10_isJust_53 : decode cX10_isJust 53 = .ok (.iconst 1, 1) := by decide +kernel
theorem dX10_isJust_54 : decode cX10_isJust 54 = .ok (.invokestatic 77, 3) := by decide +kernel
theorem dX10_isJust_57 : decode cX10_isJust 57 = .ok (.if_icmp .gt 7, 3) := by decide +kernel
theorem dX10_isJust_60 : decode cX10_isJust 60 = .ok (.iconst 1, 1) := by decide +kernel
theorem dX10_isJust_61 : decode cX10_isJust 61 = .ok (.goto 4, 3) := by decide +kernel
theorem dX10_isJust_64 : decode cX10_isJust 64 = .ok (.iconst 0, 1) := by decide +kernel
theorem dX10_isJust_65 : decode cX10_isJust 65 = .ok (.ireturn, 1) := by decide +kernel
theorem dX10_isJust_66 : decode cX10_isJust 66 = .ok (.iload_n 2, 1) := by decide +kernel
theorem dX10_isJust_67 : decode cX10_isJust 67 = .ok (.invokestatic 80, 3) := by decide +kernel
theorem dX10_isJust_70 : decode cX10_isJust 70 = .ok (.aload_n 0, 1) := by decide +kernel
theorem dX10_isJust_71 : decode cX10_isJust 71 = .ok (.iconst 2, 1) := by decide +kernel
theorem dX10_isJust_72 : decode cX10_isJust 72 = .ok (.invokestatic 77, 3) := by decide +kernel
theorem dX10_isJust_75 : decode cX10_isJust 75 = .ok (.if_icmp .lt 7, 3) := by decide +kernel
theorem dX10_isJust_78 : decode cX10_isJust 78 = .ok (.iconst 1, 1) := by decide +kernel
theorem dX10_isJust_79 : decode cX10_isJust 79 = .ok (.goto 4, 3) := by decide +kernel
theorem dX10_isJust_82 : decode cX10_isJust 82 = .ok (.iconst 0, 1) := by decide +kernel
theorem dX10_isJust_83 : decode cX10_isJust 83 = .ok (.ireturn, 1) := by decide +kernel
theorem dX10_isJust_84 : decode cX10_isJust 84 = .ok (.iload_n 2, 1) := by decide +kernel
theorem dX10_isJust_85 : decode cX10_isJust 85 = .ok (.invokestatic 66, 3) := by decide +kernel
theorem dX10_isJust_88 : decode cX10_isJust 88 = .ok (.iconst 4, 1) := by decide +kernel
theorem dX10_isJust_89 : decode cX10_isJust 89 = .ok (.if_icmp .lt 16, 3) := by decide +kernel
theorem dX10_isJust_92 : decode cX10_isJust 92 = .ok (.aload_n 0, 1) := by decide +kernel
theorem dX10_isJust_93 : decode cX10_isJust 93 = .ok (.iload_n 2, 1) := by decide +kernel
theorem dX10_isJust_94 : decode cX10_isJust 94 = .ok (.invokestatic 70, 3) := by decide +kernel
theorem dX10_isJust_97 : decode cX10_isJust 97 = .ok (.iconst 2, 1) := by decide +kernel
theorem dX10_isJust_98 : decode cX10_isJust 98 = .ok (.if_icmp .gt 7, 3) := by decide +kernel
theorem dX10_isJust_101 : decode cX10_isJust 101 = .ok (.iconst 1, 1) := by decide +kernel
theorem dX10_isJust_102 : decode cX10_isJust 102 = .ok (.goto 4, 3) := by decide +kernel
theorem dX10_isJust_105 : decode cX10_isJust 105 = .ok (.iconst 0, 1) := by decide +kernel
theorem dX10_isJust_106 : decode cX10_isJust 106 = .ok (.ireturn, 1) := by decide +kernel
set_option maxRecDepth 20000 in
theorem ggX10_justNights_X10_isJust : GoodIn wsX10_justNights wsX10_isJust := goodIn_r _ [4, 5, 6, 3, 7, 8, 9, 10, 11, 12, 13, 14, 15, 16, 17, 18, 19, 20, 21, 22] (by decide +kernel) (by decide +kernel)
set_option maxRecDepth 20000 in
theorem gX10_justNights_X10_isJust : GoodIn wsX10_justNights (va_wsS RX10 83 yX10_isJust wsX10_isJust) := goodIn_app (goodIn_of _ (by decide +kernel)) ggX10_justNights_X10_isJust
theorem dX10_justNights_0 : decode cX10_justNights 0 = .ok (.iconst 0, 1) := by decide +kernel
theorem dX10_justNights_1 : decode cX10_justNights 1 = .ok (.istore_n 2, 1) := by decide +kernel
theorem dX10_justNights_2 : decode cX10_justNights 2 = .ok (.aload_n 0, 1) := by decide +kernel
theorem dX10_justNights_3 : decode cX10_justNights 3 = .ok (.iconst 0, 1) := by decide +kernel
theorem dX10_justNights_4 : decode cX10_justNights 4 = .ok (.iaload, 1) := by decide +kernel
theorem dX10_justNights_5 : decode cX10_justNights 5 = .ok (.istore_n 3, 1) := by decide +kernel
theorem dX10_justNights_6 : decode cX10_justNights 6 = .ok (.iload_n 3, 1) := by decide +kernel
theorem dX10_justNights_7 : decode cX10_justNights 7 = .ok (.aload_n 0, 1) := by decide +kernel
theorem dX10_justNights_8 : decode cX10_justNights 8 = .ok (.iconst 0, 1) := by decide +kernel
theorem dX10_justNights_9 : decode cX10_justNights 9 = .ok (.iaload, 1) := by decide +kernel
theorem dX10_justNights_10 : decode cX10_justNights 10 = .ok (.bipush 28, 2) := by decide +kernel
theorem dX10_justNights_12 : decode cX10_justNights 12 = .ok (.iadd, 1) := by decide +kernel
theorem dX10_justNights_13 : decode cX10_justNights 13 = .ok (.if_icmp .ge 21, 3) := by decide +kernel
theorem dX10_justNights_16 : decode cX10_justNights 16 = .ok (.aload_n 0, 1) := by decide +kernel
theorem dX10_justNights_17 : decode cX10_justNights 17 = .ok (.iload_n 1, 1) := by decide +kernel
theorem dX10_justNights_18 : decode cX10_justNights 18 = .ok (.iload_n 3, 1) := by decide +kernel
theorem dX10_justNights_19 : decode cX10_justNights 19 = .ok (.invokestatic 83, 3) := by decide +kernel
theorem dX10_justNights_22 : decode cX10_justNights 22 = .ok (.ifCond .eq 6, 3) := by decide +kernel
theorem dX10_justNights_25 : decode cX10_justNights 25 = .ok (.iinc 2 1, 3) := by decide +kernel
theorem dX10_justNights_28 : decode cX10_justNights 28 = .ok (.iinc 3 1, 3) := by decide +kernel
theorem dX10_justNights_31 : decode cX10_justNights 31 = .ok (.goto (-25), 3) := by decide +kernel
theorem dX10_justNights_34 : decode cX10_justNights 34 = .ok (.iload_n 2, 1) := by decide +kernel
theorem dX10_justNights_35 : decode cX10_justNights 35 = .ok (.ireturn, 1) := by decide +kernel
set_option maxRecDepth 20000 in
theorem ggX10_costOn_X10_visibleOn : GoodIn wsX10_costOn wsX10_visibleOn := goodIn_r _ [4, 5, 6, 3, 7, 8, 9, 10, 11, 12, 13] (by decide +kernel) (by decide +kernel)
set_option maxRecDepth 20000 in
theorem gX10_costOn_X10_visibleOn : GoodIn wsX10_costOn (va_wsS RX10 74 yX10_visibleOn wsX10_visibleOn) := goodIn_app (goodIn_of _ (by decide +kernel)) ggX10_costOn_X10_visibleOn
theorem dX10_costOn_0 : decode cX10_costOn 0 = .ok (.bipush 6, 2) := by decide +kernel
theorem dX10_costOn_2 : decode cX10_costOn 2 = .ok (.aload_n 0, 1) := by decide +kernel
theorem dX10_costOn_3 : decode cX10_costOn 3 = .ok (.iload_n 1, 1) := by decide +kernel
theorem dX10_costOn_4 : decode cX10_costOn 4 = .ok (.invokestatic 74, 3) := by decide +kernel
theorem dX10_costOn_7 : decode cX10_costOn 7 = .ok (.iconst 3, 1) := by decide +kernel
theorem dX10_costOn_8 : decode cX10_costOn 8 = .ok (.idiv, 1) := by decide +kernel
theorem dX10_costOn_9 : decode cX10_costOn 9 = .ok (.isub, 1) := by decide +kernel
theorem dX10_costOn_10 : decode cX10_costOn 10 = .ok (.ireturn, 1) := by decide +kernel
theorem dX10_addsCloud_0 : decode cX10_addsCloud 0 = .ok (.aload_n 0, 1) := by decide +kernel
theorem dX10_addsCloud_1 : decode cX10_addsCloud 1 = .ok (.bipush 9, 2) := by decide +kernel
theorem dX10_addsCloud_3 : decode cX10_addsCloud 3 = .ok (.aload_n 0, 1) := by decide +kernel
theorem dX10_addsCloud_4 : decode cX10_addsCloud 4 = .ok (.iconst 4, 1) := by decide +kernel
theorem dX10_addsCloud_5 : decode cX10_addsCloud 5 = .ok (.iaload, 1) := by decide +kernel
theorem dX10_addsCloud_6 : decode cX10_addsCloud 6 = .ok (.iadd, 1) := by decide +kernel
theorem dX10_addsCloud_7 : decode cX10_addsCloud 7 = .ok (.iload_n 1, 1) := by decide +kernel
theorem dX10_addsCloud_8 : decode cX10_addsCloud 8 = .ok (.iastore, 1) := by decide +kernel
theorem dX10_addsCloud_9 : decode cX10_addsCloud 9 = .ok (.aload_n 0, 1) := by decide +kernel
theorem dX10_addsCloud_10 : decode cX10_addsCloud 10 = .ok (.iconst 4, 1) := by decide +kernel
theorem dX10_addsCloud_11 : decode cX10_addsCloud 11 = .ok (.dup2, 1) := by decide +kernel
theorem dX10_addsCloud_12 : decode cX10_addsCloud 12 = .ok (.iaload, 1) := by decide +kernel
theorem dX10_addsCloud_13 : decode cX10_addsCloud 13 = .ok (.iconst 1, 1) := by decide +kernel
theorem dX10_addsCloud_14 : decode cX10_addsCloud 14 = .ok (.iadd, 1) := by decide +kernel
theorem dX10_addsCloud_15 : decode cX10_addsCloud 15 = .ok (.iastore, 1) := by decide +kernel
theorem dX10_addsCloud_16 : decode cX10_addsCloud 16 = .ok (.return_, 1) := by decide +kernel
set_option maxRecDepth 20000 in
theorem ggX10_addsClerk_X10_clerkAt : GoodIn wsX10_addsClerk wsX10_clerkAt := goodIn_r _ [4] (by decide +kernel) (by decide +kernel)
set_option maxRecDepth 20000 in
theorem gX10_addsClerk_X10_clerkAt : GoodIn wsX10_addsClerk (va_wsS RX10 87 yX10_clerkAt wsX10_clerkAt) := goodIn_app (goodIn_of _ (by decide +kernel)) ggX10_addsClerk_X10_clerkAt
theorem dX10_addsClerk_0 : decode cX10_addsClerk 0 = .ok (.aload_n 0, 1) := by decide +kernel
theorem dX10_addsClerk_1 : decode cX10_addsClerk 1 = .ok (.iconst 5, 1) := by decide +kernel
theorem dX10_addsClerk_2 : decode cX10_addsClerk 2 = .ok (.iaload, 1) := by decide +kernel
theorem dX10_addsClerk_3 : decode cX10_addsClerk 3 = .ok (.istore_n 3, 1) := by decide +kernel
theorem dX10_addsClerk_4 : decode cX10_addsClerk 4 = .ok (.aload_n 0, 1) := by decide +kernel
theorem dX10_addsClerk_5 : decode cX10_addsClerk 5 = .ok (.iload_n 3, 1) := by decide +kernel
theorem dX10_addsClerk_6 : decode cX10_addsClerk 6 = .ok (.iconst 0, 1) := by decide +kernel
theorem dX10_addsClerk_7 : decode cX10_addsClerk 7 = .ok (.invokestatic 87, 3) := by decide +kernel
theorem dX10_addsClerk_10 : decode cX10_addsClerk 10 = .ok (.iload_n 1, 1) := by decide +kernel
theorem dX10_addsClerk_11 : decode cX10_addsClerk 11 = .ok (.iastore, 1) := by decide +kernel
theorem dX10_addsClerk_12 : decode cX10_addsClerk 12 = .ok (.aload_n 0, 1) := by decide +kernel
theorem dX10_addsClerk_13 : decode cX10_addsClerk 13 = .ok (.iload_n 3, 1) := by decide +kernel
theorem dX10_addsClerk_14 : decode cX10_addsClerk 14 = .ok (.iconst 1, 1) := by decide +kernel
theorem dX10_addsClerk_15 : decode cX10_addsClerk 15 = .ok (.invokestatic 87, 3) := by decide +kernel
theorem dX10_addsClerk_18 : decode cX10_addsClerk 18 = .ok (.iload_n 2, 1) := by decide +kernel
theorem dX10_addsClerk_19 : decode cX10_addsClerk 19 = .ok (.iastore, 1) := by decide +kernel
theorem dX10_addsClerk_20 : decode cX10_addsClerk 20 = .ok (.aload_n 0, 1) := by decide +kernel
theorem dX10_addsClerk_21 : decode cX10_addsClerk 21 = .ok (.iload_n 3, 1) := by decide +kernel
theorem dX10_addsClerk_22 : decode cX10_addsClerk 22 = .ok (.iconst 2, 1) := by decide +kernel
theorem dX10_addsClerk_23 : decode cX10_addsClerk 23 = .ok (.invokestatic 87, 3) := by decide +kernel
theorem dX10_addsClerk_26 : decode cX10_addsClerk 26 = .ok (.iconst 0, 1) := by decide +kernel
theorem dX10_addsClerk_27 : decode cX10_addsClerk 27 = .ok (.iastore, 1) := by decide +kernel
theorem dX10_addsClerk_28 : decode cX10_addsClerk 28 = .ok (.aload_n 0, 1) := by decide +kernel
theorem dX10_addsClerk_29 : decode cX10_addsClerk 29 = .ok (.iconst 5, 1) := by decide +kernel
theorem dX10_addsClerk_30 : decode cX10_addsClerk 30 = .ok (.dup2, 1) := by decide +kernel
theorem dX10_addsClerk_31 : decode cX10_addsClerk 31 = .ok (.iaload, 1) := by decide +kernel
theorem dX10_addsClerk_32 : decode cX10_addsClerk 32 = .ok (.iconst 1, 1) := by decide +kernel
theorem dX10_addsClerk_33 : decode cX10_addsClerk 33 = .ok (.iadd, 1) := by decide +kernel
theorem dX10_addsClerk_34 : decode cX10_addsClerk 34 = .ok (.iastore, 1) := by decide +kernel
theorem dX10_addsClerk_35 : decode cX10_addsClerk 35 = .ok (.iload_n 3, 1) := by decide +kernel
theorem dX10_addsClerk_36 : decode cX10_addsClerk 36 = .ok (.ireturn, 1) := by decide +kernel
set_option maxRecDepth 20000 in
theorem ggX10_files_X10_complaintAt : GoodIn wsX10_files wsX10_complaintAt := goodIn_r _ [4] (by decide +kernel) (by decide +kernel)
set_option maxRecDepth 20000 in
theorem gX10_files_X10_complaintAt : GoodIn wsX10_files (va_wsS RX10 90 yX10_complaintAt wsX10_complaintAt) := goodIn_app (goodIn_of _ (by decide +kernel)) ggX10_files_X10_complaintAt
theorem dX10_files_0 : decode cX10_files 0 = .ok (.aload_n 0, 1) := by decide +kernel
theorem dX10_files_1 : decode cX10_files 1 = .ok (.bipush 6, 2) := by decide +kernel
theorem dX10_files_3 : decode cX10_files 3 = .ok (.iaload, 1) := by decide +kernel
theorem dX10_files_4 : decode cX10_files 4 = .ok (.istore 4, 2) := by decide +kernel
theorem dX10_files_6 : decode cX10_files 6 = .ok (.aload_n 0, 1) := by decide +kernel
theorem dX10_files_7 : decode cX10_files 7 = .ok (.iload 4, 2) := by decide +kernel
theorem dX10_files_9 : decode cX10_files 9 = .ok (.iconst 0, 1) := by decide +kernel
theorem dX10_files_10 : decode cX10_files 10 = .ok (.invokestatic 90, 3) := by decide +kernel
theorem dX10_files_13 : decode cX10_files 13 = .ok (.iload_n 1, 1) := by decide +kernel
theorem dX10_files_14 : decode cX10_files 14 = .ok (.iastore, 1) := by decide +kernel
theorem dX10_files_15 : decode cX10_files 15 = .ok (.aload_n 0, 1) := by decide +kernel
theorem dX10_files_16 : decode cX10_files 16 = .ok (.iload 4, 2) := by decide +kernel
theorem dX10_files_18 : decode cX10_files 18 = .ok (.iconst 1, 1) := by decide +kernel
theorem dX10_files_19 : decode cX10_files 19 = .ok (.invokestatic 90, 3) := by decide +kernel
theorem dX10_files_22 : decode cX10_files 22 = .ok (.iload_n 2, 1) := by decide +kernel
theorem dX10_files_23 : decode cX10_files 23 = .ok (.iastore, 1) := by decide +kernel
theorem dX10_files_24 : decode cX10_files 24 = .ok (.aload_n 0, 1) := by decide +kernel
theorem dX10_files_25 : decode cX10_files 25 = .ok (.iload 4, 2) := by decide +kernel
theorem dX10_files_27 : decode cX10_files 27 = .ok (.iconst 2, 1) := by decide +kernel
theorem dX10_files_28 : decode cX10_files 28 = .ok (.invokestatic 90, 3) := by decide +kernel
theorem dX10_files_31 : decode cX10_files 31 = .ok (.iload_n 3, 1) := by decide +kernel
theorem dX10_files_32 : decode cX10_files 32 = .ok (.iastore, 1) := by decide +kernel
theorem dX10_files_33 : decode cX10_files 33 = .ok (.aload_n 0, 1) := by decide +kernel
theorem dX10_files_34 : decode cX10_files 34 = .ok (.iload 4, 2) := by decide +kernel
theorem dX10_files_36 : decode cX10_files 36 = .ok (.iconst 3, 1) := by decide +kernel
theorem dX10_files_37 : decode cX10_files 37 = .ok (.invokestatic 90, 3) := by decide +kernel
theorem dX10_files_40 : decode cX10_files 40 = .ok (.aload_n 0, 1) := by decide +kernel
theorem dX10_files_41 : decode cX10_files 41 = .ok (.iconst 0, 1) := by decide +kernel
theorem dX10_files_42 : decode cX10_files 42 = .ok (.iaload, 1) := by decide +kernel
theorem dX10_files_43 : decode cX10_files 43 = .ok (.iastore, 1) := by decide +kernel
theorem dX10_files_44 : decode cX10_files 44 = .ok (.aload_n 0, 1) := by decide +kernel
theorem dX10_files_45 : decode cX10_files 45 = .ok (.iload 4, 2) := by decide +kernel
theorem dX10_files_47 : decode cX10_files 47 = .ok (.iconst 4, 1) := by decide +kernel
theorem dX10_files_48 : decode cX10_files 48 = .ok (.invokestatic 90, 3) := by decide +kernel
theorem dX10_files_51 : decode cX10_files 51 = .ok (.iconst 0, 1) := by decide +kernel
theorem dX10_files_52 : decode cX10_files 52 = .ok (.iastore, 1) := by decide +kernel
theorem dX10_files_53 : decode cX10_files 53 = .ok (.aload_n 0, 1) := by decide +kernel
theorem dX10_files_54 : decode cX10_files 54 = .ok (.iload 4, 2) := by decide +kernel
theorem dX10_files_56 : decode cX10_files 56 = .ok (.iconst 5, 1) := by decide +kernel
theorem dX10_files_57 : decode cX10_files 57 = .ok (.invokestatic 90, 3) := by decide +kernel
theorem dX10_files_60 : decode cX10_files 60 = .ok (.iconst (-1), 1) := by decide +kernel
theorem dX10_files_61 : decode cX10_files 61 = .ok (.iastore, 1) := by decide +kernel
theorem dX10_files_62 : decode cX10_files 62 = .ok (.aload_n 0, 1) := by decide +kernel
theorem dX10_files_63 : decode cX10_files 63 = .ok (.iload 4, 2) := by decide +kernel
theorem dX10_files_65 : decode cX10_files 65 = .ok (.bipush 6, 2) := by decide +kernel
theorem dX10_files_67 : decode cX10_files 67 = .ok (.invokestatic 90, 3) := by decide +kernel
theorem dX10_files_70 : decode cX10_files 70 = .ok (.iconst (-1), 1) := by decide +kernel
theorem dX10_files_71 : decode cX10_files 71 = .ok (.iastore, 1) := by decide +kernel
theorem dX10_files_72 : decode cX10_files 72 = .ok (.aload_n 0, 1) := by decide +kernel
theorem dX10_files_73 : decode cX10_files 73 = .ok (.bipush 6, 2) := by decide +kernel
theorem dX10_files_75 : decode cX10_files 75 = .ok (.dup2, 1) := by decide +kernel
theorem dX10_files_76 : decode cX10_files 76 = .ok (.iaload, 1) := by decide +kernel
theorem dX10_files_77 : decode cX10_files 77 = .ok (.iconst 1, 1) := by decide +kernel
theorem dX10_files_78 : decode cX10_files 78 = .ok (.iadd, 1) := by decide +kernel
theorem dX10_files_79 : decode cX10_files 79 = .ok (.iastore, 1) := by decide +kernel
theorem dX10_files_80 : decode cX10_files 80 = .ok (.iload 4, 2) := by decide +kernel
theorem dX10_files_82 : decode cX10_files 82 = .ok (.ireturn, 1) := by decide +kernel
set_option maxRecDepth 20000 in
theorem ggX10_personIn_X10_complaintAt : GoodIn wsX10_personIn wsX10_complaintAt := goodIn_r _ [4] (by decide +kernel) (by decide +kernel)
set_option maxRecDepth 20000 in
theorem gX10_personIn_X10_complaintAt : GoodIn wsX10_personIn (va_wsS RX10 90 yX10_complaintAt wsX10_complaintAt) := goodIn_app (goodIn_of _ (by decide +kernel)) ggX10_personIn_X10_complaintAt
theorem dX10_personIn_0 : decode cX10_personIn 0 = .ok (.aload_n 0, 1) := by decide +kernel
theorem dX10_personIn_1 : decode cX10_personIn 1 = .ok (.iload_n 1, 1) := by decide +kernel
theorem dX10_personIn_2 : decode cX10_personIn 2 = .ok (.iconst 0, 1) := by decide +kernel
theorem dX10_personIn_3 : decode cX10_personIn 3 = .ok (.invokestatic 90, 3) := by decide +kernel
theorem dX10_personIn_6 : decode cX10_personIn 6 = .ok (.iaload, 1) := by decide +kernel
theorem dX10_personIn_7 : decode cX10_personIn 7 = .ok (.ireturn, 1) := by decide +kernel
set_option maxRecDepth 20000 in
theorem ggX10_sortIn_X10_complaintAt : GoodIn wsX10_sortIn wsX10_complaintAt := goodIn_r _ [4] (by decide +kernel) (by decide +kernel)
set_option maxRecDepth 20000 in
theorem gX10_sortIn_X10_complaintAt : GoodIn wsX10_sortIn (va_wsS RX10 90 yX10_complaintAt wsX10_complaintAt) := goodIn_app (goodIn_of _ (by decide +kernel)) ggX10_sortIn_X10_complaintAt
theorem dX10_sortIn_0 : decode cX10_sortIn 0 = .ok (.aload_n 0, 1) := by decide +kernel
theorem dX10_sortIn_1 : decode cX10_sortIn 1 = .ok (.iload_n 1, 1) := by decide +kernel
theorem dX10_sortIn_2 : decode cX10_sortIn 2 = .ok (.iconst 1, 1) := by decide +kernel
theorem dX10_sortIn_3 : decode cX10_sortIn 3 = .ok (.invokestatic 90, 3) := by decide +kernel
theorem dX10_sortIn_6 : decode cX10_sortIn 6 = .ok (.iaload, 1) := by decide +kernel
theorem dX10_sortIn_7 : decode cX10_sortIn 7 = .ok (.ireturn, 1) := by decide +kernel
set_option maxRecDepth 20000 in
theorem ggX10_angerIn_X10_complaintAt : GoodIn wsX10_angerIn wsX10_complaintAt := goodIn_r _ [4] (by decide +kernel) (by decide +kernel)
set_option maxRecDepth 20000 in
theorem gX10_angerIn_X10_complaintAt : GoodIn wsX10_angerIn (va_wsS RX10 90 yX10_complaintAt wsX10_complaintAt) := goodIn_app (goodIn_of _ (by decide +kernel)) ggX10_angerIn_X10_complaintAt
theorem dX10_angerIn_0 : decode cX10_angerIn 0 = .ok (.aload_n 0, 1) := by decide +kernel
theorem dX10_angerIn_1 : decode cX10_angerIn 1 = .ok (.iload_n 1, 1) := by decide +kernel
theorem dX10_angerIn_2 : decode cX10_angerIn 2 = .ok (.iconst 2, 1) := by decide +kernel
theorem dX10_angerIn_3 : decode cX10_angerIn 3 = .ok (.invokestatic 90, 3) := by decide +kernel
theorem dX10_angerIn_6 : decode cX10_angerIn 6 = .ok (.iaload, 1) := by decide +kernel
theorem dX10_angerIn_7 : decode cX10_angerIn 7 = .ok (.ireturn, 1) := by decide +kernel
set_option maxRecDepth 20000 in
theorem ggX10_filedBy_X10_complaintAt : GoodIn wsX10_filedBy wsX10_complaintAt := goodIn_r _ [4] (by decide +kernel) (by decide +kernel)
set_option maxRecDepth 20000 in
theorem gX10_filedBy_X10_complaintAt : GoodIn wsX10_filedBy (va_wsS RX10 90 yX10_complaintAt wsX10_complaintAt) := goodIn_app (goodIn_of _ (by decide +kernel)) ggX10_filedBy_X10_complaintAt
theorem dX10_filedBy_0 : decode cX10_filedBy 0 = .ok (.aload_n 0, 1) := by decide +kernel
theorem dX10_filedBy_1 : decode cX10_filedBy 1 = .ok (.iload_n 1, 1) := by decide +kernel
theorem dX10_filedBy_2 : decode cX10_filedBy 2 = .ok (.iconst 3, 1) := by decide +kernel
theorem dX10_filedBy_3 : decode cX10_filedBy 3 = .ok (.invokestatic 90, 3) := by decide +kernel
theorem dX10_filedBy_6 : decode cX10_filedBy 6 = .ok (.iaload, 1) := by decide +kernel
theorem dX10_filedBy_7 : decode cX10_filedBy 7 = .ok (.ireturn, 1) := by decide +kernel
set_option maxRecDepth 20000 in
theorem ggX10_stateIn_X10_complaintAt : GoodIn wsX10_stateIn wsX10_complaintAt := goodIn_r _ [4] (by decide +kernel) (by decide +kernel)
set_option maxRecDepth 20000 in
theorem gX10_stateIn_X10_complaintAt : GoodIn wsX10_stateIn (va_wsS RX10 90 yX10_complaintAt wsX10_complaintAt) := goodIn_app (goodIn_of _ (by decide +kernel)) ggX10_stateIn_X10_complaintAt
theorem dX10_stateIn_0 : decode cX10_stateIn 0 = .ok (.aload_n 0, 1) := by decide +kernel
theorem dX10_stateIn_1 : decode cX10_stateIn 1 = .ok (.iload_n 1, 1) := by decide +kernel
theorem dX10_stateIn_2 : decode cX10_stateIn 2 = .ok (.iconst 4, 1) := by decide +kernel
theorem dX10_stateIn_3 : decode cX10_stateIn 3 = .ok (.invokestatic 90, 3) := by decide +kernel
theorem dX10_stateIn_6 : decode cX10_stateIn 6 = .ok (.iaload, 1) := by decide +kernel
theorem dX10_stateIn_7 : decode cX10_stateIn 7 = .ok (.ireturn, 1) := by decide +kernel
set_option maxRecDepth 20000 in
theorem ggX10_isOlder_X10_filedBy : GoodIn wsX10_isOlder wsX10_filedBy := goodIn_r _ [4, 5, 6, 3, 7] (by decide +kernel) (by decide +kernel)
set_option maxRecDepth 20000 in
theorem gX10_isOlder_X10_filedBy : GoodIn wsX10_isOlder (va_wsS RX10 93 yX10_filedBy wsX10_filedBy) := goodIn_app (goodIn_of _ (by decide +kernel)) ggX10_isOlder_X10_filedBy
theorem dX10_isOlder_0 : decode cX10_isOlder 0 = .ok (.aload_n 0, 1) := by decide +kernel
theorem dX10_isOlder_1 : decode cX10_isOlder 1 = .ok (.iload_n 1, 1) := by decide +kernel
theorem dX10_isOlder_2 : decode cX10_isOlder 2 = .ok (.invokestatic 93, 3) := by decide +kernel
theorem dX10_isOlder_5 : decode cX10_isOlder 5 = .ok (.aload_n 0, 1) := by decide +kernel
theorem dX10_isOlder_6 : decode cX10_isOlder 6 = .ok (.iload_n 2, 1) := by decide +kernel
theorem dX10_isOlder_7 : decode cX10_isOlder 7 = .ok (.invokestatic 93, 3) := by decide +kernel
theorem dX10_isOlder_10 : decode cX10_isOlder 10 = .ok (.if_icmp .ge 7, 3) := by decide +kernel
theorem dX10_isOlder_13 : decode cX10_isOlder 13 = .ok (.iconst 1, 1) := by decide +kernel
theorem dX10_isOlder_14 : decode cX10_isOlder 14 = .ok (.goto 4, 3) := by decide +kernel
theorem dX10_isOlder_17 : decode cX10_isOlder 17 = .ok (.iconst 0, 1) := by decide +kernel
theorem dX10_isOlder_18 : decode cX10_isOlder 18 = .ok (.ireturn, 1) := by decide +kernel
set_option maxRecDepth 20000 in
theorem ggX10_isAngrier_X10_angerIn : GoodIn wsX10_isAngrier wsX10_angerIn := goodIn_r _ [4, 5, 6, 3, 7] (by decide +kernel) (by decide +kernel)
set_option maxRecDepth 20000 in
theorem gX10_isAngrier_X10_angerIn : GoodIn wsX10_isAngrier (va_wsS RX10 96 yX10_angerIn wsX10_angerIn) := goodIn_app (goodIn_of _ (by decide +kernel)) ggX10_isAngrier_X10_angerIn
theorem dX10_isAngrier_0 : decode cX10_isAngrier 0 = .ok (.aload_n 0, 1) := by decide +kernel
theorem dX10_isAngrier_1 : decode cX10_isAngrier 1 = .ok (.iload_n 1, 1) := by decide +kernel
theorem dX10_isAngrier_2 : decode cX10_isAngrier 2 = .ok (.invokestatic 96, 3) := by decide +kernel
theorem dX10_isAngrier_5 : decode cX10_isAngrier 5 = .ok (.aload_n 0, 1) := by decide +kernel
theorem dX10_isAngrier_6 : decode cX10_isAngrier 6 = .ok (.iload_n 2, 1) := by decide +kernel
theorem dX10_isAngrier_7 : decode cX10_isAngrier 7 = .ok (.invokestatic 96, 3) := by decide +kernel
theorem dX10_isAngrier_10 : decode cX10_isAngrier 10 = .ok (.if_icmp .le 7, 3) := by decide +kernel
theorem dX10_isAngrier_13 : decode cX10_isAngrier 13 = .ok (.iconst 1, 1) := by decide +kernel
theorem dX10_isAngrier_14 : decode cX10_isAngrier 14 = .ok (.goto 4, 3) := by decide +kernel
theorem dX10_isAngrier_17 : decode cX10_isAngrier 17 = .ok (.iconst 0, 1) := by decide +kernel
theorem dX10_isAngrier_18 : decode cX10_isAngrier 18 = .ok (.ireturn, 1) := by decide +kernel
set_option maxRecDepth 20000 in
theorem ggX10_oilIn_X10_clerkAt : GoodIn wsX10_oilIn wsX10_clerkAt := goodIn_r _ [4] (by decide +kernel) (by decide +kernel)
set_option maxRecDepth 20000 in
theorem gX10_oilIn_X10_clerkAt : GoodIn wsX10_oilIn (va_wsS RX10 87 yX10_clerkAt wsX10_clerkAt) := goodIn_app (goodIn_of _ (by decide +kernel)) ggX10_oilIn_X10_clerkAt
theorem dX10_oilIn_0 : decode cX10_oilIn 0 = .ok (.aload_n 0, 1) := by decide +kernel
theorem dX10_oilIn_1 : decode cX10_oilIn 1 = .ok (.iload_n 1, 1) := by decide +kernel
theorem dX10_oilIn_2 : decode cX10_oilIn 2 = .ok (.iconst 1, 1) := by decide +kernel
theorem dX10_oilIn_3 : decode cX10_oilIn 3 = .ok (.invokestatic 87, 3) := by decide +kernel
theorem dX10_oilIn_6 : decode cX10_oilIn 6 = .ok (.iaload, 1) := by decide +kernel
theorem dX10_oilIn_7 : decode cX10_oilIn 7 = .ok (.ireturn, 1) := by decide +kernel
set_option maxRecDepth 20000 in
theorem ggX10_hasOil_X10_oilIn : GoodIn wsX10_hasOil wsX10_oilIn := goodIn_r _ [4, 5, 6, 3, 7] (by decide +kernel) (by decide +kernel)
set_option maxRecDepth 20000 in
theorem gX10_hasOil_X10_oilIn : GoodIn wsX10_hasOil (va_wsS RX10 99 yX10_oilIn wsX10_oilIn) := goodIn_app (goodIn_of _ (by decide +kernel)) ggX10_hasOil_X10_oilIn
theorem dX10_hasOil_0 : decode cX10_hasOil 0 = .ok (.aload_n 0, 1) := by decide +kernel
theorem dX10_hasOil_1 : decode cX10_hasOil 1 = .ok (.iload_n 1, 1) := by decide +kernel
theorem dX10_hasOil_2 : decode cX10_hasOil 2 = .ok (.invokestatic 99, 3) := by decide +kernel
theorem dX10_hasOil_5 : decode cX10_hasOil 5 = .ok (.iload_n 2, 1) := by decide +kernel
theorem dX10_hasOil_6 : decode cX10_hasOil 6 = .ok (.if_icmp .lt 7, 3) := by decide +kernel
theorem dX10_hasOil_9 : decode cX10_hasOil 9 = .ok (.iconst 1, 1) := by decide +kernel
theorem dX10_hasOil_10 : decode cX10_hasOil 10 = .ok (.goto 4, 3) := by decide +kernel
theorem dX10_hasOil_13 : decode cX10_hasOil 13 = .ok (.iconst 0, 1) := by decide +kernel
theorem dX10_hasOil_14 : decode cX10_hasOil 14 = .ok (.ireturn, 1) := by decide +kernel
set_option maxRecDepth 20000 in
theorem ggX10_isDarker_X10_oilIn : GoodIn wsX10_isDarker wsX10_oilIn := goodIn_r _ [4, 5, 6, 3, 7] (by decide +kernel) (by decide +kernel)
set_option maxRecDepth 20000 in
theorem gX10_isDarker_X10_oilIn : GoodIn wsX10_isDarker (va_wsS RX10 99 yX10_oilIn wsX10_oilIn) := goodIn_app (goodIn_of _ (by decide +kernel)) ggX10_isDarker_X10_oilIn
theorem dX10_isDarker_0 : decode cX10_isDarker 0 = .ok (.aload_n 0, 1) := by decide +kernel
theorem dX10_isDarker_1 : decode cX10_isDarker 1 = .ok (.iload_n 1, 1) := by decide +kernel
theorem dX10_isDarker_2 : decode cX10_isDarker 2 = .ok (.invokestatic 99, 3) := by decide +kernel
theorem dX10_isDarker_5 : decode cX10_isDarker 5 = .ok (.aload_n 0, 1) := by decide +kernel
theorem dX10_isDarker_6 : decode cX10_isDarker 6 = .ok (.iload_n 2, 1) := by decide +kernel
theorem dX10_isDarker_7 : decode cX10_isDarker 7 = .ok (.invokestatic 99, 3) := by decide +kernel
theorem dX10_isDarker_10 : decode cX10_isDarker 10 = .ok (.if_icmp .ge 7, 3) := by decide +kernel
theorem dX10_isDarker_13 : decode cX10_isDarker 13 = .ok (.iconst 1, 1) := by decide +kernel
theorem dX10_isDarker_14 : decode cX10_isDarker 14 = .ok (.goto 4, 3) := by decide +kernel
theorem dX10_isDarker_17 : decode cX10_isDarker 17 = .ok (.iconst 0, 1) := by decide +kernel
theorem dX10_isDarker_18 : decode cX10_isDarker 18 = .ok (.ireturn, 1) := by decide +kernel
set_option maxRecDepth 20000 in
theorem ggX10_mostBy_X10_clerkAt : GoodIn wsX10_mostBy wsX10_clerkAt := goodIn_r _ [4] (by decide +kernel) (by decide +kernel)
set_option maxRecDepth 20000 in
theorem gX10_mostBy_X10_clerkAt : GoodIn wsX10_mostBy (va_wsS RX10 87 yX10_clerkAt wsX10_clerkAt) := goodIn_app (goodIn_of _ (by decide +kernel)) ggX10_mostBy_X10_clerkAt
theorem dX10_mostBy_0 : decode cX10_mostBy 0 = .ok (.iconst 1, 1) := by decide +kernel
theorem dX10_mostBy_1 : decode cX10_mostBy 1 = .ok (.aload_n 0, 1) := by decide +kernel
theorem dX10_mostBy_2 : decode cX10_mostBy 2 = .ok (.iload_n 1, 1) := by decide +kernel
theorem dX10_mostBy_3 : decode cX10_mostBy 3 = .ok (.iconst 0, 1) := by decide +kernel
theorem dX10_mostBy_4 : decode cX10_mostBy 4 = .ok (.invokestatic 87, 3) := by decide +kernel
theorem dX10_mostBy_7 : decode cX10_mostBy 7 = .ok (.iaload, 1) := by decide +kernel
theorem dX10_mostBy_8 : decode cX10_mostBy 8 = .ok (.iconst 3, 1) := by decide +kernel
theorem dX10_mostBy_9 : decode cX10_mostBy 9 = .ok (.idiv, 1) := by decide +kernel
theorem dX10_mostBy_10 : decode cX10_mostBy 10 = .ok (.iadd, 1) := by decide +kernel
theorem dX10_mostBy_11 : decode cX10_mostBy 11 = .ok (.ireturn, 1) := by decide +kernel
set_option maxRecDepth 20000 in
theorem ggX10_waits_X10_stateIn : GoodIn wsX10_waits wsX10_stateIn := goodIn_r _ [4, 5, 6, 3, 7] (by decide +kernel) (by decide +kernel)
set_option maxRecDepth 20000 in
theorem gX10_waits_X10_stateIn : GoodIn wsX10_waits (va_wsS RX10 102 yX10_stateIn wsX10_stateIn) := goodIn_app (goodIn_of _ (by decide +kernel)) ggX10_waits_X10_stateIn
theorem dX10_waits_0 : decode cX10_waits 0 = .ok (.aload_n 0, 1) := by decide +kernel
theorem dX10_waits_1 : decode cX10_waits 1 = .ok (.iload_n 1, 1) := by decide +kernel
theorem dX10_waits_2 : decode cX10_waits 2 = .ok (.invokestatic 102, 3) := by decide +kernel
theorem dX10_waits_5 : decode cX10_waits 5 = .ok (.ifCond .ne 7, 3) := by decide +kernel
theorem dX10_waits_8 : decode cX10_waits 8 = .ok (.iconst 1, 1) := by decide +kernel
theorem dX10_waits_9 : decode cX10_waits 9 = .ok (.goto 4, 3) := by decide +kernel
theorem dX10_waits_12 : decode cX10_waits 12 = .ok (.iconst 0, 1) := by decide +kernel
theorem dX10_waits_13 : decode cX10_waits 13 = .ok (.ireturn, 1) := by decide +kernel
set_option maxRecDepth 20000 in
theorem ggX10_ageOf_X10_filedBy : GoodIn wsX10_ageOf wsX10_filedBy := goodIn_r _ [4, 5, 6, 3, 7] (by decide +kernel) (by decide +kernel)
set_option maxRecDepth 20000 in
theorem gX10_ageOf_X10_filedBy : GoodIn wsX10_ageOf (va_wsS RX10 93 yX10_filedBy wsX10_filedBy) := goodIn_app (goodIn_of _ (by decide +kernel)) ggX10_ageOf_X10_filedBy
theorem dX10_ageOf_0 : decode cX10_ageOf 0 = .ok (.aload_n 0, 1) := by decide +kernel
theorem dX10_ageOf_1 : decode cX10_ageOf 1 = .ok (.iconst 0, 1) := by decide +kernel
theorem dX10_ageOf_2 : decode cX10_ageOf 2 = .ok (.iaload, 1) := by decide +kernel
theorem dX10_ageOf_3 : decode cX10_ageOf 3 = .ok (.aload_n 0, 1) := by decide +kernel
theorem dX10_ageOf_4 : decode cX10_ageOf 4 = .ok (.iload_n 1, 1) := by decide +kernel
theorem dX10_ageOf_5 : decode cX10_ageOf 5 = .ok (.invokestatic 93, 3) := by decide +kernel
theorem dX10_ageOf_8 : decode cX10_ageOf 8 = .ok (.isub, 1) := by decide +kernel
theorem dX10_ageOf_9 : decode cX10_ageOf 9 = .ok (.ireturn, 1) := by decide +kernel
set_option maxRecDepth 20000 in
theorem ggX10_isOld_X10_ageOf : GoodIn wsX10_isOld wsX10_ageOf := goodIn_r _ [4, 5, 6, 3, 7, 8, 9, 10] (by decide +kernel) (by decide +kernel)
set_option maxRecDepth 20000 in
theorem gX10_isOld_X10_ageOf : GoodIn wsX10_isOld (va_wsS RX10 105 yX10_ageOf wsX10_ageOf) := goodIn_app (goodIn_of _ (by decide +kernel)) ggX10_isOld_X10_ageOf
theorem dX10_isOld_0 : decode cX10_isOld 0 = .ok (.aload_n 0, 1) := by decide +kernel
theorem dX10_isOld_1 : decode cX10_isOld 1 = .ok (.iload_n 1, 1) := by decide +kernel
theorem dX10_isOld_2 : decode cX10_isOld 2 = .ok (.invokestatic 105, 3) := by decide +kernel
theorem dX10_isOld_5 : decode cX10_isOld 5 = .ok (.bipush 14, 2) := by decide +kernel
theorem dX10_isOld_7 : decode cX10_isOld 7 = .ok (.if_icmp .lt 7, 3) := by decide +kernel
theorem dX10_isOld_10 : decode cX10_isOld 10 = .ok (.iconst 1, 1) := by decide +kernel
theorem dX10_isOld_11 : decode cX10_isOld 11 = .ok (.goto 4, 3) := by decide +kernel
theorem dX10_isOld_14 : decode cX10_isOld 14 = .ok (.iconst 0, 1) := by decide +kernel
theorem dX10_isOld_15 : decode cX10_isOld 15 = .ok (.ireturn, 1) := by decide +kernel
set_option maxRecDepth 20000 in
theorem ggX10_waitOf_X10_complaintAt : GoodIn wsX10_waitOf wsX10_complaintAt := goodIn_r _ [4] (by decide +kernel) (by decide +kernel)
set_option maxRecDepth 20000 in
theorem gX10_waitOf_X10_complaintAt : GoodIn wsX10_waitOf (va_wsS RX10 90 yX10_complaintAt wsX10_complaintAt) := goodIn_app (goodIn_of _ (by decide +kernel)) ggX10_waitOf_X10_complaintAt
set_option maxRecDepth 20000 in
theorem ggX10_waitOf_X10_filedBy : GoodIn wsX10_waitOf wsX10_filedBy := goodIn_r _ [7, 1, 2, 3, 4] (by decide +kernel) (by decide +kernel)
set_option maxRecDepth 20000 in
theorem gX10_waitOf_X10_filedBy : GoodIn wsX10_waitOf (va_wsS RX10 93 yX10_filedBy wsX10_filedBy) := goodIn_app (goodIn_of _ (by decide +kernel)) ggX10_waitOf_X10_filedBy
theorem dX10_waitOf_0 : decode cX10_waitOf 0 = .ok (.aload_n 0, 1) := by decide +kernel
theorem dX10_waitOf_1 : decode cX10_waitOf 1 = .ok (.iload_n 1, 1) := by decide +kernel
theorem dX10_waitOf_2 : decode cX10_waitOf 2 = .ok (.iconst 5, 1) := by decide +kernel
theorem dX10_waitOf_3 : decode cX10_waitOf 3 = .ok (.invokestatic 90, 3) := by decide +kernel
theorem dX10_waitOf_6 : decode cX10_waitOf 6 = .ok (.iaload, 1) := by decide +kernel
theorem dX10_waitOf_7 : decode cX10_waitOf 7 = .ok (.aload_n 0, 1) := by decide +kernel
theorem dX10_waitOf_8 : decode cX10_waitOf 8 = .ok (.iload_n 1, 1) := by decide +kernel
theorem dX10_waitOf_9 : decode cX10_waitOf 9 = .ok (.invokestatic 93, 3) := by decide +kernel
theorem dX10_waitOf_12 : decode cX10_waitOf 12 = .ok (.isub, 1) := by decide +kernel
theorem dX10_waitOf_13 : decode cX10_waitOf 13 = .ok (.ireturn, 1) := by decide +kernel
set_option maxRecDepth 20000 in
theorem ggX10_waitingBy_X10_waits : GoodIn wsX10_waitingBy wsX10_waits := goodIn_r _ [4, 5, 6, 3, 7, 8, 9, 10] (by decide +kernel) (by decide +kernel)
set_option maxRecDepth 20000 in
theorem gX10_waitingBy_X10_waits : GoodIn wsX10_waitingBy (va_wsS RX10 108 yX10_waits wsX10_waits) := goodIn_app (goodIn_of _ (by decide +kernel)) ggX10_waitingBy_X10_waits
set_option maxRecDepth 20000 in
theorem ggX10_waitingBy_X10_personIn : GoodIn wsX10_waitingBy wsX10_personIn := goodIn_r _ [13, 8, 9, 3, 10] (by decide +kernel) (by decide +kernel)
set_option maxRecDepth 20000 in
theorem gX10_waitingBy_X10_personIn : GoodIn wsX10_waitingBy (va_wsS RX10 112 yX10_personIn wsX10_personIn) := goodIn_app (goodIn_of _ (by decide +kernel)) ggX10_waitingBy_X10_personIn
set_option maxRecDepth 20000 in
theorem ggX10_waitingBy_X10_sortIn : GoodIn wsX10_waitingBy wsX10_sortIn := goodIn_r _ [16, 8, 9, 3, 10] (by decide +kernel) (by decide +kernel)
set_option maxRecDepth 20000 in
theorem gX10_waitingBy_X10_sortIn : GoodIn wsX10_waitingBy (va_wsS RX10 115 yX10_sortIn wsX10_sortIn) := goodIn_app (goodIn_of _ (by decide +kernel)) ggX10_waitingBy_X10_sortIn
theorem dX10_waitingBy_0 : decode cX10_waitingBy 0 = .ok (.iconst 0, 1) := by decide +kernel
theorem dX10_waitingBy_1 : decode cX10_waitingBy 1 = .ok (.istore_n 3, 1) := by decide +kernel
theorem dX10_waitingBy_2 : decode cX10_waitingBy 2 = .ok (.iload_n 3, 1) := by decide +kernel
theorem dX10_waitingBy_3 : decode cX10_waitingBy 3 = .ok (.aload_n 0, 1) := by decide +kernel
theorem dX10_waitingBy_4 : decode cX10_waitingBy 4 = .ok (.bipush 6, 2) := by decide +kernel
theorem dX10_waitingBy_6 : decode cX10_waitingBy 6 = .ok (.iaload, 1) := by decide +kernel
theorem dX10_waitingBy_7 : decode cX10_waitingBy 7 = .ok (.if_icmp .ge 37, 3) := by decide +kernel
theorem dX10_waitingBy_10 : decode cX10_waitingBy 10 = .ok (.aload_n 0, 1) := by decide +kernel
theorem dX10_waitingBy_11 : decode cX10_waitingBy 11 = .ok (.iload_n 3, 1) := by decide +kernel
theorem dX10_waitingBy_12 : decode cX10_waitingBy 12 = .ok (.invokestatic 108, 3) := by decide +kernel
theorem dX10_waitingBy_15 : decode cX10_waitingBy 15 = .ok (.ifCond .eq 23, 3) := by decide +kernel
theorem dX10_waitingBy_18 : decode cX10_waitingBy 18 = .ok (.aload_n 0, 1) := by decide +kernel
theorem dX10_waitingBy_19 : decode cX10_waitingBy 19 = .ok (.iload_n 3, 1) := by decide +kernel
theorem dX10_waitingBy_20 : decode cX10_waitingBy 20 = .ok (.invokestatic 112, 3) := by decide +kernel
theorem dX10_waitingBy_23 : decode cX10_waitingBy 23 = .ok (.iload_n 1, 1) := by decide +kernel
theorem dX10_waitingBy_24 : decode cX10_waitingBy 24 = .ok (.if_icmp .ne 14, 3) := by decide +kernel
theorem dX10_waitingBy_27 : decode cX10_waitingBy 27 = .ok (.aload_n 0, 1) := by decide +kernel
theorem dX10_waitingBy_28 : decode cX10_waitingBy 28 = .ok (.iload_n 3, 1) := by decide +kernel
theorem dX10_waitingBy_29 : decode cX10_waitingBy 29 = .ok (.invokestatic 115, 3) := by decide +kernel
theorem dX10_waitingBy_32 : decode cX10_waitingBy 32 = .ok (.iload_n 2, 1) := by decide +kernel
theorem dX10_waitingBy_33 : decode cX10_waitingBy 33 = .ok (.if_icmp .ne 5, 3) := by decide +kernel
theorem dX10_waitingBy_36 : decode cX10_waitingBy 36 = .ok (.iload_n 3, 1) := by decide +kernel
theorem dX10_waitingBy_37 : decode cX10_waitingBy 37 = .ok (.ireturn, 1) := by decide +kernel
theorem dX10_waitingBy_38 : decode cX10_waitingBy 38 = .ok (.iinc 3 1, 3) := by decide +kernel
theorem dX10_waitingBy_41 : decode cX10_waitingBy 41 = .ok (.goto (-39), 3) := by decide +kernel
theorem dX10_waitingBy_44 : decode cX10_waitingBy 44 = .ok (.iconst (-1), 1) := by decide +kernel
theorem dX10_waitingBy_45 : decode cX10_waitingBy 45 = .ok (.ireturn, 1) := by decide +kernel
set_option maxRecDepth 20000 in
theorem ggX10_countOf_X10_stateIn : GoodIn wsX10_countOf wsX10_stateIn := goodIn_r _ [4, 5, 6, 3, 7] (by decide +kernel) (by decide +kernel)
set_option maxRecDepth 20000 in
theorem gX10_countOf_X10_stateIn : GoodIn wsX10_countOf (va_wsS RX10 102 yX10_stateIn wsX10_stateIn) := goodIn_app (goodIn_of _ (by decide +kernel)) ggX10_countOf_X10_stateIn
theorem dX10_countOf_0 : decode cX10_countOf 0 = .ok (.iconst 0, 1) := by decide +kernel
theorem dX10_countOf_1 : decode cX10_countOf 1 = .ok (.istore_n 2, 1) := by decide +kernel
theorem dX10_countOf_2 : decode cX10_countOf 2 = .ok (.iconst 0, 1) := by decide +kernel
theorem dX10_countOf_3 : decode cX10_countOf 3 = .ok (.istore_n 3, 1) := by decide +kernel
theorem dX10_countOf_4 : decode cX10_countOf 4 = .ok (.iload_n 3, 1) := by decide +kernel
theorem dX10_countOf_5 : decode cX10_countOf 5 = .ok (.aload_n 0, 1) := by decide +kernel
theorem dX10_countOf_6 : decode cX10_countOf 6 = .ok (.bipush 6, 2) := by decide +kernel
theorem dX10_countOf_8 : decode cX10_countOf 8 = .ok (.iaload, 1) := by decide +kernel
theorem dX10_countOf_9 : decode cX10_countOf 9 = .ok (.if_icmp .ge 21, 3) := by decide +kernel
theorem dX10_countOf_12 : decode cX10_countOf 12 = .ok (.aload_n 0, 1) := by decide +kernel
theorem dX10_countOf_13 : decode cX10_countOf 13 = .ok (.iload_n 3, 1) := by decide +kernel
theorem dX10_countOf_14 : decode cX10_countOf 14 = .ok (.invokestatic 102, 3) := by decide +kernel
theorem dX10_countOf_17 : decode cX10_countOf 17 = .ok (.iload_n 1, 1) := by decide +kernel
theorem dX10_countOf_18 : decode cX10_countOf 18 = .ok (.if_icmp .ne 6, 3) := by decide +kernel
theorem dX10_countOf_21 : decode cX10_countOf 21 = .ok (.iinc 2 1, 3) := by decide +kernel
theorem dX10_countOf_24 : decode cX10_countOf 24 = .ok (.iinc 3 1, 3) := by decide +kernel
theorem dX10_countOf_27 : decode cX10_countOf 27 = .ok (.goto (-23), 3) := by decide +kernel
theorem dX10_countOf_30 : decode cX10_countOf 30 = .ok (.iload_n 2, 1) := by decide +kernel
theorem dX10_countOf_31 : decode cX10_countOf 31 = .ok (.ireturn, 1) := by decide +kernel
set_option maxRecDepth 20000 in
theorem ggX10_angriestJust_X10_waits : GoodIn wsX10_angriestJust wsX10_waits := goodIn_r _ [4, 5, 6, 3, 7, 8, 9, 10] (by decide +kernel) (by decide +kernel)
set_option maxRecDepth 20000 in
theorem gX10_angriestJust_X10_waits : GoodIn wsX10_angriestJust (va_wsS RX10 108 yX10_waits wsX10_waits) := goodIn_app (goodIn_of _ (by decide +kernel)) ggX10_angriestJust_X10_waits
set_option maxRecDepth 20000 in
theorem ggX10_angriestJust_X10_sortIn : GoodIn wsX10_angriestJust wsX10_sortIn := goodIn_r _ [13, 8, 9, 3, 10] (by decide +kernel) (by decide +kernel)
set_option maxRecDepth 20000 in
theorem gX10_angriestJust_X10_sortIn : GoodIn wsX10_angriestJust (va_wsS RX10 115 yX10_sortIn wsX10_sortIn) := goodIn_app (goodIn_of _ (by decide +kernel)) ggX10_angriestJust_X10_sortIn
set_option maxRecDepth 20000 in
theorem ggX10_angriestJust_X10_isJust : GoodIn wsX10_angriestJust wsX10_isJust := goodIn_r _ [16, 17, 18, 3, 19, 20, 21, 22, 23, 24, 25, 26, 27, 28, 29, 30, 31, 32, 33, 34] (by decide +kernel) (by decide +kernel)
set_option maxRecDepth 20000 in
theorem gX10_angriestJust_X10_isJust : GoodIn wsX10_angriestJust (va_wsS RX10 83 yX10_isJust wsX10_isJust) := goodIn_app (goodIn_of _ (by decide +kernel)) ggX10_angriestJust_X10_isJust
set_option maxRecDepth 20000 in
theorem ggX10_angriestJust_X10_isAngrier : GoodIn wsX10_angriestJust wsX10_isAngrier := goodIn_r _ [37, 38, 39, 3, 40, 8, 9, 10] (by decide +kernel) (by decide +kernel)
set_option maxRecDepth 20000 in
theorem gX10_angriestJust_X10_isAngrier : GoodIn wsX10_angriestJust (va_wsS RX10 118 yX10_isAngrier wsX10_isAngrier) := goodIn_app (goodIn_of _ (by decide +kernel)) ggX10_angriestJust_X10_isAngrier
theorem dX10_angriestJust_0 : decode cX10_angriestJust 0 = .ok (.iconst (-1), 1) := by decide +kernel
theorem dX10_angriestJust_1 : decode cX10_angriestJust 1 = .ok (.istore_n 1, 1) := by decide +kernel
theorem dX10_angriestJust_2 : decode cX10_angriestJust 2 = .ok (.iconst 0, 1) := by decide +kernel
theorem dX10_angriestJust_3 : decode cX10_angriestJust 3 = .ok (.istore_n 2, 1) := by decide +kernel
theorem dX10_angriestJust_4 : decode cX10_angriestJust 4 = .ok (.iload_n 2, 1) := by decide +kernel
theorem dX10_angriestJust_5 : decode cX10_angriestJust 5 = .ok (.aload_n 0, 1) := by decide +kernel
theorem dX10_angriestJust_6 : decode cX10_angriestJust 6 = .ok (.bipush 6, 2) := by decide +kernel
theorem dX10_angriestJust_8 : decode cX10_angriestJust 8 = .ok (.iaload, 1) := by decide +kernel
theorem dX10_angriestJust_9 : decode cX10_angriestJust 9 = .ok (.if_icmp .ge 50, 3) := by decide +kernel
theorem dX10_angriestJust_12 : decode cX10_angriestJust 12 = .ok (.aload_n 0, 1) := by decide +kernel
theorem dX10_angriestJust_13 : decode cX10_angriestJust 13 = .ok (.iload_n 2, 1) := by decide +kernel
theorem dX10_angriestJust_14 : decode cX10_angriestJust 14 = .ok (.invokestatic 108, 3) := by decide +kernel
theorem dX10_angriestJust_17 : decode cX10_angriestJust 17 = .ok (.ifCond .eq 36, 3) := by decide +kernel
theorem dX10_angriestJust_20 : decode cX10_angriestJust 20 = .ok (.aload_n 0, 1) := by decide +kernel
theorem dX10_angriestJust_21 : decode cX10_angriestJust 21 = .ok (.aload_n 0, 1) := by decide +kernel
theorem dX10_angriestJust_22 : decode cX10_angriestJust 22 = .ok (.iload_n 2, 1) := by decide +kernel
theorem dX10_angriestJust_23 : decode cX10_angriestJust 23 = .ok (.invokestatic 115, 3) := by decide +kernel
theorem dX10_angriestJust_26 : decode cX10_angriestJust 26 = .ok (.aload_n 0, 1) := by decide +kernel
theorem dX10_angriestJust_27 : decode cX10_angriestJust 27 = .ok (.iconst 0, 1) := by decide +kernel
theorem dX10_angriestJust_28 : decode cX10_angriestJust 28 = .ok (.iaload, 1) := by decide +kernel
theorem dX10_angriestJust_29 : decode cX10_angriestJust 29 = .ok (.invokestatic 83, 3) := by decide +kernel
theorem dX10_angriestJust_32 : decode cX10_angriestJust 32 = .ok (.ifCond .ne 6, 3) := by decide +kernel
theorem dX10_angriestJust_35 : decode cX10_angriestJust 35 = .ok (.goto 18, 3) := by decide +kernel
theorem dX10_angriestJust_38 : decode cX10_angriestJust 38 = .ok (.iload_n 1, 1) := by decide +kernel
theorem dX10_angriestJust_39 : decode cX10_angriestJust 39 = .ok (.ifCond .lt 12, 3) := by decide +kernel
theorem dX10_angriestJust_42 : decode cX10_angriestJust 42 = .ok (.aload_n 0, 1) := by decide +kernel
theorem dX10_angriestJust_43 : decode cX10_angriestJust 43 = .ok (.iload_n 2, 1) := by decide +kernel
theorem dX10_angriestJust_44 : decode cX10_angriestJust 44 = .ok (.iload_n 1, 1) := by decide +kernel
theorem dX10_angriestJust_45 : decode cX10_angriestJust 45 = .ok (.invokestatic 118, 3) := by decide +kernel
theorem dX10_angriestJust_48 : decode cX10_angriestJust 48 = .ok (.ifCond .eq 5, 3) := by decide +kernel
theorem dX10_angriestJust_51 : decode cX10_angriestJust 51 = .ok (.iload_n 2, 1) := by decide +kernel
theorem dX10_angriestJust_52 : decode cX10_angriestJust 52 = .ok (.istore_n 1, 1) := by decide +kernel
theorem dX10_angriestJust_53 : decode cX10_angriestJust 53 = .ok (.iinc 2 1, 3) := by decide +kernel
theorem dX10_angriestJust_56 : decode cX10_angriestJust 56 = .ok (.goto (-52), 3) := by decide +kernel
theorem dX10_angriestJust_59 : decode cX10_angriestJust 59 = .ok (.iload_n 1, 1) := by decide +kernel
theorem dX10_angriestJust_60 : decode cX10_angriestJust 60 = .ok (.ireturn, 1) := by decide +kernel
set_option maxRecDepth 20000 in
theorem ggX10_oldestOf_X10_waits : GoodIn wsX10_oldestOf wsX10_waits := goodIn_r _ [4, 5, 6, 3, 7, 8, 9, 10] (by decide +kernel) (by decide +kernel)
set_option maxRecDepth 20000 in
theorem gX10_oldestOf_X10_waits : GoodIn wsX10_oldestOf (va_wsS RX10 108 yX10_waits wsX10_waits) := goodIn_app (goodIn_of _ (by decide +kernel)) ggX10_oldestOf_X10_waits
set_option maxRecDepth 20000 in
theorem ggX10_oldestOf_X10_isOlder : GoodIn wsX10_oldestOf wsX10_isOlder := goodIn_r _ [13, 14, 15, 3, 16, 8, 9, 10] (by decide +kernel) (by decide +kernel)
set_option maxRecDepth 20000 in
theorem gX10_oldestOf_X10_isOlder : GoodIn wsX10_oldestOf (va_wsS RX10 121 yX10_isOlder wsX10_isOlder) := goodIn_app (goodIn_of _ (by decide +kernel)) ggX10_oldestOf_X10_isOlder
theorem dX10_oldestOf_0 : decode cX10_oldestOf 0 = .ok (.iconst (-1), 1) := by decide +kernel
theorem dX10_oldestOf_1 : decode cX10_oldestOf 1 = .ok (.istore_n 1, 1) := by decide +kernel
theorem dX10_oldestOf_2 : decode cX10_oldestOf 2 = .ok (.iconst 0, 1) := by decide +kernel
theorem dX10_oldestOf_3 : decode cX10_oldestOf 3 = .ok (.istore_n 2, 1) := by decide +kernel
theorem dX10_oldestOf_4 : decode cX10_oldestOf 4 = .ok (.iload_n 2, 1) := by decide +kernel
theorem dX10_oldestOf_5 : decode cX10_oldestOf 5 = .ok (.aload_n 0, 1) := by decide +kernel
theorem dX10_oldestOf_6 : decode cX10_oldestOf 6 = .ok (.bipush 6, 2) := by decide +kernel
theorem dX10_oldestOf_8 : decode cX10_oldestOf 8 = .ok (.iaload, 1) := by decide +kernel
theorem dX10_oldestOf_9 : decode cX10_oldestOf 9 = .ok (.if_icmp .ge 35, 3) := by decide +kernel
theorem dX10_oldestOf_12 : decode cX10_oldestOf 12 = .ok (.aload_n 0, 1) := by decide +kernel
theorem dX10_oldestOf_13 : decode cX10_oldestOf 13 = .ok (.iload_n 2, 1) := by decide +kernel
theorem dX10_oldestOf_14 : decode cX10_oldestOf 14 = .ok (.invokestatic 108, 3) := by decide +kernel
theorem dX10_oldestOf_17 : decode cX10_oldestOf 17 = .ok (.ifCond .ne 6, 3) := by decide +kernel
theorem dX10_oldestOf_20 : decode cX10_oldestOf 20 = .ok (.goto 18, 3) := by decide +kernel
theorem dX10_oldestOf_23 : decode cX10_oldestOf 23 = .ok (.iload_n 1, 1) := by decide +kernel
theorem dX10_oldestOf_24 : decode cX10_oldestOf 24 = .ok (.ifCond .lt 12, 3) := by decide +kernel
theorem dX10_oldestOf_27 : decode cX10_oldestOf 27 = .ok (.aload_n 0, 1) := by decide +kernel
theorem dX10_oldestOf_28 : decode cX10_oldestOf 28 = .ok (.iload_n 2, 1) := by decide +kernel
theorem dX10_oldestOf_29 : decode cX10_oldestOf 29 = .ok (.iload_n 1, 1) := by decide +kernel
theorem dX10_oldestOf_30 : decode cX10_oldestOf 30 = .ok (.invokestatic 121, 3) := by decide +kernel
theorem dX10_oldestOf_33 : decode cX10_oldestOf 33 = .ok (.ifCond .eq 5, 3) := by decide +kernel
theorem dX10_oldestOf_36 : decode cX10_oldestOf 36 = .ok (.iload_n 2, 1) := by decide +kernel
theorem dX10_oldestOf_37 : decode cX10_oldestOf 37 = .ok (.istore_n 1, 1) := by decide +kernel
theorem dX10_oldestOf_38 : decode cX10_oldestOf 38 = .ok (.iinc 2 1, 3) := by decide +kernel
theorem dX10_oldestOf_41 : decode cX10_oldestOf 41 = .ok (.goto (-37), 3) := by decide +kernel
theorem dX10_oldestOf_44 : decode cX10_oldestOf 44 = .ok (.iload_n 1, 1) := by decide +kernel
theorem dX10_oldestOf_45 : decode cX10_oldestOf 45 = .ok (.ireturn, 1) := by decide +kernel
set_option maxRecDepth 20000 in
theorem ggX10_closes_X10_complaintAt : GoodIn wsX10_closes wsX10_complaintAt := goodIn_r _ [4] (by decide +kernel) (by decide +kernel)
set_option maxRecDepth 20000 in
theorem gX10_closes_X10_complaintAt : GoodIn wsX10_closes (va_wsS RX10 90 yX10_complaintAt wsX10_complaintAt) := goodIn_app (goodIn_of _ (by decide +kernel)) ggX10_closes_X10_complaintAt
theorem dX10_closes_0 : decode cX10_closes 0 = .ok (.aload_n 0, 1) := by decide +kernel
theorem dX10_closes_1 : decode cX10_closes 1 = .ok (.iload_n 1, 1) := by decide +kernel
theorem dX10_closes_2 : decode cX10_closes 2 = .ok (.iconst 4, 1) := by decide +kernel
theorem dX10_closes_3 : decode cX10_closes 3 = .ok (.invokestatic 90, 3) := by decide +kernel
theorem dX10_closes_6 : decode cX10_closes 6 = .ok (.iload_n 2, 1) := by decide +kernel
theorem dX10_closes_7 : decode cX10_closes 7 = .ok (.iastore, 1) := by decide +kernel
theorem dX10_closes_8 : decode cX10_closes 8 = .ok (.aload_n 0, 1) := by decide +kernel
theorem dX10_closes_9 : decode cX10_closes 9 = .ok (.iload_n 1, 1) := by decide +kernel
theorem dX10_closes_10 : decode cX10_closes 10 = .ok (.iconst 5, 1) := by decide +kernel
theorem dX10_closes_11 : decode cX10_closes 11 = .ok (.invokestatic 90, 3) := by decide +kernel
theorem dX10_closes_14 : decode cX10_closes 14 = .ok (.aload_n 0, 1) := by decide +kernel
theorem dX10_closes_15 : decode cX10_closes 15 = .ok (.iconst 0, 1) := by decide +kernel
theorem dX10_closes_16 : decode cX10_closes 16 = .ok (.iaload, 1) := by decide +kernel
theorem dX10_closes_17 : decode cX10_closes 17 = .ok (.iastore, 1) := by decide +kernel
theorem dX10_closes_18 : decode cX10_closes 18 = .ok (.aload_n 0, 1) := by decide +kernel
theorem dX10_closes_19 : decode cX10_closes 19 = .ok (.iload_n 1, 1) := by decide +kernel
theorem dX10_closes_20 : decode cX10_closes 20 = .ok (.bipush 6, 2) := by decide +kernel
theorem dX10_closes_22 : decode cX10_closes 22 = .ok (.invokestatic 90, 3) := by decide +kernel
theorem dX10_closes_25 : decode cX10_closes 25 = .ok (.iload_n 3, 1) := by decide +kernel
theorem dX10_closes_26 : decode cX10_closes 26 = .ok (.iastore, 1) := by decide +kernel
theorem dX10_closes_27 : decode cX10_closes 27 = .ok (.return_, 1) := by decide +kernel
set_option maxRecDepth 20000 in
theorem ggX10_handles_X10_angriestJust : GoodIn wsX10_handles wsX10_angriestJust := goodIn_r _ [4, 5, 6, 3, 7, 8, 9, 10, 11, 12, 13, 14, 15, 16, 17, 18, 19, 20, 21, 22, 23, 24, 25, 26, 27, 28, 29, 30, 31, 32, 33, 34, 35, 36, 37, 38, 39, 40, 41, 42, 43] (by decide +kernel) (by decide +kernel)
set_option maxRecDepth 20000 in
theorem gX10_handles_X10_angriestJust : GoodIn wsX10_handles (va_wsS RX10 124 yX10_angriestJust wsX10_angriestJust) := goodIn_app (goodIn_of _ (by decide +kernel)) ggX10_handles_X10_angriestJust
set_option maxRecDepth 20000 in
theorem ggX10_handles_X10_closes : GoodIn wsX10_handles wsX10_closes := goodIn_r _ [46, 11, 12, 3, 13] (by decide +kernel) (by decide +kernel)
set_option maxRecDepth 20000 in
theorem gX10_handles_X10_closes : GoodIn wsX10_handles (va_wsS RX10 128 yX10_closes wsX10_closes) := goodIn_app (goodIn_of _ (by decide +kernel)) ggX10_handles_X10_closes
set_option maxRecDepth 20000 in
theorem ggX10_handles_X10_clerkAt : GoodIn wsX10_handles wsX10_clerkAt := goodIn_r _ [49] (by decide +kernel) (by decide +kernel)
set_option maxRecDepth 20000 in
theorem gX10_handles_X10_clerkAt : GoodIn wsX10_handles (va_wsS RX10 87 yX10_clerkAt wsX10_clerkAt) := goodIn_app (goodIn_of _ (by decide +kernel)) ggX10_handles_X10_clerkAt
set_option maxRecDepth 20000 in
theorem ggX10_handles_X10_angerIn : GoodIn wsX10_handles wsX10_angerIn := goodIn_r _ [43, 11, 12, 3, 13] (by decide +kernel) (by decide +kernel)
set_option maxRecDepth 20000 in
theorem gX10_handles_X10_angerIn : GoodIn wsX10_handles (va_wsS RX10 96 yX10_angerIn wsX10_angerIn) := goodIn_app (goodIn_of _ (by decide +kernel)) ggX10_handles_X10_angerIn
set_option maxRecDepth 20000 in
theorem ggX10_handles_X10_oldestOf : GoodIn wsX10_handles wsX10_oldestOf := goodIn_r _ [52, 5, 6, 3, 7, 8, 9, 10, 11, 12, 13, 53, 54, 55, 56, 57, 58] (by decide +kernel) (by decide +kernel)
set_option maxRecDepth 20000 in
theorem gX10_handles_X10_oldestOf : GoodIn wsX10_handles (va_wsS RX10 132 yX10_oldestOf wsX10_oldestOf) := goodIn_app (goodIn_of _ (by decide +kernel)) ggX10_handles_X10_oldestOf
set_option maxRecDepth 20000 in
theorem ggX10_handles_X10_isOld : GoodIn wsX10_handles wsX10_isOld := goodIn_r _ [61, 62, 63, 3, 64, 56, 57, 58, 11, 12, 13] (by decide +kernel) (by decide +kernel)
set_option maxRecDepth 20000 in
theorem gX10_handles_X10_isOld : GoodIn wsX10_handles (va_wsS RX10 135 yX10_isOld wsX10_isOld) := goodIn_app (goodIn_of _ (by decide +kernel)) ggX10_handles_X10_isOld
theorem dX10_handles_0 : decode cX10_handles 0 = .ok (.aload_n 0, 1) := by decide +kernel
theorem dX10_handles_1 : decode cX10_handles 1 = .ok (.invokestatic 124, 3) := by decide +kernel
theorem dX10_handles_4 : decode cX10_handles 4 = .ok (.istore_n 2, 1) := by decide +kernel
theorem dX10_handles_5 : decode cX10_handles 5 = .ok (.iload_n 2, 1) := by decide +kernel
theorem dX10_handles_6 : decode cX10_handles 6 = .ok (.ifCond .lt 35, 3) := by decide +kernel
theorem dX10_handles_9 : decode cX10_handles 9 = .ok (.aload_n 0, 1) := by decide +kernel
theorem dX10_handles_10 : decode cX10_handles 10 = .ok (.iload_n 2, 1) := by decide +kernel
theorem dX10_handles_11 : decode cX10_handles 11 = .ok (.iconst 1, 1) := by decide +kernel
theorem dX10_handles_12 : decode cX10_handles 12 = .ok (.iload_n 1, 1) := by decide +kernel
theorem dX10_handles_13 : decode cX10_handles 13 = .ok (.invokestatic 128, 3) := by decide +kernel
theorem dX10_handles_16 : decode cX10_handles 16 = .ok (.aload_n 0, 1) := by decide +kernel
theorem dX10_handles_17 : decode cX10_handles 17 = .ok (.iload_n 1, 1) := by decide +kernel
theorem dX10_handles_18 : decode cX10_handles 18 = .ok (.iconst 2, 1) := by decide +kernel
theorem dX10_handles_19 : decode cX10_handles 19 = .ok (.invokestatic 87, 3) := by decide +kernel
theorem dX10_handles_22 : decode cX10_handles 22 = .ok (.dup2, 1) := by decide +kernel
theorem dX10_handles_23 : decode cX10_handles 23 = .ok (.iaload, 1) := by decide +kernel
theorem dX10_handles_24 : decode cX10_handles 24 = .ok (.iconst 1, 1) := by decide +kernel
theorem dX10_handles_25 : decode cX10_handles 25 = .ok (.iadd, 1) := by decide +kernel
theorem dX10_handles_26 : decode cX10_handles 26 = .ok (.iastore, 1) := by decide +kernel
theorem dX10_handles_27 : decode cX10_handles 27 = .ok (.aload_n 0, 1) := by decide +kernel
theorem dX10_handles_28 : decode cX10_handles 28 = .ok (.bipush 8, 2) := by decide +kernel
theorem dX10_handles_30 : decode cX10_handles 30 = .ok (.dup2, 1) := by decide +kernel
theorem dX10_handles_31 : decode cX10_handles 31 = .ok (.iaload, 1) := by decide +kernel
theorem dX10_handles_32 : decode cX10_handles 32 = .ok (.aload_n 0, 1) := by decide +kernel
theorem dX10_handles_33 : decode cX10_handles 33 = .ok (.iload_n 2, 1) := by decide +kernel
theorem dX10_handles_34 : decode cX10_handles 34 = .ok (.invokestatic 96, 3) := by decide +kernel
theorem dX10_handles_37 : decode cX10_handles 37 = .ok (.iadd, 1) := by decide +kernel
theorem dX10_handles_38 : decode cX10_handles 38 = .ok (.iastore, 1) := by decide +kernel
theorem dX10_handles_39 : decode cX10_handles 39 = .ok (.iconst 1, 1) := by decide +kernel
theorem dX10_handles_40 : decode cX10_handles 40 = .ok (.ireturn, 1) := by decide +kernel
theorem dX10_handles_41 : decode cX10_handles 41 = .ok (.aload_n 0, 1) := by decide +kernel
theorem dX10_handles_42 : decode cX10_handles 42 = .ok (.invokestatic 132, 3) := by decide +kernel
theorem dX10_handles_45 : decode cX10_handles 45 = .ok (.istore_n 2, 1) := by decide +kernel
theorem dX10_handles_46 : decode cX10_handles 46 = .ok (.iload_n 2, 1) := by decide +kernel
theorem dX10_handles_47 : decode cX10_handles 47 = .ok (.ifCond .ge 5, 3) := by decide +kernel
theorem dX10_handles_50 : decode cX10_handles 50 = .ok (.iconst 0, 1) := by decide +kernel
theorem dX10_handles_51 : decode cX10_handles 51 = .ok (.ireturn, 1) := by decide +kernel
theorem dX10_handles_52 : decode cX10_handles 52 = .ok (.aload_n 0, 1) := by decide +kernel
theorem dX10_handles_53 : decode cX10_handles 53 = .ok (.iload_n 2, 1) := by decide +kernel
theorem dX10_handles_54 : decode cX10_handles 54 = .ok (.invokestatic 135, 3) := by decide +kernel
theorem dX10_handles_57 : decode cX10_handles 57 = .ok (.ifCond .ne 5, 3) := by decide +kernel
theorem dX10_handles_60 : decode cX10_handles 60 = .ok (.iconst 0, 1) := by decide +kernel
theorem dX10_handles_61 : decode cX10_handles 61 = .ok (.ireturn, 1) := by decide +kernel
theorem dX10_handles_62 : decode cX10_handles 62 = .ok (.aload_n 0, 1) := by decide +kernel
theorem dX10_handles_63 : decode cX10_handles 63 = .ok (.iload_n 2, 1) := by decide +kernel
theorem dX10_handles_64 : decode cX10_handles 64 = .ok (.iconst 2, 1) := by decide +kernel
theorem dX10_handles_65 : decode cX10_handles 65 = .ok (.iload_n 1, 1) := by decide +kernel
theorem dX10_handles_66 : decode cX10_handles 66 = .ok (.invokestatic 128, 3) := by decide +kernel
theorem dX10_handles_69 : decode cX10_handles 69 = .ok (.iconst 1, 1) := by decide +kernel
theorem dX10_handles_70 : decode cX10_handles 70 = .ok (.ireturn, 1) := by decide +kernel
set_option maxRecDepth 20000 in
theorem ggX10_works_X10_costOn : GoodIn wsX10_works wsX10_costOn := goodIn_r _ [4, 5, 6, 3, 7, 8, 9, 10, 11, 12, 13, 14, 15, 16] (by decide +kernel) (by decide +kernel)
set_option maxRecDepth 20000 in
theorem gX10_works_X10_costOn : GoodIn wsX10_works (va_wsS RX10 138 yX10_costOn wsX10_costOn) := goodIn_app (goodIn_of _ (by decide +kernel)) ggX10_works_X10_costOn
set_option maxRecDepth 20000 in
theorem ggX10_works_X10_mostBy : GoodIn wsX10_works wsX10_mostBy := goodIn_r _ [19, 20, 21, 3, 22] (by decide +kernel) (by decide +kernel)
set_option maxRecDepth 20000 in
theorem gX10_works_X10_mostBy : GoodIn wsX10_works (va_wsS RX10 141 yX10_mostBy wsX10_mostBy) := goodIn_app (goodIn_of _ (by decide +kernel)) ggX10_works_X10_mostBy
set_option maxRecDepth 20000 in
theorem ggX10_works_X10_hasOil : GoodIn wsX10_works wsX10_hasOil := goodIn_r _ [25, 26, 27, 3, 28, 20, 21, 22] (by decide +kernel) (by decide +kernel)
set_option maxRecDepth 20000 in
theorem gX10_works_X10_hasOil : GoodIn wsX10_works (va_wsS RX10 144 yX10_hasOil wsX10_hasOil) := goodIn_app (goodIn_of _ (by decide +kernel)) ggX10_works_X10_hasOil
set_option maxRecDepth 20000 in
theorem ggX10_works_X10_handles : GoodIn wsX10_works wsX10_handles := goodIn_r _ [31, 32, 33, 3, 34, 35, 36, 37, 38, 39, 40, 41, 42, 43, 44, 45, 46, 47, 48, 49, 5, 6, 7, 8, 9, 10, 11, 12, 13, 14, 15, 16, 50, 51, 52, 53, 54, 55, 56, 57, 58, 59, 60, 61, 62, 63, 64, 20, 21, 22, 65, 66, 67, 68, 69, 70, 71, 72, 73, 74, 75, 76, 77, 78, 79] (by decide +kernel) (by decide +kernel)
set_option maxRecDepth 20000 in
theorem gX10_works_X10_handles : GoodIn wsX10_works (va_wsS RX10 147 yX10_handles wsX10_handles) := goodIn_app (goodIn_of _ (by decide +kernel)) ggX10_works_X10_handles
set_option maxRecDepth 20000 in
theorem ggX10_works_X10_clerkAt : GoodIn wsX10_works wsX10_clerkAt := goodIn_r _ [22] (by decide +kernel) (by decide +kernel)
set_option maxRecDepth 20000 in
theorem gX10_works_X10_clerkAt : GoodIn wsX10_works (va_wsS RX10 87 yX10_clerkAt wsX10_clerkAt) := goodIn_app (goodIn_of _ (by decide +kernel)) ggX10_works_X10_clerkAt
theorem dX10_works_0 : decode cX10_works 0 = .ok (.aload_n 0, 1) := by decide +kernel
theorem dX10_works_1 : decode cX10_works 1 = .ok (.aload_n 0, 1) := by decide +kernel
theorem dX10_works_2 : decode cX10_works 2 = .ok (.iconst 0, 1) := by decide +kernel
theorem dX10_works_3 : decode cX10_works 3 = .ok (.iaload, 1) := by decide +kernel
theorem dX10_works_4 : decode cX10_works 4 = .ok (.invokestatic 138, 3) := by decide +kernel
theorem dX10_works_7 : decode cX10_works 7 = .ok (.istore_n 2, 1) := by decide +kernel
theorem dX10_works_8 : decode cX10_works 8 = .ok (.aload_n 0, 1) := by decide +kernel
theorem dX10_works_9 : decode cX10_works 9 = .ok (.iload_n 1, 1) := by decide +kernel
theorem dX10_works_10 : decode cX10_works 10 = .ok (.invokestatic 141, 3) := by decide +kernel
theorem dX10_works_13 : decode cX10_works 13 = .ok (.istore_n 3, 1) := by decide +kernel
theorem dX10_works_14 : decode cX10_works 14 = .ok (.iload_n 3, 1) := by decide +kernel
theorem dX10_works_15 : decode cX10_works 15 = .ok (.ifCond .le 46, 3) := by decide +kernel
theorem dX10_works_18 : decode cX10_works 18 = .ok (.aload_n 0, 1) := by decide +kernel
theorem dX10_works_19 : decode cX10_works 19 = .ok (.iload_n 1, 1) := by decide +kernel
theorem dX10_works_20 : decode cX10_works 20 = .ok (.iload_n 2, 1) := by decide +kernel
theorem dX10_works_21 : decode cX10_works 21 = .ok (.invokestatic 144, 3) := by decide +kernel
theorem dX10_works_24 : decode cX10_works 24 = .ok (.ifCond .eq 37, 3) := by decide +kernel
theorem dX10_works_27 : decode cX10_works 27 = .ok (.aload_n 0, 1) := by decide +kernel
theorem dX10_works_28 : decode cX10_works 28 = .ok (.iload_n 1, 1) := by decide +kernel
theorem dX10_works_29 : decode cX10_works 29 = .ok (.invokestatic 147, 3) := by decide +kernel
theorem dX10_works_32 : decode cX10_works 32 = .ok (.ifCond .ne 4, 3) := by decide +kernel
theorem dX10_works_35 : decode cX10_works 35 = .ok (.return_, 1) := by decide +kernel
theorem dX10_works_36 : decode cX10_works 36 = .ok (.aload_n 0, 1) := by decide +kernel
theorem dX10_works_37 : decode cX10_works 37 = .ok (.iload_n 1, 1) := by decide +kernel
theorem dX10_works_38 : decode cX10_works 38 = .ok (.iconst 1, 1) := by decide +kernel
theorem dX10_works_39 : decode cX10_works 39 = .ok (.invokestatic 87, 3) := by decide +kernel
theorem dX10_works_42 : decode cX10_works 42 = .ok (.dup2, 1) := by decide +kernel
theorem dX10_works_43 : decode cX10_works 43 = .ok (.iaload, 1) := by decide +kernel
theorem dX10_works_44 : decode cX10_works 44 = .ok (.iload_n 2, 1) := by decide +kernel
theorem dX10_works_45 : decode cX10_works 45 = .ok (.isub, 1) := by decide +kernel
theorem dX10_works_46 : decode cX10_works 46 = .ok (.iastore, 1) := by decide +kernel
theorem dX10_works_47 : decode cX10_works 47 = .ok (.aload_n 0, 1) := by decide +kernel
theorem dX10_works_48 : decode cX10_works 48 = .ok (.bipush 7, 2) := by decide +kernel
theorem dX10_works_50 : decode cX10_works 50 = .ok (.dup2, 1) := by decide +kernel
theorem dX10_works_51 : decode cX10_works 51 = .ok (.iaload, 1) := by decide +kernel
theorem dX10_works_52 : decode cX10_works 52 = .ok (.iload_n 2, 1) := by decide +kernel
theorem dX10_works_53 : decode cX10_works 53 = .ok (.iadd, 1) := by decide +kernel
theorem dX10_works_54 : decode cX10_works 54 = .ok (.iastore, 1) := by decide +kernel
theorem dX10_works_55 : decode cX10_works 55 = .ok (.iinc 3 (-1), 3) := by decide +kernel
theorem dX10_works_58 : decode cX10_works 58 = .ok (.goto (-44), 3) := by decide +kernel
theorem dX10_works_61 : decode cX10_works 61 = .ok (.return_, 1) := by decide +kernel
theorem dX10_isTooOld_0 : decode cX10_isTooOld 0 = .ok (.iload_n 0, 1) := by decide +kernel
theorem dX10_isTooOld_1 : decode cX10_isTooOld 1 = .ok (.bipush 56, 2) := by decide +kernel
theorem dX10_isTooOld_3 : decode cX10_isTooOld 3 = .ok (.if_icmp .ne 7, 3) := by decide +kernel
theorem dX10_isTooOld_6 : decode cX10_isTooOld 6 = .ok (.iconst 1, 1) := by decide +kernel
theorem dX10_isTooOld_7 : decode cX10_isTooOld 7 = .ok (.goto 4, 3) := by decide +kernel
theorem dX10_isTooOld_10 : decode cX10_isTooOld 10 = .ok (.iconst 0, 1) := by decide +kernel
theorem dX10_isTooOld_11 : decode cX10_isTooOld 11 = .ok (.ireturn, 1) := by decide +kernel
set_option maxRecDepth 20000 in
theorem ggX10_grows_X10_ageOf : GoodIn wsX10_grows wsX10_ageOf := goodIn_r _ [4, 5, 6, 3, 7, 8, 9, 10] (by decide +kernel) (by decide +kernel)
set_option maxRecDepth 20000 in
theorem gX10_grows_X10_ageOf : GoodIn wsX10_grows (va_wsS RX10 105 yX10_ageOf wsX10_ageOf) := goodIn_app (goodIn_of _ (by decide +kernel)) ggX10_grows_X10_ageOf
set_option maxRecDepth 20000 in
theorem ggX10_grows_X10_complaintAt : GoodIn wsX10_grows wsX10_complaintAt := goodIn_r _ [10] (by decide +kernel) (by decide +kernel)
set_option maxRecDepth 20000 in
theorem gX10_grows_X10_complaintAt : GoodIn wsX10_grows (va_wsS RX10 90 yX10_complaintAt wsX10_complaintAt) := goodIn_app (goodIn_of _ (by decide +kernel)) ggX10_grows_X10_complaintAt
set_option maxRecDepth 20000 in
theorem ggX10_grows_X10_less : GoodIn wsX10_grows wsX10_less := goodIn_r _ [13] (by decide +kernel) (by decide +kernel)
set_option maxRecDepth 20000 in
theorem gX10_grows_X10_less : GoodIn wsX10_grows (va_wsS RX10 150 yX10_less wsX10_less) := goodIn_app (goodIn_of _ (by decide +kernel)) ggX10_grows_X10_less
set_option maxRecDepth 20000 in
theorem ggX10_grows_X10_isTooOld : GoodIn wsX10_grows wsX10_isTooOld := goodIn_r _ [16] (by decide +kernel) (by decide +kernel)
set_option maxRecDepth 20000 in
theorem gX10_grows_X10_isTooOld : GoodIn wsX10_grows (va_wsS RX10 153 yX10_isTooOld wsX10_isTooOld) := goodIn_app (goodIn_of _ (by decide +kernel)) ggX10_grows_X10_isTooOld
set_option maxRecDepth 20000 in
theorem ggX10_grows_X10_closes : GoodIn wsX10_grows wsX10_closes := goodIn_r _ [19, 8, 9, 3, 10] (by decide +kernel) (by decide +kernel)
set_option maxRecDepth 20000 in
theorem gX10_grows_X10_closes : GoodIn wsX10_grows (va_wsS RX10 128 yX10_closes wsX10_closes) := goodIn_app (goodIn_of _ (by decide +kernel)) ggX10_grows_X10_closes
theorem dX10_grows_0 : decode cX10_grows 0 = .ok (.aload_n 0, 1) := by decide +kernel
theorem dX10_grows_1 : decode cX10_grows 1 = .ok (.iload_n 1, 1) := by decide +kernel
theorem dX10_grows_2 : decode cX10_grows 2 = .ok (.invokestatic 105, 3) := by decide +kernel
theorem dX10_grows_5 : decode cX10_grows 5 = .ok (.istore_n 2, 1) := by decide +kernel
theorem dX10_grows_6 : decode cX10_grows 6 = .ok (.iload_n 1, 1) := by decide +kernel
theorem dX10_grows_7 : decode cX10_grows 7 = .ok (.iconst 2, 1) := by decide +kernel
theorem dX10_grows_8 : decode cX10_grows 8 = .ok (.invokestatic 90, 3) := by decide +kernel
theorem dX10_grows_11 : decode cX10_grows 11 = .ok (.istore_n 3, 1) := by decide +kernel
theorem dX10_grows_12 : decode cX10_grows 12 = .ok (.iload_n 2, 1) := by decide +kernel
theorem dX10_grows_13 : decode cX10_grows 13 = .ok (.bipush 7, 2) := by decide +kernel
theorem dX10_grows_15 : decode cX10_grows 15 = .ok (.irem, 1) := by decide +kernel
theorem dX10_grows_16 : decode cX10_grows 16 = .ok (.ifCond .ne 16, 3) := by decide +kernel
theorem dX10_grows_19 : decode cX10_grows 19 = .ok (.aload_n 0, 1) := by decide +kernel
theorem dX10_grows_20 : decode cX10_grows 20 = .ok (.iload_n 3, 1) := by decide +kernel
theorem dX10_grows_21 : decode cX10_grows 21 = .ok (.bipush 9, 2) := by decide +kernel
theorem dX10_grows_23 : decode cX10_grows 23 = .ok (.aload_n 0, 1) := by decide +kernel
theorem dX10_grows_24 : decode cX10_grows 24 = .ok (.iload_n 3, 1) := by decide +kernel
theorem dX10_grows_25 : decode cX10_grows 25 = .ok (.iaload, 1) := by decide +kernel
theorem dX10_grows_26 : decode cX10_grows 26 = .ok (.iconst 1, 1) := by decide +kernel
theorem dX10_grows_27 : decode cX10_grows 27 = .ok (.iadd, 1) := by decide +kernel
theorem dX10_grows_28 : decode cX10_grows 28 = .ok (.invokestatic 150, 3) := by decide +kernel
theorem dX10_grows_31 : decode cX10_grows 31 = .ok (.iastore, 1) := by decide +kernel
theorem dX10_grows_32 : decode cX10_grows 32 = .ok (.iload_n 2, 1) := by decide +kernel
theorem dX10_grows_33 : decode cX10_grows 33 = .ok (.invokestatic 153, 3) := by decide +kernel
theorem dX10_grows_36 : decode cX10_grows 36 = .ok (.ifCond .eq 10, 3) := by decide +kernel
theorem dX10_grows_39 : decode cX10_grows 39 = .ok (.aload_n 0, 1) := by decide +kernel
theorem dX10_grows_40 : decode cX10_grows 40 = .ok (.iload_n 1, 1) := by decide +kernel
theorem dX10_grows_41 : decode cX10_grows 41 = .ok (.iconst 3, 1) := by decide +kernel
theorem dX10_grows_42 : decode cX10_grows 42 = .ok (.iconst (-1), 1) := by decide +kernel
theorem dX10_grows_43 : decode cX10_grows 43 = .ok (.invokestatic 128, 3) := by decide +kernel
theorem dX10_grows_46 : decode cX10_grows 46 = .ok (.return_, 1) := by decide +kernel
set_option maxRecDepth 20000 in
theorem ggX10_ends_X10_countOf : GoodIn wsX10_ends wsX10_countOf := goodIn_r _ [4, 5, 6, 3, 7, 8, 9, 10] (by decide +kernel) (by decide +kernel)
set_option maxRecDepth 20000 in
theorem gX10_ends_X10_countOf : GoodIn wsX10_ends (va_wsS RX10 157 yX10_countOf wsX10_countOf) := goodIn_app (goodIn_of _ (by decide +kernel)) ggX10_ends_X10_countOf
set_option maxRecDepth 20000 in
theorem ggX10_ends_X10_works : GoodIn wsX10_ends wsX10_works := goodIn_r _ [13, 14, 15, 3, 16, 17, 18, 19, 20, 21, 22, 23, 24, 25, 26, 27, 28, 29, 30, 31, 32, 33, 34, 35, 36, 37, 38, 39, 40, 41, 42, 43, 44, 45, 46, 47, 48, 49, 5, 6, 7, 8, 9, 10, 50, 51, 52, 53, 54, 55, 56, 57, 58, 59, 60, 61, 62, 63, 64, 65, 66, 67, 68, 69, 70, 71, 72, 73, 74, 75, 76, 77, 78, 79, 80, 81, 82, 83, 84, 85] (by decide +kernel) (by decide +kernel)
set_option maxRecDepth 20000 in
theorem gX10_ends_X10_works : GoodIn wsX10_ends (va_wsS RX10 160 yX10_works wsX10_works) := goodIn_app (goodIn_of _ (by decide +kernel)) ggX10_ends_X10_works
set_option maxRecDepth 20000 in
theorem ggX10_ends_X10_waits : GoodIn wsX10_ends wsX10_waits := goodIn_r _ [49, 5, 6, 3, 7, 8, 9, 10] (by decide +kernel) (by decide +kernel)
set_option maxRecDepth 20000 in
theorem gX10_ends_X10_waits : GoodIn wsX10_ends (va_wsS RX10 108 yX10_waits wsX10_waits) := goodIn_app (goodIn_of _ (by decide +kernel)) ggX10_ends_X10_waits
set_option maxRecDepth 20000 in
theorem ggX10_ends_X10_grows : GoodIn wsX10_ends wsX10_grows := goodIn_r _ [88, 83, 84, 3, 85, 77, 78, 79, 8, 9, 10, 89, 90, 91, 92, 93, 94, 68, 69, 70] (by decide +kernel) (by decide +kernel)
set_option maxRecDepth 20000 in
theorem gX10_ends_X10_grows : GoodIn wsX10_ends (va_wsS RX10 163 yX10_grows wsX10_grows) := goodIn_app (goodIn_of _ (by decide +kernel)) ggX10_ends_X10_grows
theorem dX10_ends_0 : decode cX10_ends 0 = .ok (.aload_n 0, 1) := by decide +kernel
theorem dX10_ends_1 : decode cX10_ends 1 = .ok (.iconst 1, 1) := by decide +kernel
theorem dX10_ends_2 : decode cX10_ends 2 = .ok (.invokestatic 157, 3) := by decide +kernel
theorem dX10_ends_5 : decode cX10_ends 5 = .ok (.istore_n 1, 1) := by decide +kernel
theorem dX10_ends_6 : decode cX10_ends 6 = .ok (.iconst 0, 1) := by decide +kernel
theorem dX10_ends_7 : decode cX10_ends 7 = .ok (.istore_n 2, 1) := by decide +kernel
theorem dX10_ends_8 : decode cX10_ends 8 = .ok (.iload_n 2, 1) := by decide +kernel
theorem dX10_ends_9 : decode cX10_ends 9 = .ok (.aload_n 0, 1) := by decide +kernel
theorem dX10_ends_10 : decode cX10_ends 10 = .ok (.iconst 5, 1) := by decide +kernel
theorem dX10_ends_11 : decode cX10_ends 11 = .ok (.iaload, 1) := by decide +kernel
theorem dX10_ends_12 : decode cX10_ends 12 = .ok (.if_icmp .ge 14, 3) := by decide +kernel
theorem dX10_ends_15 : decode cX10_ends 15 = .ok (.aload_n 0, 1) := by decide +kernel
theorem dX10_ends_16 : decode cX10_ends 16 = .ok (.iload_n 2, 1) := by decide +kernel
theorem dX10_ends_17 : decode cX10_ends 17 = .ok (.invokestatic 160, 3) := by decide +kernel
theorem dX10_ends_20 : decode cX10_ends 20 = .ok (.iinc 2 1, 3) := by decide +kernel
theorem dX10_ends_23 : decode cX10_ends 23 = .ok (.goto (-15), 3) := by decide +kernel
theorem dX10_ends_26 : decode cX10_ends 26 = .ok (.aload_n 0, 1) := by decide +kernel
theorem dX10_ends_27 : decode cX10_ends 27 = .ok (.iconst 0, 1) := by decide +kernel
theorem dX10_ends_28 : decode cX10_ends 28 = .ok (.dup2, 1) := by decide +kernel
theorem dX10_ends_29 : decode cX10_ends 29 = .ok (.iaload, 1) := by decide +kernel
theorem dX10_ends_30 : decode cX10_ends 30 = .ok (.iconst 1, 1) := by decide +kernel
theorem dX10_ends_31 : decode cX10_ends 31 = .ok (.iadd, 1) := by decide +kernel
theorem dX10_ends_32 : decode cX10_ends 32 = .ok (.iastore, 1) := by decide +kernel
theorem dX10_ends_33 : decode cX10_ends 33 = .ok (.iconst 0, 1) := by decide +kernel
theorem dX10_ends_34 : decode cX10_ends 34 = .ok (.istore_n 2, 1) := by decide +kernel
theorem dX10_ends_35 : decode cX10_ends 35 = .ok (.iload_n 2, 1) := by decide +kernel
theorem dX10_ends_36 : decode cX10_ends 36 = .ok (.aload_n 0, 1) := by decide +kernel
theorem dX10_ends_37 : decode cX10_ends 37 = .ok (.bipush 6, 2) := by decide +kernel
theorem dX10_ends_39 : decode cX10_ends 39 = .ok (.iaload, 1) := by decide +kernel
theorem dX10_ends_40 : decode cX10_ends 40 = .ok (.if_icmp .ge 22, 3) := by decide +kernel
theorem dX10_ends_43 : decode cX10_ends 43 = .ok (.aload_n 0, 1) := by decide +kernel
theorem dX10_ends_44 : decode cX10_ends 44 = .ok (.iload_n 2, 1) := by decide +kernel
theorem dX10_ends_45 : decode cX10_ends 45 = .ok (.invokestatic 108, 3) := by decide +kernel
theorem dX10_ends_48 : decode cX10_ends 48 = .ok (.ifCond .eq 8, 3) := by decide +kernel
theorem dX10_ends_51 : decode cX10_ends 51 = .ok (.aload_n 0, 1) := by decide +kernel
theorem dX10_ends_52 : decode cX10_ends 52 = .ok (.iload_n 2, 1) := by decide +kernel
theorem dX10_ends_53 : decode cX10_ends 53 = .ok (.invokestatic 163, 3) := by decide +kernel
theorem dX10_ends_56 : decode cX10_ends 56 = .ok (.iinc 2 1, 3) := by decide +kernel
theorem dX10_ends_59 : decode cX10_ends 59 = .ok (.goto (-24), 3) := by decide +kernel
theorem dX10_ends_62 : decode cX10_ends 62 = .ok (.aload_n 0, 1) := by decide +kernel
theorem dX10_ends_63 : decode cX10_ends 63 = .ok (.iconst 1, 1) := by decide +kernel
theorem dX10_ends_64 : decode cX10_ends 64 = .ok (.invokestatic 157, 3) := by decide +kernel
theorem dX10_ends_67 : decode cX10_ends 67 = .ok (.iload_n 1, 1) := by decide +kernel
theorem dX10_ends_68 : decode cX10_ends 68 = .ok (.isub, 1) := by decide +kernel
theorem dX10_ends_69 : decode cX10_ends 69 = .ok (.ireturn, 1) := by decide +kernel
set_option maxRecDepth 20000 in
theorem ggX10_append_X10_fails : GoodIn wsX10_append wsX10_fails := goodIn_r _ [8, 1, 9, 10, 11, 12, 13, 14, 15, 16, 17, 18, 19, 20, 21, 22, 23, 24, 25, 26, 27] (by decide +kernel) (by decide +kernel)
set_option maxRecDepth 20000 in
theorem gX10_append_X10_fails : GoodIn wsX10_append (wsV RX10 169 RX10 yX10_fails wsX10_fails) := goodIn_app (goodIn_of _ (by decide +kernel)) ggX10_append_X10_fails
theorem dX10_append_0 : decode cX10_append 0 = .ok (.aload_n 0, 1) := by decide +kernel
theorem dX10_append_1 : decode cX10_append 1 = .ok (.iconst 0, 1) := by decide +kernel
theorem dX10_append_2 : decode cX10_append 2 = .ok (.putfield 51, 3) := by decide +kernel
theorem dX10_append_5 : decode cX10_append 5 = .ok (.aload_n 0, 1) := by decide +kernel
theorem dX10_append_6 : decode cX10_append 6 = .ok (.getfield 166, 3) := by decide +kernel
theorem dX10_append_9 : decode cX10_append 9 = .ok (.bipush 20, 2) := by decide +kernel
theorem dX10_append_11 : decode cX10_append 11 = .ok (.iadd, 1) := by decide +kernel
theorem dX10_append_12 : decode cX10_append 12 = .ok (.sipush 600, 3) := by decide +kernel
theorem dX10_append_15 : decode cX10_append 15 = .ok (.if_icmp .le 9, 3) := by decide +kernel
theorem dX10_append_18 : decode cX10_append 18 = .ok (.aload_n 0, 1) := by decide +kernel
theorem dX10_append_19 : decode cX10_append 19 = .ok (.iconst 1, 1) := by decide +kernel
theorem dX10_append_20 : decode cX10_append 20 = .ok (.invokevirtual 169, 3) := by decide +kernel
theorem dX10_append_23 : decode cX10_append 23 = .ok (.ireturn, 1) := by decide +kernel
theorem dX10_append_24 : decode cX10_append 24 = .ok (.iconst 0, 1) := by decide +kernel
theorem dX10_append_25 : decode cX10_append 25 = .ok (.istore 6, 2) := by decide +kernel
theorem dX10_append_27 : decode cX10_append 27 = .ok (.iload 6, 2) := by decide +kernel
theorem dX10_append_29 : decode cX10_append 29 = .ok (.bipush 20, 2) := by decide +kernel
theorem dX10_append_31 : decode cX10_append 31 = .ok (.if_icmp .ge 93, 3) := by decide +kernel
theorem dX10_append_34 : decode cX10_append 34 = .ok (.iload 6, 2) := by decide +kernel
theorem dX10_append_36 : decode cX10_append 36 = .ok (.iconst 4, 1) := by decide +kernel
theorem dX10_append_37 : decode cX10_append 37 = .ok (.if_icmp .ge 7, 3) := by decide +kernel
theorem dX10_append_40 : decode cX10_append 40 = .ok (.iload_n 1, 1) := by decide +kernel
theorem dX10_append_41 : decode cX10_append 41 = .ok (.goto 39, 3) := by decide +kernel
theorem dX10_append_44 : decode cX10_append 44 = .ok (.iload 6, 2) := by decide +kernel
theorem dX10_append_46 : decode cX10_append 46 = .ok (.bipush 8, 2) := by decide +kernel
theorem dX10_append_48 : decode cX10_append 48 = .ok (.if_icmp .ge 7, 3) := by decide +kernel
theorem dX10_append_51 : decode cX10_append 51 = .ok (.iload_n 2, 1) := by decide +kernel
theorem dX10_append_52 : decode cX10_append 52 = .ok (.goto 28, 3) := by decide +kernel
theorem dX10_append_55 : decode cX10_append 55 = .ok (.iload 6, 2) := by decide +kernel
theorem dX10_append_57 : decode cX10_append 57 = .ok (.bipush 12, 2) := by decide +kernel
theorem dX10_append_59 : decode cX10_append 59 = .ok (.if_icmp .ge 7, 3) := by decide +kernel
theorem dX10_append_62 : decode cX10_append 62 = .ok (.iload_n 3, 1) := by decide +kernel
theorem dX10_append_63 : decode cX10_append 63 = .ok (.goto 17, 3) := by decide +kernel
theorem dX10_append_66 : decode cX10_append 66 = .ok (.iload 6, 2) := by decide +kernel
theorem dX10_append_68 : decode cX10_append 68 = .ok (.bipush 16, 2) := by decide +kernel
theorem dX10_append_70 : decode cX10_append 70 = .ok (.if_icmp .ge 8, 3) := by decide +kernel
theorem dX10_append_73 : decode cX10_append 73 = .ok (.iload 4, 2) := by decide +kernel
theorem dX10_append_75 : decode cX10_append 75 = .ok (.goto 5, 3) := by decide +kernel
theorem dX10_append_78 : decode cX10_append 78 = .ok (.iload 5, 2) := by decide +kernel
theorem dX10_append_80 : decode cX10_append 80 = .ok (.istore 7, 2) := by decide +kernel
theorem dX10_append_82 : decode cX10_append 82 = .ok (.aload_n 0, 1) := by decide +kernel
theorem dX10_append_83 : decode cX10_append 83 = .ok (.getfield 29, 3) := by decide +kernel
theorem dX10_append_86 : decode cX10_append 86 = .ok (.aload_n 0, 1) := by decide +kernel
theorem dX10_append_87 : decode cX10_append 87 = .ok (.getfield 166, 3) := by decide +kernel
theorem dX10_append_90 : decode cX10_append 90 = .ok (.iload 7, 2) := by decide +kernel
theorem dX10_append_92 : decode cX10_append 92 = .ok (.bipush 24, 2) := by decide +kernel
theorem dX10_append_94 : decode cX10_append 94 = .ok (.bipush 8, 2) := by decide +kernel
theorem dX10_append_96 : decode cX10_append 96 = .ok (.iload 6, 2) := by decide +kernel
theorem dX10_append_98 : decode cX10_append 98 = .ok (.iconst 4, 1) := by decide +kernel
theorem dX10_append_99 : decode cX10_append 99 = .ok (.irem, 1) := by decide +kernel
theorem dX10_append_100 : decode cX10_append 100 = .ok (.imul, 1) := by decide +kernel
theorem dX10_append_101 : decode cX10_append 101 = .ok (.isub, 1) := by decide +kernel
theorem dX10_append_102 : decode cX10_append 102 = .ok (.ishr, 1) := by decide +kernel
theorem dX10_append_103 : decode cX10_append 103 = .ok (.sipush 255, 3) := by decide +kernel
theorem dX10_append_106 : decode cX10_append 106 = .ok (.iand, 1) := by decide +kernel
theorem dX10_append_107 : decode cX10_append 107 = .ok (.iastore, 1) := by decide +kernel
theorem dX10_append_108 : decode cX10_append 108 = .ok (.aload_n 0, 1) := by decide +kernel
theorem dX10_append_109 : decode cX10_append 109 = .ok (.dup, 1) := by decide +kernel
theorem dX10_append_110 : decode cX10_append 110 = .ok (.getfield 166, 3) := by decide +kernel
theorem dX10_append_113 : decode cX10_append 113 = .ok (.iconst 1, 1) := by decide +kernel
theorem dX10_append_114 : decode cX10_append 114 = .ok (.iadd, 1) := by decide +kernel
theorem dX10_append_115 : decode cX10_append 115 = .ok (.putfield 166, 3) := by decide +kernel
theorem dX10_append_118 : decode cX10_append 118 = .ok (.iinc 6 1, 3) := by decide +kernel
theorem dX10_append_121 : decode cX10_append 121 = .ok (.goto (-94), 3) := by decide +kernel
theorem dX10_append_124 : decode cX10_append 124 = .ok (.aload_n 0, 1) := by decide +kernel
theorem dX10_append_125 : decode cX10_append 125 = .ok (.getfield 166, 3) := by decide +kernel
theorem dX10_append_128 : decode cX10_append 128 = .ok (.ireturn, 1) := by decide +kernel
set_option maxRecDepth 20000 in
theorem ggX10_shorten_X10_in : GoodIn wsX10_shorten wsX10_in := goodIn_r _ [6] (by decide +kernel) (by decide +kernel)
set_option maxRecDepth 20000 in
theorem gX10_shorten_X10_in : GoodIn wsX10_shorten (va_wsS RX10 58 yX10_in wsX10_in) := goodIn_app (goodIn_of _ (by decide +kernel)) ggX10_shorten_X10_in
set_option maxRecDepth 20000 in
theorem ggX10_shorten_X10_fails : GoodIn wsX10_shorten wsX10_fails := goodIn_r _ [10, 1, 11, 12, 13, 14, 15, 16, 17, 18, 19, 20, 21, 22, 23, 24, 25, 26, 27, 28, 29] (by decide +kernel) (by decide +kernel)
set_option maxRecDepth 20000 in
theorem gX10_shorten_X10_fails : GoodIn wsX10_shorten (wsV RX10 169 RX10 yX10_fails wsX10_fails) := goodIn_app (goodIn_of _ (by decide +kernel)) ggX10_shorten_X10_fails
theorem dX10_shorten_0 : decode cX10_shorten 0 = .ok (.aload_n 0, 1) := by decide +kernel
theorem dX10_shorten_1 : decode cX10_shorten 1 = .ok (.iconst 0, 1) := by decide +kernel
theorem dX10_shorten_2 : decode cX10_shorten 2 = .ok (.putfield 51, 3) := by decide +kernel
theorem dX10_shorten_5 : decode cX10_shorten 5 = .ok (.iload_n 1, 1) := by decide +kernel
theorem dX10_shorten_6 : decode cX10_shorten 6 = .ok (.iconst 0, 1) := by decide +kernel
theorem dX10_shorten_7 : decode cX10_shorten 7 = .ok (.aload_n 0, 1) := by decide +kernel
theorem dX10_shorten_8 : decode cX10_shorten 8 = .ok (.getfield 166, 3) := by decide +kernel
theorem dX10_shorten_11 : decode cX10_shorten 11 = .ok (.invokestatic 58, 3) := by decide +kernel
theorem dX10_shorten_14 : decode cX10_shorten 14 = .ok (.ifCond .ne 9, 3) := by decide +kernel
theorem dX10_shorten_17 : decode cX10_shorten 17 = .ok (.aload_n 0, 1) := by decide +kernel
theorem dX10_shorten_18 : decode cX10_shorten 18 = .ok (.iconst 1, 1) := by decide +kernel
theorem dX10_shorten_19 : decode cX10_shorten 19 = .ok (.invokevirtual 169, 3) := by decide +kernel
theorem dX10_shorten_22 : decode cX10_shorten 22 = .ok (.ireturn, 1) := by decide +kernel
theorem dX10_shorten_23 : decode cX10_shorten 23 = .ok (.aload_n 0, 1) := by decide +kernel
theorem dX10_shorten_24 : decode cX10_shorten 24 = .ok (.iload_n 1, 1) := by decide +kernel
theorem dX10_shorten_25 : decode cX10_shorten 25 = .ok (.putfield 166, 3) := by decide +kernel
theorem dX10_shorten_28 : decode cX10_shorten 28 = .ok (.aload_n 0, 1) := by decide +kernel
theorem dX10_shorten_29 : decode cX10_shorten 29 = .ok (.getfield 166, 3) := by decide +kernel
theorem dX10_shorten_32 : decode cX10_shorten 32 = .ok (.ireturn, 1) := by decide +kernel
theorem dX10_isSmall_0 : decode cX10_isSmall 0 = .ok (.iload_n 1, 1) := by decide +kernel
theorem dX10_isSmall_1 : decode cX10_isSmall 1 = .ok (.aload_n 0, 1) := by decide +kernel
theorem dX10_isSmall_2 : decode cX10_isSmall 2 = .ok (.getfield 166, 3) := by decide +kernel
theorem dX10_isSmall_5 : decode cX10_isSmall 5 = .ok (.if_icmp .ge 29, 3) := by decide +kernel
theorem dX10_isSmall_8 : decode cX10_isSmall 8 = .ok (.aload_n 0, 1) := by decide +kernel
theorem dX10_isSmall_9 : decode cX10_isSmall 9 = .ok (.getfield 29, 3) := by decide +kernel
theorem dX10_isSmall_12 : decode cX10_isSmall 12 = .ok (.iload_n 1, 1) := by decide +kernel
theorem dX10_isSmall_13 : decode cX10_isSmall 13 = .ok (.iaload, 1) := by decide +kernel
theorem dX10_isSmall_14 : decode cX10_isSmall 14 = .ok (.bipush 97, 2) := by decide +kernel
theorem dX10_isSmall_16 : decode cX10_isSmall 16 = .ok (.if_icmp .lt 18, 3) := by decide +kernel
theorem dX10_isSmall_19 : decode cX10_isSmall 19 = .ok (.aload_n 0, 1) := by decide +kernel
theorem dX10_isSmall_20 : decode cX10_isSmall 20 = .ok (.getfield 29, 3) := by decide +kernel
theorem dX10_isSmall_23 : decode cX10_isSmall 23 = .ok (.iload_n 1, 1) := by decide +kernel
theorem dX10_isSmall_24 : decode cX10_isSmall 24 = .ok (.iaload, 1) := by decide +kernel
theorem dX10_isSmall_25 : decode cX10_isSmall 25 = .ok (.bipush 122, 2) := by decide +kernel
theorem dX10_isSmall_27 : decode cX10_isSmall 27 = .ok (.if_icmp .gt 7, 3) := by decide +kernel
theorem dX10_isSmall_30 : decode cX10_isSmall 30 = .ok (.iconst 1, 1) := by decide +kernel
theorem dX10_isSmall_31 : decode cX10_isSmall 31 = .ok (.goto 4, 3) := by decide +kernel
theorem dX10_isSmall_34 : decode cX10_isSmall 34 = .ok (.iconst 0, 1) := by decide +kernel
theorem dX10_isSmall_35 : decode cX10_isSmall 35 = .ok (.ireturn, 1) := by decide +kernel
theorem dX10_isDigit_0 : decode cX10_isDigit 0 = .ok (.iload_n 1, 1) := by decide +kernel
theorem dX10_isDigit_1 : decode cX10_isDigit 1 = .ok (.aload_n 0, 1) := by decide +kernel
theorem dX10_isDigit_2 : decode cX10_isDigit 2 = .ok (.getfield 166, 3) := by decide +kernel
theorem dX10_isDigit_5 : decode cX10_isDigit 5 = .ok (.if_icmp .ge 29, 3) := by decide +kernel
theorem dX10_isDigit_8 : decode cX10_isDigit 8 = .ok (.aload_n 0, 1) := by decide +kernel
theorem dX10_isDigit_9 : decode cX10_isDigit 9 = .ok (.getfield 29, 3) := by decide +kernel
theorem dX10_isDigit_12 : decode cX10_isDigit 12 = .ok (.iload_n 1, 1) := by decide +kernel
theorem dX10_isDigit_13 : decode cX10_isDigit 13 = .ok (.iaload, 1) := by decide +kernel
theorem dX10_isDigit_14 : decode cX10_isDigit 14 = .ok (.bipush 48, 2) := by decide +kernel
theorem dX10_isDigit_16 : decode cX10_isDigit 16 = .ok (.if_icmp .lt 18, 3) := by decide +kernel
theorem dX10_isDigit_19 : decode cX10_isDigit 19 = .ok (.aload_n 0, 1) := by decide +kernel
theorem dX10_isDigit_20 : decode cX10_isDigit 20 = .ok (.getfield 29, 3) := by decide +kernel
theorem dX10_isDigit_23 : decode cX10_isDigit 23 = .ok (.iload_n 1, 1) := by decide +kernel
theorem dX10_isDigit_24 : decode cX10_isDigit 24 = .ok (.iaload, 1) := by decide +kernel
theorem dX10_isDigit_25 : decode cX10_isDigit 25 = .ok (.bipush 57, 2) := by decide +kernel
theorem dX10_isDigit_27 : decode cX10_isDigit 27 = .ok (.if_icmp .gt 7, 3) := by decide +kernel
theorem dX10_isDigit_30 : decode cX10_isDigit 30 = .ok (.iconst 1, 1) := by decide +kernel
theorem dX10_isDigit_31 : decode cX10_isDigit 31 = .ok (.goto 4, 3) := by decide +kernel
theorem dX10_isDigit_34 : decode cX10_isDigit 34 = .ok (.iconst 0, 1) := by decide +kernel
theorem dX10_isDigit_35 : decode cX10_isDigit 35 = .ok (.ireturn, 1) := by decide +kernel
set_option maxRecDepth 20000 in
theorem ggX10_next_X10_isSmall : GoodIn wsX10_next wsX10_isSmall := goodIn_r _ [12, 2, 3, 27, 28, 29, 30, 31, 32, 33, 34, 35, 36, 37, 38, 39, 40, 41, 42, 43, 44, 45] (by decide +kernel) (by decide +kernel)
set_option maxRecDepth 20000 in
theorem gX10_next_X10_isSmall : GoodIn wsX10_next (wsV RX10 188 RX10 yX10_isSmall wsX10_isSmall) := goodIn_app (goodIn_of _ (by decide +kernel)) ggX10_next_X10_isSmall
set_option maxRecDepth 20000 in
theorem ggX10_next_X10_nextWord : GoodIn wsX10_next wsX10_nextWord := goodIn_r _ [16, 1, 4, 17, 6, 3, 18, 7, 8, 9, 10, 11, 12, 2, 27, 28, 29, 30, 31, 32, 33, 34, 35, 36, 37, 38, 39, 40, 41, 42, 43, 44, 45] (by decide +kernel) (by decide +kernel)
set_option maxRecDepth 20000 in
theorem gX10_next_X10_nextWord : GoodIn wsX10_next (wsV RX10 191 RX10 yX10_nextWord wsX10_nextWord) := goodIn_app (goodIn_of _ (by decide +kernel)) ggX10_next_X10_nextWord
set_option maxRecDepth 20000 in
theorem ggX10_next_X10_isDigit : GoodIn wsX10_next wsX10_isDigit := goodIn_r _ [22, 2, 3, 27, 28, 29, 30, 31, 32, 33, 34, 35, 36, 37, 38, 39, 40, 41, 42, 43, 44, 45] (by decide +kernel) (by decide +kernel)
set_option maxRecDepth 20000 in
theorem gX10_next_X10_isDigit : GoodIn wsX10_next (wsV RX10 194 RX10 yX10_isDigit wsX10_isDigit) := goodIn_app (goodIn_of _ (by decide +kernel)) ggX10_next_X10_isDigit
set_option maxRecDepth 20000 in
theorem ggX10_next_X10_nextNumber : GoodIn wsX10_next wsX10_nextNumber := goodIn_r _ [26, 1, 4, 5, 3, 7, 19, 20, 21, 11, 22, 2, 27, 28, 29, 30, 31, 32, 33, 34, 35, 36, 37, 38, 39, 40, 41, 42, 43, 44, 45] (by decide +kernel) (by decide +kernel)
set_option maxRecDepth 20000 in
theorem gX10_next_X10_nextNumber : GoodIn wsX10_next (wsV RX10 197 RX10 yX10_nextNumber wsX10_nextNumber) := goodIn_app (goodIn_of _ (by decide +kernel)) ggX10_next_X10_nextNumber
theorem dX10_next_0 : decode cX10_next 0 = .ok (.aload_n 0, 1) := by decide +kernel
theorem dX10_next_1 : decode cX10_next 1 = .ok (.getfield 172, 3) := by decide +kernel
theorem dX10_next_4 : decode cX10_next 4 = .ok (.aload_n 0, 1) := by decide +kernel
theorem dX10_next_5 : decode cX10_next 5 = .ok (.getfield 166, 3) := by decide +kernel
theorem dX10_next_8 : decode cX10_next 8 = .ok (.if_icmp .ge 44, 3) := by decide +kernel
theorem dX10_next_11 : decode cX10_next 11 = .ok (.aload_n 0, 1) := by decide +kernel
theorem dX10_next_12 : decode cX10_next 12 = .ok (.getfield 29, 3) := by decide +kernel
theorem dX10_next_15 : decode cX10_next 15 = .ok (.aload_n 0, 1) := by decide +kernel
theorem dX10_next_16 : decode cX10_next 16 = .ok (.getfield 172, 3) := by decide +kernel
theorem dX10_next_19 : decode cX10_next 19 = .ok (.iaload, 1) := by decide +kernel
theorem dX10_next_20 : decode cX10_next 20 = .ok (.bipush 32, 2) := by decide +kernel
theorem dX10_next_22 : decode cX10_next 22 = .ok (.if_icmp .eq 17, 3) := by decide +kernel
theorem dX10_next_25 : decode cX10_next 25 = .ok (.aload_n 0, 1) := by decide +kernel
theorem dX10_next_26 : decode cX10_next 26 = .ok (.getfield 29, 3) := by decide +kernel
theorem dX10_next_29 : decode cX10_next 29 = .ok (.aload_n 0, 1) := by decide +kernel
theorem dX10_next_30 : decode cX10_next 30 = .ok (.getfield 172, 3) := by decide +kernel
theorem dX10_next_33 : decode cX10_next 33 = .ok (.iaload, 1) := by decide +kernel
theorem dX10_next_34 : decode cX10_next 34 = .ok (.bipush 10, 2) := by decide +kernel
theorem dX10_next_36 : decode cX10_next 36 = .ok (.if_icmp .ne 16, 3) := by decide +kernel
theorem dX10_next_39 : decode cX10_next 39 = .ok (.aload_n 0, 1) := by decide +kernel
theorem dX10_next_40 : decode cX10_next 40 = .ok (.dup, 1) := by decide +kernel
theorem dX10_next_41 : decode cX10_next 41 = .ok (.getfield 172, 3) := by decide +kernel
theorem dX10_next_44 : decode cX10_next 44 = .ok (.iconst 1, 1) := by decide +kernel
theorem dX10_next_45 : decode cX10_next 45 = .ok (.iadd, 1) := by decide +kernel
theorem dX10_next_46 : decode cX10_next 46 = .ok (.putfield 172, 3) := by decide +kernel
theorem dX10_next_49 : decode cX10_next 49 = .ok (.goto (-49), 3) := by decide +kernel
theorem dX10_next_52 : decode cX10_next 52 = .ok (.aload_n 0, 1) := by decide +kernel
theorem dX10_next_53 : decode cX10_next 53 = .ok (.aload_n 0, 1) := by decide +kernel
theorem dX10_next_54 : decode cX10_next 54 = .ok (.getfield 172, 3) := by decide +kernel
theorem dX10_next_57 : decode cX10_next 57 = .ok (.putfield 175, 3) := by decide +kernel
theorem dX10_next_60 : decode cX10_next 60 = .ok (.aload_n 0, 1) := by decide +kernel
theorem dX10_next_61 : decode cX10_next 61 = .ok (.iconst 0, 1) := by decide +kernel
theorem dX10_next_62 : decode cX10_next 62 = .ok (.putfield 178, 3) := by decide +kernel
theorem dX10_next_65 : decode cX10_next 65 = .ok (.aload_n 0, 1) := by decide +kernel
theorem dX10_next_66 : decode cX10_next 66 = .ok (.lconst 0, 1) := by decide +kernel
theorem dX10_next_67 : decode cX10_next 67 = .ok (.putfield 181, 3) := by decide +kernel
theorem dX10_next_70 : decode cX10_next 70 = .ok (.aload_n 0, 1) := by decide +kernel
theorem dX10_next_71 : decode cX10_next 71 = .ok (.getfield 172, 3) := by decide +kernel
theorem dX10_next_74 : decode cX10_next 74 = .ok (.aload_n 0, 1) := by decide +kernel
theorem dX10_next_75 : decode cX10_next 75 = .ok (.getfield 166, 3) := by decide +kernel
theorem dX10_next_78 : decode cX10_next 78 = .ok (.if_icmp .ne 11, 3) := by decide +kernel
theorem dX10_next_81 : decode cX10_next 81 = .ok (.aload_n 0, 1) := by decide +kernel
theorem dX10_next_82 : decode cX10_next 82 = .ok (.iconst 0, 1) := by decide +kernel
theorem dX10_next_83 : decode cX10_next 83 = .ok (.putfield 185, 3) := by decide +kernel
theorem dX10_next_86 : decode cX10_next 86 = .ok (.goto 73, 3) := by decide +kernel
theorem dX10_next_89 : decode cX10_next 89 = .ok (.aload_n 0, 1) := by decide +kernel
theorem dX10_next_90 : decode cX10_next 90 = .ok (.aload_n 0, 1) := by decide +kernel
theorem dX10_next_91 : decode cX10_next 91 = .ok (.getfield 172, 3) := by decide +kernel
theorem dX10_next_94 : decode cX10_next 94 = .ok (.invokevirtual 188, 3) := by decide +kernel
theorem dX10_next_97 : decode cX10_next 97 = .ok (.ifCond .eq 10, 3) := by decide +kernel
theorem dX10_next_100 : decode cX10_next 100 = .ok (.aload_n 0, 1) := by decide +kernel
theorem dX10_next_101 : decode cX10_next 101 = .ok (.invokevirtual 191, 3) := by decide +kernel
theorem dX10_next_104 : decode cX10_next 104 = .ok (.goto 55, 3) := by decide +kernel
theorem dX10_next_107 : decode cX10_next 107 = .ok (.aload_n 0, 1) := by decide +kernel
theorem dX10_next_108 : decode cX10_next 108 = .ok (.aload_n 0, 1) := by decide +kernel
theorem dX10_next_109 : decode cX10_next 109 = .ok (.getfield 172, 3) := by decide +kernel
theorem dX10_next_112 : decode cX10_next 112 = .ok (.invokevirtual 194, 3) := by decide +kernel
theorem dX10_next_115 : decode cX10_next 115 = .ok (.ifCond .eq 10, 3) := by decide +kernel
theorem dX10_next_118 : decode cX10_next 118 = .ok (.aload_n 0, 1) := by decide +kernel
theorem dX10_next_119 : decode cX10_next 119 = .ok (.invokevirtual 197, 3) := by decide +kernel
theorem dX10_next_122 : decode cX10_next 122 = .ok (.goto 37, 3) := by decide +kernel
theorem dX10_next_125 : decode cX10_next 125 = .ok (.aload_n 0, 1) := by decide +kernel
theorem dX10_next_126 : decode cX10_next 126 = .ok (.iconst 4, 1) := by decide +kernel
theorem dX10_next_127 : decode cX10_next 127 = .ok (.putfield 185, 3) := by decide +kernel
theorem dX10_next_130 : decode cX10_next 130 = .ok (.aload_n 0, 1) := by decide +kernel
theorem dX10_next_131 : decode cX10_next 131 = .ok (.getfield 29, 3) := by decide +kernel
theorem dX10_next_134 : decode cX10_next 134 = .ok (.aload_n 0, 1) := by decide +kernel
theorem dX10_next_135 : decode cX10_next 135 = .ok (.getfield 172, 3) := by decide +kernel
theorem dX10_next_138 : decode cX10_next 138 = .ok (.iaload, 1) := by decide +kernel
theorem dX10_next_139 : decode cX10_next 139 = .ok (.bipush 59, 2) := by decide +kernel
theorem dX10_next_141 : decode cX10_next 141 = .ok (.if_icmp .ne 8, 3) := by decide +kernel
theorem dX10_next_144 : decode cX10_next 144 = .ok (.aload_n 0, 1) := by decide +kernel
theorem dX10_next_145 : decode cX10_next 145 = .ok (.iconst 3, 1) := by decide +kernel
theorem dX10_next_146 : decode cX10_next 146 = .ok (.putfield 185, 3) := by decide +kernel
theorem dX10_next_149 : decode cX10_next 149 = .ok (.aload_n 0, 1) := by decide +kernel
theorem dX10_next_150 : decode cX10_next 150 = .ok (.dup, 1) := by decide +kernel
theorem dX10_next_151 : decode cX10_next 151 = .ok (.getfield 172, 3) := by decide +kernel
theorem dX10_next_154 : decode cX10_next 154 = .ok (.iconst 1, 1) := by decide +kernel
theorem dX10_next_155 : decode cX10_next 155 = .ok (.iadd, 1) := by decide +kernel
theorem dX10_next_156 : decode cX10_next 156 = .ok (.putfield 172, 3) := by decide +kernel
theorem dX10_next_159 : decode cX10_next 159 = .ok (.return_, 1) := by decide +kernel
set_option maxRecDepth 20000 in
theorem ggX10_nextWord_X10_isSmall : GoodIn wsX10_nextWord wsX10_isSmall := goodIn_r _ [12, 13, 5, 14, 15, 16, 17, 18, 19, 20, 21, 22, 23, 24, 25, 26, 27, 28, 29, 30, 31, 32] (by decide +kernel) (by decide +kernel)
set_option maxRecDepth 20000 in
theorem gX10_nextWord_X10_isSmall : GoodIn wsX10_nextWord (wsV RX10 188 RX10 yX10_isSmall wsX10_isSmall) := goodIn_app (goodIn_of _ (by decide +kernel)) ggX10_nextWord_X10_isSmall
theorem dX10_nextWord_0 : decode cX10_nextWord 0 = .ok (.aload_n 0, 1) := by decide +kernel
theorem dX10_nextWord_1 : decode cX10_nextWord 1 = .ok (.aload_n 0, 1) := by decide +kernel
theorem dX10_nextWord_2 : decode cX10_nextWord 2 = .ok (.getfield 172, 3) := by decide +kernel
theorem dX10_nextWord_5 : decode cX10_nextWord 5 = .ok (.invokevirtual 188, 3) := by decide +kernel
theorem dX10_nextWord_8 : decode cX10_nextWord 8 = .ok (.ifCond .eq 57, 3) := by decide +kernel
theorem dX10_nextWord_11 : decode cX10_nextWord 11 = .ok (.aload_n 0, 1) := by decide +kernel
theorem dX10_nextWord_12 : decode cX10_nextWord 12 = .ok (.getfield 172, 3) := by decide +kernel
theorem dX10_nextWord_15 : decode cX10_nextWord 15 = .ok (.aload_n 0, 1) := by decide +kernel
theorem dX10_nextWord_16 : decode cX10_nextWord 16 = .ok (.getfield 175, 3) := by decide +kernel
theorem dX10_nextWord_19 : decode cX10_nextWord 19 = .ok (.isub, 1) := by decide +kernel
theorem dX10_nextWord_20 : decode cX10_nextWord 20 = .ok (.bipush 10, 2) := by decide +kernel
theorem dX10_nextWord_22 : decode cX10_nextWord 22 = .ok (.if_icmp .ge 30, 3) := by decide +kernel
theorem dX10_nextWord_25 : decode cX10_nextWord 25 = .ok (.aload_n 0, 1) := by decide +kernel
theorem dX10_nextWord_26 : decode cX10_nextWord 26 = .ok (.ldc2_w 200, 3) := by decide +kernel
theorem dX10_nextWord_29 : decode cX10_nextWord 29 = .ok (.aload_n 0, 1) := by decide +kernel
theorem dX10_nextWord_30 : decode cX10_nextWord 30 = .ok (.getfield 181, 3) := by decide +kernel
theorem dX10_nextWord_33 : decode cX10_nextWord 33 = .ok (.lmul, 1) := by decide +kernel
theorem dX10_nextWord_34 : decode cX10_nextWord 34 = .ok (.aload_n 0, 1) := by decide +kernel
theorem dX10_nextWord_35 : decode cX10_nextWord 35 = .ok (.getfield 29, 3) := by decide +kernel
theorem dX10_nextWord_38 : decode cX10_nextWord 38 = .ok (.aload_n 0, 1) := by decide +kernel
theorem dX10_nextWord_39 : decode cX10_nextWord 39 = .ok (.getfield 172, 3) := by decide +kernel
theorem dX10_nextWord_42 : decode cX10_nextWord 42 = .ok (.iaload, 1) := by decide +kernel
theorem dX10_nextWord_43 : decode cX10_nextWord 43 = .ok (.i2l, 1) := by decide +kernel
theorem dX10_nextWord_44 : decode cX10_nextWord 44 = .ok (.ladd, 1) := by decide +kernel
theorem dX10_nextWord_45 : decode cX10_nextWord 45 = .ok (.ldc2_w 202, 3) := by decide +kernel
theorem dX10_nextWord_48 : decode cX10_nextWord 48 = .ok (.lsub, 1) := by decide +kernel
theorem dX10_nextWord_49 : decode cX10_nextWord 49 = .ok (.putfield 181, 3) := by decide +kernel
theorem dX10_nextWord_52 : decode cX10_nextWord 52 = .ok (.aload_n 0, 1) := by decide +kernel
theorem dX10_nextWord_53 : decode cX10_nextWord 53 = .ok (.dup, 1) := by decide +kernel
theorem dX10_nextWord_54 : decode cX10_nextWord 54 = .ok (.getfield 172, 3) := by decide +kernel
theorem dX10_nextWord_57 : decode cX10_nextWord 57 = .ok (.iconst 1, 1) := by decide +kernel
theorem dX10_nextWord_58 : decode cX10_nextWord 58 = .ok (.iadd, 1) := by decide +kernel
theorem dX10_nextWord_59 : decode cX10_nextWord 59 = .ok (.putfield 172, 3) := by decide +kernel
theorem dX10_nextWord_62 : decode cX10_nextWord 62 = .ok (.goto (-62), 3) := by decide +kernel
theorem dX10_nextWord_65 : decode cX10_nextWord 65 = .ok (.aload_n 0, 1) := by decide +kernel
theorem dX10_nextWord_66 : decode cX10_nextWord 66 = .ok (.iconst 1, 1) := by decide +kernel
theorem dX10_nextWord_67 : decode cX10_nextWord 67 = .ok (.putfield 185, 3) := by decide +kernel
theorem dX10_nextWord_70 : decode cX10_nextWord 70 = .ok (.return_, 1) := by decide +kernel
set_option maxRecDepth 20000 in
theorem ggX10_nextNumber_X10_isDigit : GoodIn wsX10_nextNumber wsX10_isDigit := goodIn_r _ [10, 11, 4, 12, 13, 14, 15, 16, 17, 18, 19, 20, 21, 22, 23, 24, 25, 26, 27, 28, 29, 30] (by decide +kernel) (by decide +kernel)
set_option maxRecDepth 20000 in
theorem gX10_nextNumber_X10_isDigit : GoodIn wsX10_nextNumber (wsV RX10 194 RX10 yX10_isDigit wsX10_isDigit) := goodIn_app (goodIn_of _ (by decide +kernel)) ggX10_nextNumber_X10_isDigit
theorem dX10_nextNumber_0 : decode cX10_nextNumber 0 = .ok (.aload_n 0, 1) := by decide +kernel
theorem dX10_nextNumber_1 : decode cX10_nextNumber 1 = .ok (.aload_n 0, 1) := by decide +kernel
theorem dX10_nextNumber_2 : decode cX10_nextNumber 2 = .ok (.getfield 172, 3) := by decide +kernel
theorem dX10_nextNumber_5 : decode cX10_nextNumber 5 = .ok (.invokevirtual 194, 3) := by decide +kernel
theorem dX10_nextNumber_8 : decode cX10_nextNumber 8 = .ok (.ifCond .eq 53, 3) := by decide +kernel
theorem dX10_nextNumber_11 : decode cX10_nextNumber 11 = .ok (.aload_n 0, 1) := by decide +kernel
theorem dX10_nextNumber_12 : decode cX10_nextNumber 12 = .ok (.getfield 172, 3) := by decide +kernel
theorem dX10_nextNumber_15 : decode cX10_nextNumber 15 = .ok (.aload_n 0, 1) := by decide +kernel
theorem dX10_nextNumber_16 : decode cX10_nextNumber 16 = .ok (.getfield 175, 3) := by decide +kernel
theorem dX10_nextNumber_19 : decode cX10_nextNumber 19 = .ok (.isub, 1) := by decide +kernel
theorem dX10_nextNumber_20 : decode cX10_nextNumber 20 = .ok (.iconst 2, 1) := by decide +kernel
theorem dX10_nextNumber_21 : decode cX10_nextNumber 21 = .ok (.if_icmp .ge 27, 3) := by decide +kernel
theorem dX10_nextNumber_24 : decode cX10_nextNumber 24 = .ok (.aload_n 0, 1) := by decide +kernel
theorem dX10_nextNumber_25 : decode cX10_nextNumber 25 = .ok (.bipush 10, 2) := by decide +kernel
theorem dX10_nextNumber_27 : decode cX10_nextNumber 27 = .ok (.aload_n 0, 1) := by decide +kernel
theorem dX10_nextNumber_28 : decode cX10_nextNumber 28 = .ok (.getfield 178, 3) := by decide +kernel
theorem dX10_nextNumber_31 : decode cX10_nextNumber 31 = .ok (.imul, 1) := by decide +kernel
theorem dX10_nextNumber_32 : decode cX10_nextNumber 32 = .ok (.aload_n 0, 1) := by decide +kernel
theorem dX10_nextNumber_33 : decode cX10_nextNumber 33 = .ok (.getfield 29, 3) := by decide +kernel
theorem dX10_nextNumber_36 : decode cX10_nextNumber 36 = .ok (.aload_n 0, 1) := by decide +kernel
theorem dX10_nextNumber_37 : decode cX10_nextNumber 37 = .ok (.getfield 172, 3) := by decide +kernel
theorem dX10_nextNumber_40 : decode cX10_nextNumber 40 = .ok (.iaload, 1) := by decide +kernel
theorem dX10_nextNumber_41 : decode cX10_nextNumber 41 = .ok (.iadd, 1) := by decide +kernel
theorem dX10_nextNumber_42 : decode cX10_nextNumber 42 = .ok (.bipush 48, 2) := by decide +kernel
theorem dX10_nextNumber_44 : decode cX10_nextNumber 44 = .ok (.isub, 1) := by decide +kernel
theorem dX10_nextNumber_45 : decode cX10_nextNumber 45 = .ok (.putfield 178, 3) := by decide +kernel
theorem dX10_nextNumber_48 : decode cX10_nextNumber 48 = .ok (.aload_n 0, 1) := by decide +kernel
theorem dX10_nextNumber_49 : decode cX10_nextNumber 49 = .ok (.dup, 1) := by decide +kernel
theorem dX10_nextNumber_50 : decode cX10_nextNumber 50 = .ok (.getfield 172, 3) := by decide +kernel
theorem dX10_nextNumber_53 : decode cX10_nextNumber 53 = .ok (.iconst 1, 1) := by decide +kernel
theorem dX10_nextNumber_54 : decode cX10_nextNumber 54 = .ok (.iadd, 1) := by decide +kernel
theorem dX10_nextNumber_55 : decode cX10_nextNumber 55 = .ok (.putfield 172, 3) := by decide +kernel
theorem dX10_nextNumber_58 : decode cX10_nextNumber 58 = .ok (.goto (-58), 3) := by decide +kernel
theorem dX10_nextNumber_61 : decode cX10_nextNumber 61 = .ok (.aload_n 0, 1) := by decide +kernel
theorem dX10_nextNumber_62 : decode cX10_nextNumber 62 = .ok (.iconst 2, 1) := by decide +kernel
theorem dX10_nextNumber_63 : decode cX10_nextNumber 63 = .ok (.putfield 185, 3) := by decide +kernel
theorem dX10_nextNumber_66 : decode cX10_nextNumber 66 = .ok (.aload_n 0, 1) := by decide +kernel
theorem dX10_nextNumber_67 : decode cX10_nextNumber 67 = .ok (.getfield 172, 3) := by decide +kernel
theorem dX10_nextNumber_70 : decode cX10_nextNumber 70 = .ok (.aload_n 0, 1) := by decide +kernel
theorem dX10_nextNumber_71 : decode cX10_nextNumber 71 = .ok (.getfield 175, 3) := by decide +kernel
theorem dX10_nextNumber_74 : decode cX10_nextNumber 74 = .ok (.isub, 1) := by decide +kernel
theorem dX10_nextNumber_75 : decode cX10_nextNumber 75 = .ok (.iconst 2, 1) := by decide +kernel
theorem dX10_nextNumber_76 : decode cX10_nextNumber 76 = .ok (.if_icmp .le 8, 3) := by decide +kernel
theorem dX10_nextNumber_79 : decode cX10_nextNumber 79 = .ok (.aload_n 0, 1) := by decide +kernel
theorem dX10_nextNumber_80 : decode cX10_nextNumber 80 = .ok (.iconst 4, 1) := by decide +kernel
theorem dX10_nextNumber_81 : decode cX10_nextNumber 81 = .ok (.putfield 185, 3) := by decide +kernel
theorem dX10_nextNumber_84 : decode cX10_nextNumber 84 = .ok (.return_, 1) := by decide +kernel
theorem dX10_isWord_0 : decode cX10_isWord 0 = .ok (.aload_n 0, 1) := by decide +kernel
theorem dX10_isWord_1 : decode cX10_isWord 1 = .ok (.getfield 185, 3) := by decide +kernel
theorem dX10_isWord_4 : decode cX10_isWord 4 = .ok (.iconst 1, 1) := by decide +kernel
theorem dX10_isWord_5 : decode cX10_isWord 5 = .ok (.if_icmp .ne 16, 3) := by decide +kernel
theorem dX10_isWord_8 : decode cX10_isWord 8 = .ok (.aload_n 0, 1) := by decide +kernel
theorem dX10_isWord_9 : decode cX10_isWord 9 = .ok (.getfield 181, 3) := by decide +kernel
theorem dX10_isWord_12 : decode cX10_isWord 12 = .ok (.lload_n 1, 1) := by decide +kernel
theorem dX10_isWord_13 : decode cX10_isWord 13 = .ok (.lcmp, 1) := by decide +kernel
theorem dX10_isWord_14 : decode cX10_isWord 14 = .ok (.ifCond .ne 7, 3) := by decide +kernel
theorem dX10_isWord_17 : decode cX10_isWord 17 = .ok (.iconst 1, 1) := by decide +kernel
theorem dX10_isWord_18 : decode cX10_isWord 18 = .ok (.goto 4, 3) := by decide +kernel
theorem dX10_isWord_21 : decode cX10_isWord 21 = .ok (.iconst 0, 1) := by decide +kernel
theorem dX10_isWord_22 : decode cX10_isWord 22 = .ok (.ireturn, 1) := by decide +kernel
set_option maxRecDepth 20000 in
theorem ggX10_takes_X10_next : GoodIn wsX10_takes wsX10_next := goodIn_r _ [8, 9, 10, 11, 2, 12, 13, 14, 15, 16, 17, 7, 18, 19, 20, 21, 22, 23, 24, 25, 26, 27, 28, 29, 30, 31, 32, 33, 34, 35, 36, 37, 38, 39, 40, 41, 42, 43, 44, 45, 46, 47, 48, 49, 50, 51] (by decide +kernel) (by decide +kernel)
set_option maxRecDepth 20000 in
theorem gX10_takes_X10_next : GoodIn wsX10_takes (wsV RX10 208 RX10 yX10_next wsX10_next) := goodIn_app (goodIn_of _ (by decide +kernel)) ggX10_takes_X10_next
theorem dX10_takes_0 : decode cX10_takes 0 = .ok (.aload_n 0, 1) := by decide +kernel
theorem dX10_takes_1 : decode cX10_takes 1 = .ok (.getfield 204, 3) := by decide +kernel
theorem dX10_takes_4 : decode cX10_takes 4 = .ok (.ifCond .eq 5, 3) := by decide +kernel
theorem dX10_takes_7 : decode cX10_takes 7 = .ok (.iconst 0, 1) := by decide +kernel
theorem dX10_takes_8 : decode cX10_takes 8 = .ok (.ireturn, 1) := by decide +kernel
theorem dX10_takes_9 : decode cX10_takes 9 = .ok (.iload_n 1, 1) := by decide +kernel
theorem dX10_takes_10 : decode cX10_takes 10 = .ok (.ifCond .ne 18, 3) := by decide +kernel
theorem dX10_takes_13 : decode cX10_takes 13 = .ok (.aload_n 0, 1) := by decide +kernel
theorem dX10_takes_14 : decode cX10_takes 14 = .ok (.iconst 1, 1) := by decide +kernel
theorem dX10_takes_15 : decode cX10_takes 15 = .ok (.putfield 204, 3) := by decide +kernel
theorem dX10_takes_18 : decode cX10_takes 18 = .ok (.aload_n 0, 1) := by decide +kernel
theorem dX10_takes_19 : decode cX10_takes 19 = .ok (.aload_n 0, 1) := by decide +kernel
theorem dX10_takes_20 : decode cX10_takes 20 = .ok (.getfield 175, 3) := by decide +kernel
theorem dX10_takes_23 : decode cX10_takes 23 = .ok (.putfield 32, 3) := by decide +kernel
theorem dX10_takes_26 : decode cX10_takes 26 = .ok (.iconst 0, 1) := by decide +kernel
theorem dX10_takes_27 : decode cX10_takes 27 = .ok (.ireturn, 1) := by decide +kernel
theorem dX10_takes_28 : decode cX10_takes 28 = .ok (.aload_n 0, 1) := by decide +kernel
theorem dX10_takes_29 : decode cX10_takes 29 = .ok (.invokevirtual 208, 3) := by decide +kernel
theorem dX10_takes_32 : decode cX10_takes 32 = .ok (.iconst 1, 1) := by decide +kernel
theorem dX10_takes_33 : decode cX10_takes 33 = .ok (.ireturn, 1) := by decide +kernel
set_option maxRecDepth 20000 in
theorem ggX10_takesNumber_X10_in : GoodIn wsX10_takesNumber wsX10_in := goodIn_r _ [6] (by decide +kernel) (by decide +kernel)
set_option maxRecDepth 20000 in
theorem gX10_takesNumber_X10_in : GoodIn wsX10_takesNumber (va_wsS RX10 58 yX10_in wsX10_in) := goodIn_app (goodIn_of _ (by decide +kernel)) ggX10_takesNumber_X10_in
set_option maxRecDepth 20000 in
theorem ggX10_takesNumber_X10_takes : GoodIn wsX10_takesNumber wsX10_takes := goodIn_r _ [10, 11, 12, 13, 14, 15, 16, 5, 17, 18, 19, 20, 1, 21, 2, 22, 23, 24, 25, 26, 27, 28, 29, 30, 31, 32, 33, 34, 35, 36, 37, 38, 39, 40, 41, 42, 43, 44, 45, 46, 47, 48, 49, 50, 51, 52, 53, 54, 55, 56, 57, 58] (by decide +kernel) (by decide +kernel)
set_option maxRecDepth 20000 in
theorem gX10_takesNumber_X10_takes : GoodIn wsX10_takesNumber (wsV RX10 211 RX10 yX10_takes wsX10_takes) := goodIn_app (goodIn_of _ (by decide +kernel)) ggX10_takesNumber_X10_takes
theorem dX10_takesNumber_0 : decode cX10_takesNumber 0 = .ok (.aload_n 0, 1) := by decide +kernel
theorem dX10_takesNumber_1 : decode cX10_takesNumber 1 = .ok (.getfield 178, 3) := by decide +kernel
theorem dX10_takesNumber_4 : decode cX10_takesNumber 4 = .ok (.istore_n 3, 1) := by decide +kernel
theorem dX10_takesNumber_5 : decode cX10_takesNumber 5 = .ok (.aload_n 0, 1) := by decide +kernel
theorem dX10_takesNumber_6 : decode cX10_takesNumber 6 = .ok (.aload_n 0, 1) := by decide +kernel
theorem dX10_takesNumber_7 : decode cX10_takesNumber 7 = .ok (.getfield 185, 3) := by decide +kernel
theorem dX10_takesNumber_10 : decode cX10_takesNumber 10 = .ok (.iconst 2, 1) := by decide +kernel
theorem dX10_takesNumber_11 : decode cX10_takesNumber 11 = .ok (.if_icmp .ne 16, 3) := by decide +kernel
theorem dX10_takesNumber_14 : decode cX10_takesNumber 14 = .ok (.iload_n 3, 1) := by decide +kernel
theorem dX10_takesNumber_15 : decode cX10_takesNumber 15 = .ok (.iload_n 1, 1) := by decide +kernel
theorem dX10_takesNumber_16 : decode cX10_takesNumber 16 = .ok (.iload_n 2, 1) := by decide +kernel
theorem dX10_takesNumber_17 : decode cX10_takesNumber 17 = .ok (.invokestatic 58, 3) := by decide +kernel
theorem dX10_takesNumber_20 : decode cX10_takesNumber 20 = .ok (.ifCond .eq 7, 3) := by decide +kernel
theorem dX10_takesNumber_23 : decode cX10_takesNumber 23 = .ok (.iconst 1, 1) := by decide +kernel
theorem dX10_takesNumber_24 : decode cX10_takesNumber 24 = .ok (.goto 4, 3) := by decide +kernel
theorem dX10_takesNumber_27 : decode cX10_takesNumber 27 = .ok (.iconst 0, 1) := by decide +kernel
theorem dX10_takesNumber_28 : decode cX10_takesNumber 28 = .ok (.invokevirtual 211, 3) := by decide +kernel
theorem dX10_takesNumber_31 : decode cX10_takesNumber 31 = .ok (.ifCond .eq 5, 3) := by decide +kernel
theorem dX10_takesNumber_34 : decode cX10_takesNumber 34 = .ok (.iload_n 3, 1) := by decide +kernel
theorem dX10_takesNumber_35 : decode cX10_takesNumber 35 = .ok (.ireturn, 1) := by decide +kernel
theorem dX10_takesNumber_36 : decode cX10_takesNumber 36 = .ok (.iload_n 1, 1) := by decide +kernel
theorem dX10_takesNumber_37 : decode cX10_takesNumber 37 = .ok (.ireturn, 1) := by decide +kernel
set_option maxRecDepth 20000 in
theorem ggX10_sortHere_X10_isWord : GoodIn wsX10_sortHere wsX10_isWord := goodIn_r _ [9, 10, 11, 12, 13, 14, 15, 16, 17, 18, 19, 20, 21, 22, 23, 24, 25, 26, 27, 28, 29, 30] (by decide +kernel) (by decide +kernel)
set_option maxRecDepth 20000 in
theorem gX10_sortHere_X10_isWord : GoodIn wsX10_sortHere (wsV RX10 217 RX10 yX10_isWord wsX10_isWord) := goodIn_app (goodIn_of _ (by decide +kernel)) ggX10_sortHere_X10_isWord
theorem dX10_sortHere_0 : decode cX10_sortHere 0 = .ok (.aload_n 0, 1) := by decide +kernel
theorem dX10_sortHere_1 : decode cX10_sortHere 1 = .ok (.ldc2_w 215, 3) := by decide +kernel
theorem dX10_sortHere_4 : decode cX10_sortHere 4 = .ok (.invokevirtual 217, 3) := by decide +kernel
theorem dX10_sortHere_7 : decode cX10_sortHere 7 = .ok (.ifCond .eq 5, 3) := by decide +kernel
theorem dX10_sortHere_10 : decode cX10_sortHere 10 = .ok (.iconst 0, 1) := by decide +kernel
theorem dX10_sortHere_11 : decode cX10_sortHere 11 = .ok (.ireturn, 1) := by decide +kernel
theorem dX10_sortHere_12 : decode cX10_sortHere 12 = .ok (.aload_n 0, 1) := by decide +kernel
theorem dX10_sortHere_13 : decode cX10_sortHere 13 = .ok (.ldc2_w 221, 3) := by decide +kernel
theorem dX10_sortHere_16 : decode cX10_sortHere 16 = .ok (.invokevirtual 217, 3) := by decide +kernel
theorem dX10_sortHere_19 : decode cX10_sortHere 19 = .ok (.ifCond .eq 5, 3) := by decide +kernel
theorem dX10_sortHere_22 : decode cX10_sortHere 22 = .ok (.iconst 1, 1) := by decide +kernel
theorem dX10_sortHere_23 : decode cX10_sortHere 23 = .ok (.ireturn, 1) := by decide +kernel
theorem dX10_sortHere_24 : decode cX10_sortHere 24 = .ok (.aload_n 0, 1) := by decide +kernel
theorem dX10_sortHere_25 : decode cX10_sortHere 25 = .ok (.ldc2_w 223, 3) := by decide +kernel
theorem dX10_sortHere_28 : decode cX10_sortHere 28 = .ok (.invokevirtual 217, 3) := by decide +kernel
theorem dX10_sortHere_31 : decode cX10_sortHere 31 = .ok (.ifCond .eq 5, 3) := by decide +kernel
theorem dX10_sortHere_34 : decode cX10_sortHere 34 = .ok (.iconst 2, 1) := by decide +kernel
theorem dX10_sortHere_35 : decode cX10_sortHere 35 = .ok (.ireturn, 1) := by decide +kernel
theorem dX10_sortHere_36 : decode cX10_sortHere 36 = .ok (.aload_n 0, 1) := by decide +kernel
theorem dX10_sortHere_37 : decode cX10_sortHere 37 = .ok (.ldc2_w 225, 3) := by decide +kernel
theorem dX10_sortHere_40 : decode cX10_sortHere 40 = .ok (.invokevirtual 217, 3) := by decide +kernel
theorem dX10_sortHere_43 : decode cX10_sortHere 43 = .ok (.ifCond .eq 5, 3) := by decide +kernel
theorem dX10_sortHere_46 : decode cX10_sortHere 46 = .ok (.iconst 3, 1) := by decide +kernel
theorem dX10_sortHere_47 : decode cX10_sortHere 47 = .ok (.ireturn, 1) := by decide +kernel
theorem dX10_sortHere_48 : decode cX10_sortHere 48 = .ok (.iconst (-1), 1) := by decide +kernel
theorem dX10_sortHere_49 : decode cX10_sortHere 49 = .ok (.ireturn, 1) := by decide +kernel
set_option maxRecDepth 20000 in
theorem ggX10_readCloud_X10_takes : GoodIn wsX10_readCloud wsX10_takes := goodIn_r _ [8, 9, 10, 11, 12, 13, 14, 7, 15, 16, 17, 18, 1, 19, 2, 20, 21, 22, 23, 24, 25, 26, 27, 28, 29, 30, 31, 32, 33, 34, 35, 36, 37, 41, 42, 43, 44, 45, 46, 47, 48, 49, 50, 51, 52, 53, 54, 55, 56, 57, 58, 59] (by decide +kernel) (by decide +kernel)
set_option maxRecDepth 20000 in
theorem gX10_readCloud_X10_takes : GoodIn wsX10_readCloud (wsV RX10 211 RX10 yX10_takes wsX10_takes) := goodIn_app (goodIn_of _ (by decide +kernel)) ggX10_readCloud_X10_takes
set_option maxRecDepth 20000 in
theorem ggX10_readCloud_X10_addsCloud : GoodIn wsX10_readCloud wsX10_addsCloud := goodIn_r _ [40] (by decide +kernel) (by decide +kernel)
set_option maxRecDepth 20000 in
theorem gX10_readCloud_X10_addsCloud : GoodIn wsX10_readCloud (va_wsS RX10 39 yX10_addsCloud wsX10_addsCloud) := goodIn_app (goodIn_of _ (by decide +kernel)) ggX10_readCloud_X10_addsCloud
theorem dX10_readCloud_0 : decode cX10_readCloud 0 = .ok (.aload_n 0, 1) := by decide +kernel
theorem dX10_readCloud_1 : decode cX10_readCloud 1 = .ok (.getfield 178, 3) := by decide +kernel
theorem dX10_readCloud_4 : decode cX10_readCloud 4 = .ok (.istore_n 1, 1) := by decide +kernel
theorem dX10_readCloud_5 : decode cX10_readCloud 5 = .ok (.aload_n 0, 1) := by decide +kernel
theorem dX10_readCloud_6 : decode cX10_readCloud 6 = .ok (.getfield 185, 3) := by decide +kernel
theorem dX10_readCloud_9 : decode cX10_readCloud 9 = .ok (.iconst 2, 1) := by decide +kernel
theorem dX10_readCloud_10 : decode cX10_readCloud 10 = .ok (.if_icmp .ne 24, 3) := by decide +kernel
theorem dX10_readCloud_13 : decode cX10_readCloud 13 = .ok (.iload_n 1, 1) := by decide +kernel
theorem dX10_readCloud_14 : decode cX10_readCloud 14 = .ok (.bipush 9, 2) := by decide +kernel
theorem dX10_readCloud_16 : decode cX10_readCloud 16 = .ok (.if_icmp .gt 18, 3) := by decide +kernel
theorem dX10_readCloud_19 : decode cX10_readCloud 19 = .ok (.aload_n 0, 1) := by decide +kernel
theorem dX10_readCloud_20 : decode cX10_readCloud 20 = .ok (.getfield 13, 3) := by decide +kernel
theorem dX10_readCloud_23 : decode cX10_readCloud 23 = .ok (.iconst 4, 1) := by decide +kernel
theorem dX10_readCloud_24 : decode cX10_readCloud 24 = .ok (.iaload, 1) := by decide +kernel
theorem dX10_readCloud_25 : decode cX10_readCloud 25 = .ok (.bipush 10, 2) := by decide +kernel
theorem dX10_readCloud_27 : decode cX10_readCloud 27 = .ok (.if_icmp .ge 7, 3) := by decide +kernel
theorem dX10_readCloud_30 : decode cX10_readCloud 30 = .ok (.iconst 1, 1) := by decide +kernel
theorem dX10_readCloud_31 : decode cX10_readCloud 31 = .ok (.goto 4, 3) := by decide +kernel
theorem dX10_readCloud_34 : decode cX10_readCloud 34 = .ok (.iconst 0, 1) := by decide +kernel
theorem dX10_readCloud_35 : decode cX10_readCloud 35 = .ok (.istore_n 2, 1) := by decide +kernel
theorem dX10_readCloud_36 : decode cX10_readCloud 36 = .ok (.aload_n 0, 1) := by decide +kernel
theorem dX10_readCloud_37 : decode cX10_readCloud 37 = .ok (.iload_n 2, 1) := by decide +kernel
theorem dX10_readCloud_38 : decode cX10_readCloud 38 = .ok (.invokevirtual 211, 3) := by decide +kernel
theorem dX10_readCloud_41 : decode cX10_readCloud 41 = .ok (.ifCond .eq 11, 3) := by decide +kernel
theorem dX10_readCloud_44 : decode cX10_readCloud 44 = .ok (.aload_n 0, 1) := by decide +kernel
theorem dX10_readCloud_45 : decode cX10_readCloud 45 = .ok (.getfield 13, 3) := by decide +kernel
theorem dX10_readCloud_48 : decode cX10_readCloud 48 = .ok (.iload_n 1, 1) := by decide +kernel
theorem dX10_readCloud_49 : decode cX10_readCloud 49 = .ok (.invokestatic 39, 3) := by decide +kernel
theorem dX10_readCloud_52 : decode cX10_readCloud 52 = .ok (.return_, 1) := by decide +kernel
set_option maxRecDepth 20000 in
theorem ggX10_readClerk_X10_takes : GoodIn wsX10_readClerk wsX10_takes := goodIn_r _ [7, 8, 9, 10, 11, 12, 13, 6, 14, 15, 16, 17, 18, 19, 2, 20, 21, 22, 23, 24, 25, 26, 27, 28, 29, 30, 31, 32, 33, 34, 35, 36, 37, 51, 52, 53, 54, 55, 56, 57, 58, 59, 60, 61, 62, 63, 64, 65, 66, 67, 68, 69] (by decide +kernel) (by decide +kernel)
set_option maxRecDepth 20000 in
theorem gX10_readClerk_X10_takes : GoodIn wsX10_readClerk (wsV RX10 211 RX10 yX10_takes wsX10_takes) := goodIn_app (goodIn_of _ (by decide +kernel)) ggX10_readClerk_X10_takes
set_option maxRecDepth 20000 in
theorem ggX10_readClerk_X10_takesNumber : GoodIn wsX10_readClerk wsX10_takesNumber := goodIn_r _ [41, 18, 2, 42, 43, 6, 44, 3, 4, 5, 7, 8, 9, 10, 11, 12, 13, 14, 15, 16, 17, 19, 20, 21, 22, 23, 24, 25, 26, 27, 28, 29, 30, 31, 32, 33, 34, 35, 36, 37, 51, 52, 53, 54, 55, 56, 57, 58, 59, 60, 61, 62, 63, 64, 65, 66, 67, 68, 69] (by decide +kernel) (by decide +kernel)
set_option maxRecDepth 20000 in
theorem gX10_readClerk_X10_takesNumber : GoodIn wsX10_readClerk (wsV RX10 227 RX10 yX10_takesNumber wsX10_takesNumber) := goodIn_app (goodIn_of _ (by decide +kernel)) ggX10_readClerk_X10_takesNumber
set_option maxRecDepth 20000 in
theorem ggX10_readClerk_X10_addsClerk : GoodIn wsX10_readClerk wsX10_addsClerk := goodIn_r _ [47, 48, 49, 6, 50] (by decide +kernel) (by decide +kernel)
set_option maxRecDepth 20000 in
theorem gX10_readClerk_X10_addsClerk : GoodIn wsX10_readClerk (va_wsS RX10 43 yX10_addsClerk wsX10_addsClerk) := goodIn_app (goodIn_of _ (by decide +kernel)) ggX10_readClerk_X10_addsClerk
theorem dX10_readClerk_0 : decode cX10_readClerk 0 = .ok (.aload_n 0, 1) := by decide +kernel
theorem dX10_readClerk_1 : decode cX10_readClerk 1 = .ok (.aload_n 0, 1) := by decide +kernel
theorem dX10_readClerk_2 : decode cX10_readClerk 2 = .ok (.getfield 13, 3) := by decide +kernel
theorem dX10_readClerk_5 : decode cX10_readClerk 5 = .ok (.iconst 5, 1) := by decide +kernel
theorem dX10_readClerk_6 : decode cX10_readClerk 6 = .ok (.iaload, 1) := by decide +kernel
theorem dX10_readClerk_7 : decode cX10_readClerk 7 = .ok (.iconst 5, 1) := by decide +kernel
theorem dX10_readClerk_8 : decode cX10_readClerk 8 = .ok (.if_icmp .ge 7, 3) := by decide +kernel
theorem dX10_readClerk_11 : decode cX10_readClerk 11 = .ok (.iconst 1, 1) := by decide +kernel
theorem dX10_readClerk_12 : decode cX10_readClerk 12 = .ok (.goto 4, 3) := by decide +kernel
theorem dX10_readClerk_15 : decode cX10_readClerk 15 = .ok (.iconst 0, 1) := by decide +kernel
theorem dX10_readClerk_16 : decode cX10_readClerk 16 = .ok (.invokevirtual 211, 3) := by decide +kernel
theorem dX10_readClerk_19 : decode cX10_readClerk 19 = .ok (.pop, 1) := by decide +kernel
theorem dX10_readClerk_20 : decode cX10_readClerk 20 = .ok (.aload_n 0, 1) := by decide +kernel
theorem dX10_readClerk_21 : decode cX10_readClerk 21 = .ok (.iconst 1, 1) := by decide +kernel
theorem dX10_readClerk_22 : decode cX10_readClerk 22 = .ok (.bipush 9, 2) := by decide +kernel
theorem dX10_readClerk_24 : decode cX10_readClerk 24 = .ok (.invokevirtual 227, 3) := by decide +kernel
theorem dX10_readClerk_27 : decode cX10_readClerk 27 = .ok (.istore_n 1, 1) := by decide +kernel
theorem dX10_readClerk_28 : decode cX10_readClerk 28 = .ok (.aload_n 0, 1) := by decide +kernel
theorem dX10_readClerk_29 : decode cX10_readClerk 29 = .ok (.iconst 0, 1) := by decide +kernel
theorem dX10_readClerk_30 : decode cX10_readClerk 30 = .ok (.bipush 99, 2) := by decide +kernel
theorem dX10_readClerk_32 : decode cX10_readClerk 32 = .ok (.invokevirtual 227, 3) := by decide +kernel
theorem dX10_readClerk_35 : decode cX10_readClerk 35 = .ok (.istore_n 2, 1) := by decide +kernel
theorem dX10_readClerk_36 : decode cX10_readClerk 36 = .ok (.aload_n 0, 1) := by decide +kernel
theorem dX10_readClerk_37 : decode cX10_readClerk 37 = .ok (.aload_n 0, 1) := by decide +kernel
theorem dX10_readClerk_38 : decode cX10_readClerk 38 = .ok (.getfield 185, 3) := by decide +kernel
theorem dX10_readClerk_41 : decode cX10_readClerk 41 = .ok (.iconst 3, 1) := by decide +kernel
theorem dX10_readClerk_42 : decode cX10_readClerk 42 = .ok (.if_icmp .ne 7, 3) := by decide +kernel
theorem dX10_readClerk_45 : decode cX10_readClerk 45 = .ok (.iconst 1, 1) := by decide +kernel
theorem dX10_readClerk_46 : decode cX10_readClerk 46 = .ok (.goto 4, 3) := by decide +kernel
theorem dX10_readClerk_49 : decode cX10_readClerk 49 = .ok (.iconst 0, 1) := by decide +kernel
theorem dX10_readClerk_50 : decode cX10_readClerk 50 = .ok (.invokevirtual 211, 3) := by decide +kernel
theorem dX10_readClerk_53 : decode cX10_readClerk 53 = .ok (.ifCond .eq 13, 3) := by decide +kernel
theorem dX10_readClerk_56 : decode cX10_readClerk 56 = .ok (.aload_n 0, 1) := by decide +kernel
theorem dX10_readClerk_57 : decode cX10_readClerk 57 = .ok (.getfield 13, 3) := by decide +kernel
theorem dX10_readClerk_60 : decode cX10_readClerk 60 = .ok (.iload_n 1, 1) := by decide +kernel
theorem dX10_readClerk_61 : decode cX10_readClerk 61 = .ok (.iload_n 2, 1) := by decide +kernel
theorem dX10_readClerk_62 : decode cX10_readClerk 62 = .ok (.invokestatic 43, 3) := by decide +kernel
theorem dX10_readClerk_65 : decode cX10_readClerk 65 = .ok (.pop, 1) := by decide +kernel
theorem dX10_readClerk_66 : decode cX10_readClerk 66 = .ok (.return_, 1) := by decide +kernel
set_option maxRecDepth 20000 in
theorem ggX10_readComplaint_X10_takes : GoodIn wsX10_readComplaint wsX10_takes := goodIn_r _ [7, 8, 9, 10, 11, 12, 13, 6, 14, 15, 16, 17, 18, 19, 2, 20, 21, 22, 23, 24, 25, 26, 27, 28, 29, 30, 31, 32, 33, 34, 35, 36, 37, 78, 79, 80, 81, 82, 83, 84, 85, 86, 87, 88, 89, 90, 91, 92, 93, 94, 95, 96] (by decide +kernel) (by decide +kernel)
set_option maxRecDepth 20000 in
theorem gX10_readComplaint_X10_takes : GoodIn wsX10_readComplaint (wsV RX10 211 RX10 yX10_takes wsX10_takes) := goodIn_app (goodIn_of _ (by decide +kernel)) ggX10_readComplaint_X10_takes
set_option maxRecDepth 20000 in
theorem ggX10_readComplaint_X10_takesNumber : GoodIn wsX10_readComplaint wsX10_takesNumber := goodIn_r _ [41, 18, 2, 42, 43, 6, 44, 3, 4, 5, 7, 8, 9, 10, 11, 12, 13, 14, 15, 16, 17, 19, 20, 21, 22, 23, 24, 25, 26, 27, 28, 29, 30, 31, 32, 33, 34, 35, 36, 37, 78, 79, 80, 81, 82, 83, 84, 85, 86, 87, 88, 89, 90, 91, 92, 93, 94, 95, 96] (by decide +kernel) (by decide +kernel)
set_option maxRecDepth 20000 in
theorem gX10_readComplaint_X10_takesNumber : GoodIn wsX10_readComplaint (wsV RX10 227 RX10 yX10_takesNumber wsX10_takesNumber) := goodIn_app (goodIn_of _ (by decide +kernel)) ggX10_readComplaint_X10_takesNumber
set_option maxRecDepth 20000 in
theorem ggX10_readComplaint_X10_sortHere : GoodIn wsX10_readComplaint wsX10_sortHere := goodIn_r _ [48, 49, 50, 51, 52, 53, 54, 55, 6, 56, 2, 19, 78, 79, 80, 81, 82, 83, 84, 85, 86, 87, 88, 89, 90, 91, 92, 93, 94, 95, 96] (by decide +kernel) (by decide +kernel)
set_option maxRecDepth 20000 in
theorem gX10_readComplaint_X10_sortHere : GoodIn wsX10_readComplaint (wsV RX10 230 RX10 yX10_sortHere wsX10_sortHere) := goodIn_app (goodIn_of _ (by decide +kernel)) ggX10_readComplaint_X10_sortHere
set_option maxRecDepth 20000 in
theorem ggX10_readComplaint_X10_waitingBy : GoodIn wsX10_readComplaint wsX10_waitingBy := goodIn_r _ [59, 60, 61, 6, 62, 63, 64, 65, 66, 67, 68, 69, 70, 71, 72, 73, 74] (by decide +kernel) (by decide +kernel)
set_option maxRecDepth 20000 in
theorem gX10_readComplaint_X10_waitingBy : GoodIn wsX10_readComplaint (va_wsS RX10 234 yX10_waitingBy wsX10_waitingBy) := goodIn_app (goodIn_of _ (by decide +kernel)) ggX10_readComplaint_X10_waitingBy
set_option maxRecDepth 20000 in
theorem ggX10_readComplaint_X10_files : GoodIn wsX10_readComplaint wsX10_files := goodIn_r _ [77, 66, 67, 6, 68] (by decide +kernel) (by decide +kernel)
set_option maxRecDepth 20000 in
theorem gX10_readComplaint_X10_files : GoodIn wsX10_readComplaint (va_wsS RX10 47 yX10_files wsX10_files) := goodIn_app (goodIn_of _ (by decide +kernel)) ggX10_readComplaint_X10_files
theorem dX10_readComplaint_0 : decode cX10_readComplaint 0 = .ok (.aload_n 0, 1) := by decide +kernel
theorem dX10_readComplaint_1 : decode cX10_readComplaint 1 = .ok (.aload_n 0, 1) := by decide +kernel
theorem dX10_readComplaint_2 : decode cX10_readComplaint 2 = .ok (.getfield 13, 3) := by decide +kernel
theorem dX10_readComplaint_5 : decode cX10_readComplaint 5 = .ok (.bipush 6, 2) := by decide +kernel
theorem dX10_readComplaint_7 : decode cX10_readComplaint 7 = .ok (.iaload, 1) := by decide +kernel
theorem dX10_readComplaint_8 : decode cX10_readComplaint 8 = .ok (.bipush 24, 2) := by decide +kernel
theorem dX10_readComplaint_10 : decode cX10_readComplaint 10 = .ok (.if_icmp .ge 7, 3) := by decide +kernel
theorem dX10_readComplaint_13 : decode cX10_readComplaint 13 = .ok (.iconst 1, 1) := by decide +kernel
theorem dX10_readComplaint_14 : decode cX10_readComplaint 14 = .ok (.goto 4, 3) := by decide +kernel
theorem dX10_readComplaint_17 : decode cX10_readComplaint 17 = .ok (.iconst 0, 1) := by decide +kernel
theorem dX10_readComplaint_18 : decode cX10_readComplaint 18 = .ok (.invokevirtual 211, 3) := by decide +kernel
theorem dX10_readComplaint_21 : decode cX10_readComplaint 21 = .ok (.pop, 1) := by decide +kernel
theorem dX10_readComplaint_22 : decode cX10_readComplaint 22 = .ok (.aload_n 0, 1) := by decide +kernel
theorem dX10_readComplaint_23 : decode cX10_readComplaint 23 = .ok (.iconst 0, 1) := by decide +kernel
theorem dX10_readComplaint_24 : decode cX10_readComplaint 24 = .ok (.bipush 99, 2) := by decide +kernel
theorem dX10_readComplaint_26 : decode cX10_readComplaint 26 = .ok (.invokevirtual 227, 3) := by decide +kernel
theorem dX10_readComplaint_29 : decode cX10_readComplaint 29 = .ok (.istore_n 1, 1) := by decide +kernel
theorem dX10_readComplaint_30 : decode cX10_readComplaint 30 = .ok (.aload_n 0, 1) := by decide +kernel
theorem dX10_readComplaint_31 : decode cX10_readComplaint 31 = .ok (.invokevirtual 230, 3) := by decide +kernel
theorem dX10_readComplaint_34 : decode cX10_readComplaint 34 = .ok (.istore_n 2, 1) := by decide +kernel
theorem dX10_readComplaint_35 : decode cX10_readComplaint 35 = .ok (.aload_n 0, 1) := by decide +kernel
theorem dX10_readComplaint_36 : decode cX10_readComplaint 36 = .ok (.iload_n 2, 1) := by decide +kernel
theorem dX10_readComplaint_37 : decode cX10_readComplaint 37 = .ok (.ifCond .lt 19, 3) := by decide +kernel
theorem dX10_readComplaint_40 : decode cX10_readComplaint 40 = .ok (.aload_n 0, 1) := by decide +kernel
theorem dX10_readComplaint_41 : decode cX10_readComplaint 41 = .ok (.getfield 13, 3) := by decide +kernel
theorem dX10_readComplaint_44 : decode cX10_readComplaint 44 = .ok (.iload_n 1, 1) := by decide +kernel
theorem dX10_readComplaint_45 : decode cX10_readComplaint 45 = .ok (.iload_n 2, 1) := by decide +kernel
theorem dX10_readComplaint_46 : decode cX10_readComplaint 46 = .ok (.invokestatic 234, 3) := by decide +kernel
theorem dX10_readComplaint_49 : decode cX10_readComplaint 49 = .ok (.ifCond .ge 7, 3) := by decide +kernel
theorem dX10_readComplaint_52 : decode cX10_readComplaint 52 = .ok (.iconst 1, 1) := by decide +kernel
theorem dX10_readComplaint_53 : decode cX10_readComplaint 53 = .ok (.goto 4, 3) := by decide +kernel
theorem dX10_readComplaint_56 : decode cX10_readComplaint 56 = .ok (.iconst 0, 1) := by decide +kernel
theorem dX10_readComplaint_57 : decode cX10_readComplaint 57 = .ok (.invokevirtual 211, 3) := by decide +kernel
theorem dX10_readComplaint_60 : decode cX10_readComplaint 60 = .ok (.pop, 1) := by decide +kernel
theorem dX10_readComplaint_61 : decode cX10_readComplaint 61 = .ok (.aload_n 0, 1) := by decide +kernel
theorem dX10_readComplaint_62 : decode cX10_readComplaint 62 = .ok (.iconst 1, 1) := by decide +kernel
theorem dX10_readComplaint_63 : decode cX10_readComplaint 63 = .ok (.bipush 9, 2) := by decide +kernel
theorem dX10_readComplaint_65 : decode cX10_readComplaint 65 = .ok (.invokevirtual 227, 3) := by decide +kernel
theorem dX10_readComplaint_68 : decode cX10_readComplaint 68 = .ok (.istore_n 3, 1) := by decide +kernel
theorem dX10_readComplaint_69 : decode cX10_readComplaint 69 = .ok (.aload_n 0, 1) := by decide +kernel
theorem dX10_readComplaint_70 : decode cX10_readComplaint 70 = .ok (.aload_n 0, 1) := by decide +kernel
theorem dX10_readComplaint_71 : decode cX10_readComplaint 71 = .ok (.getfield 185, 3) := by decide +kernel
theorem dX10_readComplaint_74 : decode cX10_readComplaint 74 = .ok (.iconst 3, 1) := by decide +kernel
theorem dX10_readComplaint_75 : decode cX10_readComplaint 75 = .ok (.if_icmp .ne 7, 3) := by decide +kernel
theorem dX10_readComplaint_78 : decode cX10_readComplaint 78 = .ok (.iconst 1, 1) := by decide +kernel
theorem dX10_readComplaint_79 : decode cX10_readComplaint 79 = .ok (.goto 4, 3) := by decide +kernel
theorem dX10_readComplaint_82 : decode cX10_readComplaint 82 = .ok (.iconst 0, 1) := by decide +kernel
theorem dX10_readComplaint_83 : decode cX10_readComplaint 83 = .ok (.invokevirtual 211, 3) := by decide +kernel
theorem dX10_readComplaint_86 : decode cX10_readComplaint 86 = .ok (.ifCond .eq 14, 3) := by decide +kernel
theorem dX10_readComplaint_89 : decode cX10_readComplaint 89 = .ok (.aload_n 0, 1) := by decide +kernel
theorem dX10_readComplaint_90 : decode cX10_readComplaint 90 = .ok (.getfield 13, 3) := by decide +kernel
theorem dX10_readComplaint_93 : decode cX10_readComplaint 93 = .ok (.iload_n 1, 1) := by decide +kernel
theorem dX10_readComplaint_94 : decode cX10_readComplaint 94 = .ok (.iload_n 2, 1) := by decide +kernel
theorem dX10_readComplaint_95 : decode cX10_readComplaint 95 = .ok (.iload_n 3, 1) := by decide +kernel
theorem dX10_readComplaint_96 : decode cX10_readComplaint 96 = .ok (.invokestatic 47, 3) := by decide +kernel
theorem dX10_readComplaint_99 : decode cX10_readComplaint 99 = .ok (.pop, 1) := by decide +kernel
theorem dX10_readComplaint_100 : decode cX10_readComplaint 100 = .ok (.return_, 1) := by decide +kernel
set_option maxRecDepth 20000 in
theorem ggX10_readText_X10_isWord : GoodIn wsX10_readText wsX10_isWord := goodIn_r _ [12, 3, 13, 103, 104, 105, 106, 107, 108, 109, 110, 111, 112, 113, 114, 115, 116, 117, 118, 119, 120, 121] (by decide +kernel) (by decide +kernel)
set_option maxRecDepth 20000 in
theorem gX10_readText_X10_isWord : GoodIn wsX10_readText (wsV RX10 217 RX10 yX10_isWord wsX10_isWord) := goodIn_app (goodIn_of _ (by decide +kernel)) ggX10_readText_X10_isWord
set_option maxRecDepth 20000 in
theorem ggX10_readText_X10_takes : GoodIn wsX10_readText wsX10_takes := goodIn_r _ [17, 5, 18, 19, 20, 21, 22, 11, 23, 24, 25, 26, 27, 13, 3, 28, 29, 30, 31, 32, 33, 34, 35, 36, 37, 38, 39, 40, 41, 42, 43, 44, 45, 103, 104, 105, 106, 107, 108, 109, 110, 111, 112, 113, 114, 115, 116, 117, 118, 119, 120, 121] (by decide +kernel) (by decide +kernel)
set_option maxRecDepth 20000 in
theorem gX10_readText_X10_takes : GoodIn wsX10_readText (wsV RX10 211 RX10 yX10_takes wsX10_takes) := goodIn_app (goodIn_of _ (by decide +kernel)) ggX10_readText_X10_takes
set_option maxRecDepth 20000 in
theorem ggX10_readText_X10_takesNumber : GoodIn wsX10_readText wsX10_takesNumber := goodIn_r _ [49, 27, 3, 50, 51, 11, 52, 14, 15, 16, 17, 5, 18, 19, 20, 21, 22, 23, 24, 25, 26, 13, 28, 29, 30, 31, 32, 33, 34, 35, 36, 37, 38, 39, 40, 41, 42, 43, 44, 45, 103, 104, 105, 106, 107, 108, 109, 110, 111, 112, 113, 114, 115, 116, 117, 118, 119, 120, 121] (by decide +kernel) (by decide +kernel)
set_option maxRecDepth 20000 in
theorem gX10_readText_X10_takesNumber : GoodIn wsX10_readText (wsV RX10 227 RX10 yX10_takesNumber wsX10_takesNumber) := goodIn_app (goodIn_of _ (by decide +kernel)) ggX10_readText_X10_takesNumber
set_option maxRecDepth 20000 in
theorem ggX10_readText_X10_readCloud : GoodIn wsX10_readText wsX10_readCloud := goodIn_r _ [56, 27, 3, 2, 14, 15, 16, 11, 17, 5, 18, 19, 20, 21, 22, 23, 24, 25, 26, 13, 28, 29, 30, 31, 32, 33, 34, 35, 36, 37, 38, 39, 40, 41, 42, 43, 44, 45, 57, 58, 59, 103, 104, 105, 106, 107, 108, 109, 110, 111, 112, 113, 114, 115, 116, 117, 118, 119, 120, 121] (by decide +kernel) (by decide +kernel)
set_option maxRecDepth 20000 in
theorem gX10_readText_X10_readCloud : GoodIn wsX10_readText (wsV RX10 241 RX10 yX10_readCloud wsX10_readCloud) := goodIn_app (goodIn_of _ (by decide +kernel)) ggX10_readText_X10_readCloud
set_option maxRecDepth 20000 in
theorem ggX10_readText_X10_readClerk : GoodIn wsX10_readText wsX10_readClerk := goodIn_r _ [63, 2, 3, 14, 15, 16, 11, 17, 5, 18, 19, 20, 21, 22, 23, 24, 25, 26, 27, 13, 28, 29, 30, 31, 32, 33, 34, 35, 36, 37, 38, 39, 40, 41, 42, 43, 44, 45, 46, 47, 48, 49, 50, 51, 52, 64, 65, 66, 67, 68, 69, 103, 104, 105, 106, 107, 108, 109, 110, 111, 112, 113, 114, 115, 116, 117, 118, 119, 120, 121] (by decide +kernel) (by decide +kernel)
set_option maxRecDepth 20000 in
theorem gX10_readText_X10_readClerk : GoodIn wsX10_readText (wsV RX10 246 RX10 yX10_readClerk wsX10_readClerk) := goodIn_app (goodIn_of _ (by decide +kernel)) ggX10_readText_X10_readClerk
set_option maxRecDepth 20000 in
theorem ggX10_readText_X10_readComplaint : GoodIn wsX10_readText wsX10_readComplaint := goodIn_r _ [73, 2, 3, 14, 15, 16, 11, 17, 5, 18, 19, 20, 21, 22, 23, 24, 25, 26, 27, 13, 28, 29, 30, 31, 32, 33, 34, 35, 36, 37, 38, 39, 40, 41, 42, 43, 44, 45, 46, 47, 48, 49, 50, 51, 52, 74, 75, 76, 77, 78, 79, 80, 81, 8, 9, 10, 12, 82, 83, 84, 85, 86, 87, 88, 89, 90, 91, 92, 93, 94, 95, 96, 97, 98, 99, 100, 101, 102, 103, 104, 105, 106, 107, 108, 109, 110, 111, 112, 113, 114, 115, 116, 117, 118, 119, 120, 121] (by decide +kernel) (by decide +kernel)
set_option maxRecDepth 20000 in
theorem gX10_readText_X10_readComplaint : GoodIn wsX10_readText (wsV RX10 251 RX10 yX10_readComplaint wsX10_readComplaint) := goodIn_app (goodIn_of _ (by decide +kernel)) ggX10_readText_X10_readComplaint
theorem dX10_readText_0 : decode cX10_readText 0 = .ok (.aload_n 0, 1) := by decide +kernel
theorem dX10_readText_1 : decode cX10_readText 1 = .ok (.aload_n 0, 1) := by decide +kernel
theorem dX10_readText_2 : decode cX10_readText 2 = .ok (.ldc2_w 237, 3) := by decide +kernel
theorem dX10_readText_5 : decode cX10_readText 5 = .ok (.invokevirtual 217, 3) := by decide +kernel
theorem dX10_readText_8 : decode cX10_readText 8 = .ok (.invokevirtual 211, 3) := by decide +kernel
theorem dX10_readText_11 : decode cX10_readText 11 = .ok (.pop, 1) := by decide +kernel
theorem dX10_readText_12 : decode cX10_readText 12 = .ok (.aload_n 0, 1) := by decide +kernel
theorem dX10_readText_13 : decode cX10_readText 13 = .ok (.getfield 13, 3) := by decide +kernel
theorem dX10_readText_16 : decode cX10_readText 16 = .ok (.iconst 1, 1) := by decide +kernel
theorem dX10_readText_17 : decode cX10_readText 17 = .ok (.aload_n 0, 1) := by decide +kernel
theorem dX10_readText_18 : decode cX10_readText 18 = .ok (.iconst 1, 1) := by decide +kernel
theorem dX10_readText_19 : decode cX10_readText 19 = .ok (.bipush 14, 2) := by decide +kernel
theorem dX10_readText_21 : decode cX10_readText 21 = .ok (.invokevirtual 227, 3) := by decide +kernel
theorem dX10_readText_24 : decode cX10_readText 24 = .ok (.iastore, 1) := by decide +kernel
theorem dX10_readText_25 : decode cX10_readText 25 = .ok (.aload_n 0, 1) := by decide +kernel
theorem dX10_readText_26 : decode cX10_readText 26 = .ok (.getfield 13, 3) := by decide +kernel
theorem dX10_readText_29 : decode cX10_readText 29 = .ok (.iconst 2, 1) := by decide +kernel
theorem dX10_readText_30 : decode cX10_readText 30 = .ok (.aload_n 0, 1) := by decide +kernel
theorem dX10_readText_31 : decode cX10_readText 31 = .ok (.iconst 0, 1) := by decide +kernel
theorem dX10_readText_32 : decode cX10_readText 32 = .ok (.bipush 13, 2) := by decide +kernel
theorem dX10_readText_34 : decode cX10_readText 34 = .ok (.invokevirtual 227, 3) := by decide +kernel
theorem dX10_readText_37 : decode cX10_readText 37 = .ok (.iastore, 1) := by decide +kernel
theorem dX10_readText_38 : decode cX10_readText 38 = .ok (.aload_n 0, 1) := by decide +kernel
theorem dX10_readText_39 : decode cX10_readText 39 = .ok (.getfield 13, 3) := by decide +kernel
theorem dX10_readText_42 : decode cX10_readText 42 = .ok (.iconst 3, 1) := by decide +kernel
theorem dX10_readText_43 : decode cX10_readText 43 = .ok (.aload_n 0, 1) := by decide +kernel
theorem dX10_readText_44 : decode cX10_readText 44 = .ok (.iconst 0, 1) := by decide +kernel
theorem dX10_readText_45 : decode cX10_readText 45 = .ok (.bipush 7, 2) := by decide +kernel
theorem dX10_readText_47 : decode cX10_readText 47 = .ok (.invokevirtual 227, 3) := by decide +kernel
theorem dX10_readText_50 : decode cX10_readText 50 = .ok (.iastore, 1) := by decide +kernel
theorem dX10_readText_51 : decode cX10_readText 51 = .ok (.aload_n 0, 1) := by decide +kernel
theorem dX10_readText_52 : decode cX10_readText 52 = .ok (.aload_n 0, 1) := by decide +kernel
theorem dX10_readText_53 : decode cX10_readText 53 = .ok (.getfield 185, 3) := by decide +kernel
theorem dX10_readText_56 : decode cX10_readText 56 = .ok (.iconst 3, 1) := by decide +kernel
theorem dX10_readText_57 : decode cX10_readText 57 = .ok (.if_icmp .ne 7, 3) := by decide +kernel
theorem dX10_readText_60 : decode cX10_readText 60 = .ok (.iconst 1, 1) := by decide +kernel
theorem dX10_readText_61 : decode cX10_readText 61 = .ok (.goto 4, 3) := by decide +kernel
theorem dX10_readText_64 : decode cX10_readText 64 = .ok (.iconst 0, 1) := by decide +kernel
theorem dX10_readText_65 : decode cX10_readText 65 = .ok (.invokevirtual 211, 3) := by decide +kernel
theorem dX10_readText_68 : decode cX10_readText 68 = .ok (.pop, 1) := by decide +kernel
theorem dX10_readText_69 : decode cX10_readText 69 = .ok (.aload_n 0, 1) := by decide +kernel
theorem dX10_readText_70 : decode cX10_readText 70 = .ok (.aload_n 0, 1) := by decide +kernel
theorem dX10_readText_71 : decode cX10_readText 71 = .ok (.ldc2_w 239, 3) := by decide +kernel
theorem dX10_readText_74 : decode cX10_readText 74 = .ok (.invokevirtual 217, 3) := by decide +kernel
theorem dX10_readText_77 : decode cX10_readText 77 = .ok (.invokevirtual 211, 3) := by decide +kernel
theorem dX10_readText_80 : decode cX10_readText 80 = .ok (.pop, 1) := by decide +kernel
theorem dX10_readText_81 : decode cX10_readText 81 = .ok (.aload_n 0, 1) := by decide +kernel
theorem dX10_readText_82 : decode cX10_readText 82 = .ok (.invokevirtual 241, 3) := by decide +kernel
theorem dX10_readText_85 : decode cX10_readText 85 = .ok (.aload_n 0, 1) := by decide +kernel
theorem dX10_readText_86 : decode cX10_readText 86 = .ok (.getfield 204, 3) := by decide +kernel
theorem dX10_readText_89 : decode cX10_readText 89 = .ok (.ifCond .ne 18, 3) := by decide +kernel
theorem dX10_readText_92 : decode cX10_readText 92 = .ok (.aload_n 0, 1) := by decide +kernel
theorem dX10_readText_93 : decode cX10_readText 93 = .ok (.getfield 185, 3) := by decide +kernel
theorem dX10_readText_96 : decode cX10_readText 96 = .ok (.iconst 2, 1) := by decide +kernel
theorem dX10_readText_97 : decode cX10_readText 97 = .ok (.if_icmp .ne 10, 3) := by decide +kernel
theorem dX10_readText_100 : decode cX10_readText 100 = .ok (.aload_n 0, 1) := by decide +kernel
theorem dX10_readText_101 : decode cX10_readText 101 = .ok (.invokevirtual 241, 3) := by decide +kernel
theorem dX10_readText_104 : decode cX10_readText 104 = .ok (.goto (-19), 3) := by decide +kernel
theorem dX10_readText_107 : decode cX10_readText 107 = .ok (.aload_n 0, 1) := by decide +kernel
theorem dX10_readText_108 : decode cX10_readText 108 = .ok (.aload_n 0, 1) := by decide +kernel
theorem dX10_readText_109 : decode cX10_readText 109 = .ok (.getfield 185, 3) := by decide +kernel
theorem dX10_readText_112 : decode cX10_readText 112 = .ok (.iconst 3, 1) := by decide +kernel
theorem dX10_readText_113 : decode cX10_readText 113 = .ok (.if_icmp .ne 7, 3) := by decide +kernel
theorem dX10_readText_116 : decode cX10_readText 116 = .ok (.iconst 1, 1) := by decide +kernel
theorem dX10_readText_117 : decode cX10_readText 117 = .ok (.goto 4, 3) := by decide +kernel
theorem dX10_readText_120 : decode cX10_readText 120 = .ok (.iconst 0, 1) := by decide +kernel
theorem dX10_readText_121 : decode cX10_readText 121 = .ok (.invokevirtual 211, 3) := by decide +kernel
theorem dX10_readText_124 : decode cX10_readText 124 = .ok (.pop, 1) := by decide +kernel
theorem dX10_readText_125 : decode cX10_readText 125 = .ok (.aload_n 0, 1) := by decide +kernel
theorem dX10_readText_126 : decode cX10_readText 126 = .ok (.getfield 204, 3) := by decide +kernel
theorem dX10_readText_129 : decode cX10_readText 129 = .ok (.ifCond .ne 20, 3) := by decide +kernel
theorem dX10_readText_132 : decode cX10_readText 132 = .ok (.aload_n 0, 1) := by decide +kernel
theorem dX10_readText_133 : decode cX10_readText 133 = .ok (.ldc2_w 244, 3) := by decide +kernel
theorem dX10_readText_136 : decode cX10_readText 136 = .ok (.invokevirtual 217, 3) := by decide +kernel
theorem dX10_readText_139 : decode cX10_readText 139 = .ok (.ifCond .eq 10, 3) := by decide +kernel
theorem dX10_readText_142 : decode cX10_readText 142 = .ok (.aload_n 0, 1) := by decide +kernel
theorem dX10_readText_143 : decode cX10_readText 143 = .ok (.invokevirtual 246, 3) := by decide +kernel
theorem dX10_readText_146 : decode cX10_readText 146 = .ok (.goto (-21), 3) := by decide +kernel
theorem dX10_readText_149 : decode cX10_readText 149 = .ok (.aload_n 0, 1) := by decide +kernel
theorem dX10_readText_150 : decode cX10_readText 150 = .ok (.getfield 204, 3) := by decide +kernel
theorem dX10_readText_153 : decode cX10_readText 153 = .ok (.ifCond .ne 20, 3) := by decide +kernel
theorem dX10_readText_156 : decode cX10_readText 156 = .ok (.aload_n 0, 1) := by decide +kernel
theorem dX10_readText_157 : decode cX10_readText 157 = .ok (.ldc2_w 249, 3) := by decide +kernel
theorem dX10_readText_160 : decode cX10_readText 160 = .ok (.invokevirtual 217, 3) := by decide +kernel
theorem dX10_readText_163 : decode cX10_readText 163 = .ok (.ifCond .eq 10, 3) := by decide +kernel
theorem dX10_readText_166 : decode cX10_readText 166 = .ok (.aload_n 0, 1) := by decide +kernel
theorem dX10_readText_167 : decode cX10_readText 167 = .ok (.invokevirtual 251, 3) := by decide +kernel
theorem dX10_readText_170 : decode cX10_readText 170 = .ok (.goto (-21), 3) := by decide +kernel
theorem dX10_readText_173 : decode cX10_readText 173 = .ok (.aload_n 0, 1) := by decide +kernel
theorem dX10_readText_174 : decode cX10_readText 174 = .ok (.getfield 204, 3) := by decide +kernel
theorem dX10_readText_177 : decode cX10_readText 177 = .ok (.ifCond .ne 16, 3) := by decide +kernel
theorem dX10_readText_180 : decode cX10_readText 180 = .ok (.aload_n 0, 1) := by decide +kernel
theorem dX10_readText_181 : decode cX10_readText 181 = .ok (.getfield 185, 3) := by decide +kernel
theorem dX10_readText_184 : decode cX10_readText 184 = .ok (.ifCond .eq 9, 3) := by decide +kernel
theorem dX10_readText_187 : decode cX10_readText 187 = .ok (.aload_n 0, 1) := by decide +kernel
theorem dX10_readText_188 : decode cX10_readText 188 = .ok (.iconst 0, 1) := by decide +kernel
theorem dX10_readText_189 : decode cX10_readText 189 = .ok (.invokevirtual 211, 3) := by decide +kernel
theorem dX10_readText_192 : decode cX10_readText 192 = .ok (.pop, 1) := by decide +kernel
theorem dX10_readText_193 : decode cX10_readText 193 = .ok (.return_, 1) := by decide +kernel
set_option maxRecDepth 20000 in
theorem ggX10_load_X10_next : GoodIn wsX10_load wsX10_next := goodIn_r _ [14, 3, 6, 15, 16, 17, 18, 19, 20, 21, 22, 13, 23, 24, 25, 26, 27, 28, 29, 30, 31, 32, 33, 34, 35, 36, 37, 118, 119, 120, 121, 122, 123, 124, 125, 126, 127, 128, 129, 130, 131, 132, 133, 134, 135, 136] (by decide +kernel) (by decide +kernel)
set_option maxRecDepth 20000 in
theorem gX10_load_X10_next : GoodIn wsX10_load (wsV RX10 208 RX10 yX10_next wsX10_next) := goodIn_app (goodIn_of _ (by decide +kernel)) ggX10_load_X10_next
set_option maxRecDepth 20000 in
theorem ggX10_load_X10_readText : GoodIn wsX10_load wsX10_readText := goodIn_r _ [41, 42, 2, 19, 43, 4, 44, 45, 46, 47, 48, 13, 49, 18, 50, 51, 52, 53, 16, 5, 10, 11, 12, 14, 3, 6, 15, 17, 20, 21, 22, 23, 24, 25, 26, 27, 28, 29, 30, 31, 32, 33, 34, 35, 36, 37, 54, 55, 56, 57, 58, 59, 60, 61, 62, 63, 64, 65, 66, 67, 68, 69, 70, 71, 72, 73, 74, 75, 76, 77, 78, 79, 80, 81, 82, 83, 84, 85, 86, 87, 88, 89, 90, 91, 92, 93, 94, 95, 96, 97, 98, 99, 100, 101, 102, 103, 104, 105, 106, 107, 108, 109, 110, 118, 119, 120, 121, 122, 123, 124, 125, 126, 127, 128, 129, 130, 131, 132, 133, 134, 135, 136] (by decide +kernel) (by decide +kernel)
set_option maxRecDepth 20000 in
theorem gX10_load_X10_readText : GoodIn wsX10_load (wsV RX10 254 RX10 yX10_readText wsX10_readText) := goodIn_app (goodIn_of _ (by decide +kernel)) ggX10_load_X10_readText
set_option maxRecDepth 20000 in
theorem ggX10_load_X10_fails : GoodIn wsX10_load wsX10_fails := goodIn_r _ [114, 1, 118, 119, 120, 121, 122, 123, 124, 125, 126, 127, 128, 129, 130, 131, 132, 133, 134, 135, 136] (by decide +kernel) (by decide +kernel)
set_option maxRecDepth 20000 in
theorem gX10_load_X10_fails : GoodIn wsX10_load (wsV RX10 169 RX10 yX10_fails wsX10_fails) := goodIn_app (goodIn_of _ (by decide +kernel)) ggX10_load_X10_fails
set_option maxRecDepth 20000 in
theorem ggX10_load_X10_layRow : GoodIn wsX10_load wsX10_layRow := goodIn_r _ [117] (by decide +kernel) (by decide +kernel)
set_option maxRecDepth 20000 in
theorem gX10_load_X10_layRow : GoodIn wsX10_load (va_wsS RX10 54 yX10_layRow wsX10_layRow) := goodIn_app (goodIn_of _ (by decide +kernel)) ggX10_load_X10_layRow
theorem dX10_load_0 : decode cX10_load 0 = .ok (.aload_n 0, 1) := by decide +kernel
theorem dX10_load_1 : decode cX10_load 1 = .ok (.iconst 0, 1) := by decide +kernel
theorem dX10_load_2 : decode cX10_load 2 = .ok (.putfield 51, 3) := by decide +kernel
theorem dX10_load_5 : decode cX10_load 5 = .ok (.iconst 0, 1) := by decide +kernel
theorem dX10_load_6 : decode cX10_load 6 = .ok (.istore_n 1, 1) := by decide +kernel
theorem dX10_load_7 : decode cX10_load 7 = .ok (.iload_n 1, 1) := by decide +kernel
theorem dX10_load_8 : decode cX10_load 8 = .ok (.sipush 202, 3) := by decide +kernel
theorem dX10_load_11 : decode cX10_load 11 = .ok (.if_icmp .ge 16, 3) := by decide +kernel
theorem dX10_load_14 : decode cX10_load 14 = .ok (.aload_n 0, 1) := by decide +kernel
theorem dX10_load_15 : decode cX10_load 15 = .ok (.getfield 13, 3) := by decide +kernel
theorem dX10_load_18 : decode cX10_load 18 = .ok (.iload_n 1, 1) := by decide +kernel
theorem dX10_load_19 : decode cX10_load 19 = .ok (.iconst 0, 1) := by decide +kernel
theorem dX10_load_20 : decode cX10_load 20 = .ok (.iastore, 1) := by decide +kernel
theorem dX10_load_21 : decode cX10_load 21 = .ok (.iinc 1 1, 3) := by decide +kernel
theorem dX10_load_24 : decode cX10_load 24 = .ok (.goto (-17), 3) := by decide +kernel
theorem dX10_load_27 : decode cX10_load 27 = .ok (.aload_n 0, 1) := by decide +kernel
theorem dX10_load_28 : decode cX10_load 28 = .ok (.iconst 0, 1) := by decide +kernel
theorem dX10_load_29 : decode cX10_load 29 = .ok (.putfield 172, 3) := by decide +kernel
theorem dX10_load_32 : decode cX10_load 32 = .ok (.aload_n 0, 1) := by decide +kernel
theorem dX10_load_33 : decode cX10_load 33 = .ok (.iconst 0, 1) := by decide +kernel
theorem dX10_load_34 : decode cX10_load 34 = .ok (.putfield 204, 3) := by decide +kernel
theorem dX10_load_37 : decode cX10_load 37 = .ok (.aload_n 0, 1) := by decide +kernel
theorem dX10_load_38 : decode cX10_load 38 = .ok (.iconst (-1), 1) := by decide +kernel
theorem dX10_load_39 : decode cX10_load 39 = .ok (.putfield 32, 3) := by decide +kernel
theorem dX10_load_42 : decode cX10_load 42 = .ok (.aload_n 0, 1) := by decide +kernel
theorem dX10_load_43 : decode cX10_load 43 = .ok (.invokevirtual 208, 3) := by decide +kernel
theorem dX10_load_46 : decode cX10_load 46 = .ok (.aload_n 0, 1) := by decide +kernel
theorem dX10_load_47 : decode cX10_load 47 = .ok (.invokevirtual 254, 3) := by decide +kernel
theorem dX10_load_50 : decode cX10_load 50 = .ok (.aload_n 0, 1) := by decide +kernel
theorem dX10_load_51 : decode cX10_load 51 = .ok (.iconst 0, 1) := by decide +kernel
theorem dX10_load_52 : decode cX10_load 52 = .ok (.putfield 166, 3) := by decide +kernel
theorem dX10_load_55 : decode cX10_load 55 = .ok (.aload_n 0, 1) := by decide +kernel
theorem dX10_load_56 : decode cX10_load 56 = .ok (.getfield 204, 3) := by decide +kernel
theorem dX10_load_59 : decode cX10_load 59 = .ok (.ifCond .eq 9, 3) := by decide +kernel
theorem dX10_load_62 : decode cX10_load 62 = .ok (.aload_n 0, 1) := by decide +kernel
theorem dX10_load_63 : decode cX10_load 63 = .ok (.iconst 1, 1) := by decide +kernel
theorem dX10_load_64 : decode cX10_load 64 = .ok (.invokevirtual 169, 3) := by decide +kernel
theorem dX10_load_67 : decode cX10_load 67 = .ok (.ireturn, 1) := by decide +kernel
theorem dX10_load_68 : decode cX10_load 68 = .ok (.aload_n 0, 1) := by decide +kernel
theorem dX10_load_69 : decode cX10_load 69 = .ok (.getfield 13, 3) := by decide +kernel
theorem dX10_load_72 : decode cX10_load 72 = .ok (.iconst 0, 1) := by decide +kernel
theorem dX10_load_73 : decode cX10_load 73 = .ok (.aload_n 0, 1) := by decide +kernel
theorem dX10_load_74 : decode cX10_load 74 = .ok (.getfield 7, 3) := by decide +kernel
theorem dX10_load_77 : decode cX10_load 77 = .ok (.iconst 0, 1) := by decide +kernel
theorem dX10_load_78 : decode cX10_load 78 = .ok (.invokestatic 54, 3) := by decide +kernel
theorem dX10_load_81 : decode cX10_load 81 = .ok (.aload_n 0, 1) := by decide +kernel
theorem dX10_load_82 : decode cX10_load 82 = .ok (.iconst 0, 1) := by decide +kernel
theorem dX10_load_83 : decode cX10_load 83 = .ok (.putfield 257, 3) := by decide +kernel
theorem dX10_load_86 : decode cX10_load 86 = .ok (.iconst 0, 1) := by decide +kernel
theorem dX10_load_87 : decode cX10_load 87 = .ok (.istore_n 1, 1) := by decide +kernel
theorem dX10_load_88 : decode cX10_load 88 = .ok (.iload_n 1, 1) := by decide +kernel
theorem dX10_load_89 : decode cX10_load 89 = .ok (.iconst 2, 1) := by decide +kernel
theorem dX10_load_90 : decode cX10_load 90 = .ok (.if_icmp .ge 16, 3) := by decide +kernel
theorem dX10_load_93 : decode cX10_load 93 = .ok (.aload_n 0, 1) := by decide +kernel
theorem dX10_load_94 : decode cX10_load 94 = .ok (.getfield 25, 3) := by decide +kernel
theorem dX10_load_97 : decode cX10_load 97 = .ok (.iload_n 1, 1) := by decide +kernel
theorem dX10_load_98 : decode cX10_load 98 = .ok (.iconst 0, 1) := by decide +kernel
theorem dX10_load_99 : decode cX10_load 99 = .ok (.bastore, 1) := by decide +kernel
theorem dX10_load_100 : decode cX10_load 100 = .ok (.iinc 1 1, 3) := by decide +kernel
theorem dX10_load_103 : decode cX10_load 103 = .ok (.goto (-15), 3) := by decide +kernel
theorem dX10_load_106 : decode cX10_load 106 = .ok (.aload_n 0, 1) := by decide +kernel
theorem dX10_load_107 : decode cX10_load 107 = .ok (.getfield 7, 3) := by decide +kernel
theorem dX10_load_110 : decode cX10_load 110 = .ok (.bipush 6, 2) := by decide +kernel
theorem dX10_load_112 : decode cX10_load 112 = .ok (.iaload, 1) := by decide +kernel
theorem dX10_load_113 : decode cX10_load 113 = .ok (.ireturn, 1) := by decide +kernel
theorem dX10_hasError_0 : decode cX10_hasError 0 = .ok (.aload_n 0, 1) := by decide +kernel
theorem dX10_hasError_1 : decode cX10_hasError 1 = .ok (.iconst 0, 1) := by decide +kernel
theorem dX10_hasError_2 : decode cX10_hasError 2 = .ok (.putfield 51, 3) := by decide +kernel
theorem dX10_hasError_5 : decode cX10_hasError 5 = .ok (.aload_n 0, 1) := by decide +kernel
theorem dX10_hasError_6 : decode cX10_hasError 6 = .ok (.getfield 32, 3) := by decide +kernel
theorem dX10_hasError_9 : decode cX10_hasError 9 = .ok (.ifCond .lt 7, 3) := by decide +kernel
theorem dX10_hasError_12 : decode cX10_hasError 12 = .ok (.iconst 1, 1) := by decide +kernel
theorem dX10_hasError_13 : decode cX10_hasError 13 = .ok (.goto 4, 3) := by decide +kernel
theorem dX10_hasError_16 : decode cX10_hasError 16 = .ok (.iconst 0, 1) := by decide +kernel
theorem dX10_hasError_17 : decode cX10_hasError 17 = .ok (.ireturn, 1) := by decide +kernel
set_option maxRecDepth 20000 in
theorem ggX10_errorOffset_X10_fails : GoodIn wsX10_errorOffset wsX10_fails := goodIn_r _ [7, 1, 8, 9, 10, 11, 12, 13, 14, 15, 16, 17, 18, 19, 20, 21, 22, 23, 24, 25, 26] (by decide +kernel) (by decide +kernel)
set_option maxRecDepth 20000 in
theorem gX10_errorOffset_X10_fails : GoodIn wsX10_errorOffset (wsV RX10 169 RX10 yX10_fails wsX10_fails) := goodIn_app (goodIn_of _ (by decide +kernel)) ggX10_errorOffset_X10_fails
theorem dX10_errorOffset_0 : decode cX10_errorOffset 0 = .ok (.aload_n 0, 1) := by decide +kernel
theorem dX10_errorOffset_1 : decode cX10_errorOffset 1 = .ok (.iconst 0, 1) := by decide +kernel
theorem dX10_errorOffset_2 : decode cX10_errorOffset 2 = .ok (.putfield 51, 3) := by decide +kernel
theorem dX10_errorOffset_5 : decode cX10_errorOffset 5 = .ok (.aload_n 0, 1) := by decide +kernel
theorem dX10_errorOffset_6 : decode cX10_errorOffset 6 = .ok (.getfield 32, 3) := by decide +kernel
theorem dX10_errorOffset_9 : decode cX10_errorOffset 9 = .ok (.ifCond .ge 9, 3) := by decide +kernel
theorem dX10_errorOffset_12 : decode cX10_errorOffset 12 = .ok (.aload_n 0, 1) := by decide +kernel
theorem dX10_errorOffset_13 : decode cX10_errorOffset 13 = .ok (.iconst 1, 1) := by decide +kernel
theorem dX10_errorOffset_14 : decode cX10_errorOffset 14 = .ok (.invokevirtual 169, 3) := by decide +kernel
theorem dX10_errorOffset_17 : decode cX10_errorOffset 17 = .ok (.ireturn, 1) := by decide +kernel
theorem dX10_errorOffset_18 : decode cX10_errorOffset 18 = .ok (.aload_n 0, 1) := by decide +kernel
theorem dX10_errorOffset_19 : decode cX10_errorOffset 19 = .ok (.getfield 32, 3) := by decide +kernel
theorem dX10_errorOffset_22 : decode cX10_errorOffset 22 = .ok (.ireturn, 1) := by decide +kernel
theorem dX10_night_0 : decode cX10_night 0 = .ok (.aload_n 0, 1) := by decide +kernel
theorem dX10_night_1 : decode cX10_night 1 = .ok (.iconst 0, 1) := by decide +kernel
theorem dX10_night_2 : decode cX10_night 2 = .ok (.putfield 51, 3) := by decide +kernel
theorem dX10_night_5 : decode cX10_night 5 = .ok (.aload_n 0, 1) := by decide +kernel
theorem dX10_night_6 : decode cX10_night 6 = .ok (.getfield 7, 3) := by decide +kernel
theorem dX10_night_9 : decode cX10_night 9 = .ok (.iconst 0, 1) := by decide +kernel
theorem dX10_night_10 : decode cX10_night 10 = .ok (.iaload, 1) := by decide +kernel
theorem dX10_night_11 : decode cX10_night 11 = .ok (.ireturn, 1) := by decide +kernel
set_option maxRecDepth 20000 in
theorem ggX10_lightOf_X10_isNight : GoodIn wsX10_lightOf wsX10_isNight := goodIn_r _ [5, 6, 7, 4, 8] (by decide +kernel) (by decide +kernel)
set_option maxRecDepth 20000 in
theorem gX10_lightOf_X10_isNight : GoodIn wsX10_lightOf (va_wsS RX10 260 yX10_isNight wsX10_isNight) := goodIn_app (goodIn_of _ (by decide +kernel)) ggX10_lightOf_X10_isNight
set_option maxRecDepth 20000 in
theorem ggX10_lightOf_X10_lightOn : GoodIn wsX10_lightOf wsX10_lightOn := goodIn_r _ [11, 12, 13, 4, 14] (by decide +kernel) (by decide +kernel)
set_option maxRecDepth 20000 in
theorem gX10_lightOf_X10_lightOn : GoodIn wsX10_lightOf (va_wsS RX10 66 yX10_lightOn wsX10_lightOn) := goodIn_app (goodIn_of _ (by decide +kernel)) ggX10_lightOf_X10_lightOn
set_option maxRecDepth 20000 in
theorem ggX10_lightOf_X10_fails : GoodIn wsX10_lightOf wsX10_fails := goodIn_r _ [18, 1, 19, 20, 21, 22, 23, 24, 25, 26, 27, 28, 29, 30, 31, 32, 33, 34, 35, 36, 37] (by decide +kernel) (by decide +kernel)
set_option maxRecDepth 20000 in
theorem gX10_lightOf_X10_fails : GoodIn wsX10_lightOf (wsV RX10 169 RX10 yX10_fails wsX10_fails) := goodIn_app (goodIn_of _ (by decide +kernel)) ggX10_lightOf_X10_fails
theorem dX10_lightOf_0 : decode cX10_lightOf 0 = .ok (.aload_n 0, 1) := by decide +kernel
theorem dX10_lightOf_1 : decode cX10_lightOf 1 = .ok (.iconst 0, 1) := by decide +kernel
theorem dX10_lightOf_2 : decode cX10_lightOf 2 = .ok (.putfield 51, 3) := by decide +kernel
theorem dX10_lightOf_5 : decode cX10_lightOf 5 = .ok (.iload_n 1, 1) := by decide +kernel
theorem dX10_lightOf_6 : decode cX10_lightOf 6 = .ok (.invokestatic 260, 3) := by decide +kernel
theorem dX10_lightOf_9 : decode cX10_lightOf 9 = .ok (.ifCond .eq 8, 3) := by decide +kernel
theorem dX10_lightOf_12 : decode cX10_lightOf 12 = .ok (.iload_n 1, 1) := by decide +kernel
theorem dX10_lightOf_13 : decode cX10_lightOf 13 = .ok (.invokestatic 66, 3) := by decide +kernel
theorem dX10_lightOf_16 : decode cX10_lightOf 16 = .ok (.ireturn, 1) := by decide +kernel
theorem dX10_lightOf_17 : decode cX10_lightOf 17 = .ok (.aload_n 0, 1) := by decide +kernel
theorem dX10_lightOf_18 : decode cX10_lightOf 18 = .ok (.iconst 1, 1) := by decide +kernel
theorem dX10_lightOf_19 : decode cX10_lightOf 19 = .ok (.invokevirtual 169, 3) := by decide +kernel
theorem dX10_lightOf_22 : decode cX10_lightOf 22 = .ok (.ireturn, 1) := by decide +kernel
set_option maxRecDepth 20000 in
theorem ggX10_tideOf_X10_isNight : GoodIn wsX10_tideOf wsX10_isNight := goodIn_r _ [5, 6, 7, 4, 8] (by decide +kernel) (by decide +kernel)
set_option maxRecDepth 20000 in
theorem gX10_tideOf_X10_isNight : GoodIn wsX10_tideOf (va_wsS RX10 260 yX10_isNight wsX10_isNight) := goodIn_app (goodIn_of _ (by decide +kernel)) ggX10_tideOf_X10_isNight
set_option maxRecDepth 20000 in
theorem ggX10_tideOf_X10_tideOn : GoodIn wsX10_tideOf wsX10_tideOn := goodIn_r _ [11, 12, 13, 4, 14] (by decide +kernel) (by decide +kernel)
set_option maxRecDepth 20000 in
theorem gX10_tideOf_X10_tideOn : GoodIn wsX10_tideOf (va_wsS RX10 80 yX10_tideOn wsX10_tideOn) := goodIn_app (goodIn_of _ (by decide +kernel)) ggX10_tideOf_X10_tideOn
set_option maxRecDepth 20000 in
theorem ggX10_tideOf_X10_fails : GoodIn wsX10_tideOf wsX10_fails := goodIn_r _ [18, 1, 19, 20, 21, 22, 23, 24, 25, 26, 27, 28, 29, 30, 31, 32, 33, 34, 35, 36, 37] (by decide +kernel) (by decide +kernel)
set_option maxRecDepth 20000 in
theorem gX10_tideOf_X10_fails : GoodIn wsX10_tideOf (wsV RX10 169 RX10 yX10_fails wsX10_fails) := goodIn_app (goodIn_of _ (by decide +kernel)) ggX10_tideOf_X10_fails
theorem dX10_tideOf_0 : decode cX10_tideOf 0 = .ok (.aload_n 0, 1) := by decide +kernel
theorem dX10_tideOf_1 : decode cX10_tideOf 1 = .ok (.iconst 0, 1) := by decide +kernel
theorem dX10_tideOf_2 : decode cX10_tideOf 2 = .ok (.putfield 51, 3) := by decide +kernel
theorem dX10_tideOf_5 : decode cX10_tideOf 5 = .ok (.iload_n 1, 1) := by decide +kernel
theorem dX10_tideOf_6 : decode cX10_tideOf 6 = .ok (.invokestatic 260, 3) := by decide +kernel
theorem dX10_tideOf_9 : decode cX10_tideOf 9 = .ok (.ifCond .eq 8, 3) := by decide +kernel
theorem dX10_tideOf_12 : decode cX10_tideOf 12 = .ok (.iload_n 1, 1) := by decide +kernel
theorem dX10_tideOf_13 : decode cX10_tideOf 13 = .ok (.invokestatic 80, 3) := by decide +kernel
theorem dX10_tideOf_16 : decode cX10_tideOf 16 = .ok (.ireturn, 1) := by decide +kernel
theorem dX10_tideOf_17 : decode cX10_tideOf 17 = .ok (.aload_n 0, 1) := by decide +kernel
theorem dX10_tideOf_18 : decode cX10_tideOf 18 = .ok (.iconst 1, 1) := by decide +kernel
theorem dX10_tideOf_19 : decode cX10_tideOf 19 = .ok (.invokevirtual 169, 3) := by decide +kernel
theorem dX10_tideOf_22 : decode cX10_tideOf 22 = .ok (.ireturn, 1) := by decide +kernel
set_option maxRecDepth 20000 in
theorem ggX10_cloudOf_X10_isNight : GoodIn wsX10_cloudOf wsX10_isNight := goodIn_r _ [6, 7, 8, 5, 9] (by decide +kernel) (by decide +kernel)
set_option maxRecDepth 20000 in
theorem gX10_cloudOf_X10_isNight : GoodIn wsX10_cloudOf (va_wsS RX10 260 yX10_isNight wsX10_isNight) := goodIn_app (goodIn_of _ (by decide +kernel)) ggX10_cloudOf_X10_isNight
set_option maxRecDepth 20000 in
theorem ggX10_cloudOf_X10_cloudOn : GoodIn wsX10_cloudOf wsX10_cloudOn := goodIn_r _ [12] (by decide +kernel) (by decide +kernel)
set_option maxRecDepth 20000 in
theorem gX10_cloudOf_X10_cloudOn : GoodIn wsX10_cloudOf (va_wsS RX10 70 yX10_cloudOn wsX10_cloudOn) := goodIn_app (goodIn_of _ (by decide +kernel)) ggX10_cloudOf_X10_cloudOn
set_option maxRecDepth 20000 in
theorem ggX10_cloudOf_X10_fails : GoodIn wsX10_cloudOf wsX10_fails := goodIn_r _ [16, 1, 17, 18, 19, 20, 21, 22, 23, 24, 25, 26, 27, 28, 29, 30, 31, 32, 33, 34, 35] (by decide +kernel) (by decide +kernel)
set_option maxRecDepth 20000 in
theorem gX10_cloudOf_X10_fails : GoodIn wsX10_cloudOf (wsV RX10 169 RX10 yX10_fails wsX10_fails) := goodIn_app (goodIn_of _ (by decide +kernel)) ggX10_cloudOf_X10_fails
theorem dX10_cloudOf_0 : decode cX10_cloudOf 0 = .ok (.aload_n 0, 1) := by decide +kernel
theorem dX10_cloudOf_1 : decode cX10_cloudOf 1 = .ok (.iconst 0, 1) := by decide +kernel
theorem dX10_cloudOf_2 : decode cX10_cloudOf 2 = .ok (.putfield 51, 3) := by decide +kernel
theorem dX10_cloudOf_5 : decode cX10_cloudOf 5 = .ok (.iload_n 1, 1) := by decide +kernel
theorem dX10_cloudOf_6 : decode cX10_cloudOf 6 = .ok (.invokestatic 260, 3) := by decide +kernel
theorem dX10_cloudOf_9 : decode cX10_cloudOf 9 = .ok (.ifCond .eq 12, 3) := by decide +kernel
theorem dX10_cloudOf_12 : decode cX10_cloudOf 12 = .ok (.aload_n 0, 1) := by decide +kernel
theorem dX10_cloudOf_13 : decode cX10_cloudOf 13 = .ok (.getfield 7, 3) := by decide +kernel
theorem dX10_cloudOf_16 : decode cX10_cloudOf 16 = .ok (.iload_n 1, 1) := by decide +kernel
theorem dX10_cloudOf_17 : decode cX10_cloudOf 17 = .ok (.invokestatic 70, 3) := by decide +kernel
theorem dX10_cloudOf_20 : decode cX10_cloudOf 20 = .ok (.ireturn, 1) := by decide +kernel
theorem dX10_cloudOf_21 : decode cX10_cloudOf 21 = .ok (.aload_n 0, 1) := by decide +kernel
theorem dX10_cloudOf_22 : decode cX10_cloudOf 22 = .ok (.iconst 1, 1) := by decide +kernel
theorem dX10_cloudOf_23 : decode cX10_cloudOf 23 = .ok (.invokevirtual 169, 3) := by decide +kernel
theorem dX10_cloudOf_26 : decode cX10_cloudOf 26 = .ok (.ireturn, 1) := by decide +kernel
set_option maxRecDepth 20000 in
theorem ggX10_visibleLight_X10_isNight : GoodIn wsX10_visibleLight wsX10_isNight := goodIn_r _ [6, 7, 8, 5, 9] (by decide +kernel) (by decide +kernel)
set_option maxRecDepth 20000 in
theorem gX10_visibleLight_X10_isNight : GoodIn wsX10_visibleLight (va_wsS RX10 260 yX10_isNight wsX10_isNight) := goodIn_app (goodIn_of _ (by decide +kernel)) ggX10_visibleLight_X10_isNight
set_option maxRecDepth 20000 in
theorem ggX10_visibleLight_X10_visibleOn : GoodIn wsX10_visibleLight wsX10_visibleOn := goodIn_r _ [12, 13, 14, 5, 15, 16, 17, 18, 19, 20, 21] (by decide +kernel) (by decide +kernel)
set_option maxRecDepth 20000 in
theorem gX10_visibleLight_X10_visibleOn : GoodIn wsX10_visibleLight (va_wsS RX10 74 yX10_visibleOn wsX10_visibleOn) := goodIn_app (goodIn_of _ (by decide +kernel)) ggX10_visibleLight_X10_visibleOn
set_option maxRecDepth 20000 in
theorem ggX10_visibleLight_X10_fails : GoodIn wsX10_visibleLight wsX10_fails := goodIn_r _ [25, 1, 26, 27, 28, 29, 30, 31, 32, 33, 34, 35, 36, 37, 38, 39, 40, 41, 42, 43, 44] (by decide +kernel) (by decide +kernel)
set_option maxRecDepth 20000 in
theorem gX10_visibleLight_X10_fails : GoodIn wsX10_visibleLight (wsV RX10 169 RX10 yX10_fails wsX10_fails) := goodIn_app (goodIn_of _ (by decide +kernel)) ggX10_visibleLight_X10_fails
theorem dX10_visibleLight_0 : decode cX10_visibleLight 0 = .ok (.aload_n 0, 1) := by decide +kernel
theorem dX10_visibleLight_1 : decode cX10_visibleLight 1 = .ok (.iconst 0, 1) := by decide +kernel
theorem dX10_visibleLight_2 : decode cX10_visibleLight 2 = .ok (.putfield 51, 3) := by decide +kernel
theorem dX10_visibleLight_5 : decode cX10_visibleLight 5 = .ok (.iload_n 1, 1) := by decide +kernel
theorem dX10_visibleLight_6 : decode cX10_visibleLight 6 = .ok (.invokestatic 260, 3) := by decide +kernel
theorem dX10_visibleLight_9 : decode cX10_visibleLight 9 = .ok (.ifCond .eq 12, 3) := by decide +kernel
theorem dX10_visibleLight_12 : decode cX10_visibleLight 12 = .ok (.aload_n 0, 1) := by decide +kernel
theorem dX10_visibleLight_13 : decode cX10_visibleLight 13 = .ok (.getfield 7, 3) := by decide +kernel
theorem dX10_visibleLight_16 : decode cX10_visibleLight 16 = .ok (.iload_n 1, 1) := by decide +kernel
theorem dX10_visibleLight_17 : decode cX10_visibleLight 17 = .ok (.invokestatic 74, 3) := by decide +kernel
theorem dX10_visibleLight_20 : decode cX10_visibleLight 20 = .ok (.ireturn, 1) := by decide +kernel
theorem dX10_visibleLight_21 : decode cX10_visibleLight 21 = .ok (.aload_n 0, 1) := by decide +kernel
theorem dX10_visibleLight_22 : decode cX10_visibleLight 22 = .ok (.iconst 1, 1) := by decide +kernel
theorem dX10_visibleLight_23 : decode cX10_visibleLight 23 = .ok (.invokevirtual 169, 3) := by decide +kernel
theorem dX10_visibleLight_26 : decode cX10_visibleLight 26 = .ok (.ireturn, 1) := by decide +kernel
set_option maxRecDepth 20000 in
theorem ggX10_glareLimit_X10_limitOf : GoodIn wsX10_glareLimit wsX10_limitOf := goodIn_r _ [6] (by decide +kernel) (by decide +kernel)
set_option maxRecDepth 20000 in
theorem gX10_glareLimit_X10_limitOf : GoodIn wsX10_glareLimit (va_wsS RX10 77 yX10_limitOf wsX10_limitOf) := goodIn_app (goodIn_of _ (by decide +kernel)) ggX10_glareLimit_X10_limitOf
theorem dX10_glareLimit_0 : decode cX10_glareLimit 0 = .ok (.aload_n 0, 1) := by decide +kernel
theorem dX10_glareLimit_1 : decode cX10_glareLimit 1 = .ok (.iconst 0, 1) := by decide +kernel
theorem dX10_glareLimit_2 : decode cX10_glareLimit 2 = .ok (.putfield 51, 3) := by decide +kernel
theorem dX10_glareLimit_5 : decode cX10_glareLimit 5 = .ok (.aload_n 0, 1) := by decide +kernel
theorem dX10_glareLimit_6 : decode cX10_glareLimit 6 = .ok (.getfield 7, 3) := by decide +kernel
theorem dX10_glareLimit_9 : decode cX10_glareLimit 9 = .ok (.iconst 0, 1) := by decide +kernel
theorem dX10_glareLimit_10 : decode cX10_glareLimit 10 = .ok (.invokestatic 77, 3) := by decide +kernel
theorem dX10_glareLimit_13 : decode cX10_glareLimit 13 = .ok (.ireturn, 1) := by decide +kernel
set_option maxRecDepth 20000 in
theorem ggX10_gloomLimit_X10_limitOf : GoodIn wsX10_gloomLimit wsX10_limitOf := goodIn_r _ [6] (by decide +kernel) (by decide +kernel)
set_option maxRecDepth 20000 in
theorem gX10_gloomLimit_X10_limitOf : GoodIn wsX10_gloomLimit (va_wsS RX10 77 yX10_limitOf wsX10_limitOf) := goodIn_app (goodIn_of _ (by decide +kernel)) ggX10_gloomLimit_X10_limitOf
theorem dX10_gloomLimit_0 : decode cX10_gloomLimit 0 = .ok (.aload_n 0, 1) := by decide +kernel
theorem dX10_gloomLimit_1 : decode cX10_gloomLimit 1 = .ok (.iconst 0, 1) := by decide +kernel
theorem dX10_gloomLimit_2 : decode cX10_gloomLimit 2 = .ok (.putfield 51, 3) := by decide +kernel
theorem dX10_gloomLimit_5 : decode cX10_gloomLimit 5 = .ok (.aload_n 0, 1) := by decide +kernel
theorem dX10_gloomLimit_6 : decode cX10_gloomLimit 6 = .ok (.getfield 7, 3) := by decide +kernel
theorem dX10_gloomLimit_9 : decode cX10_gloomLimit 9 = .ok (.iconst 1, 1) := by decide +kernel
theorem dX10_gloomLimit_10 : decode cX10_gloomLimit 10 = .ok (.invokestatic 77, 3) := by decide +kernel
theorem dX10_gloomLimit_13 : decode cX10_gloomLimit 13 = .ok (.ireturn, 1) := by decide +kernel
set_option maxRecDepth 20000 in
theorem ggX10_tideLimit_X10_limitOf : GoodIn wsX10_tideLimit wsX10_limitOf := goodIn_r _ [6] (by decide +kernel) (by decide +kernel)
set_option maxRecDepth 20000 in
theorem gX10_tideLimit_X10_limitOf : GoodIn wsX10_tideLimit (va_wsS RX10 77 yX10_limitOf wsX10_limitOf) := goodIn_app (goodIn_of _ (by decide +kernel)) ggX10_tideLimit_X10_limitOf
theorem dX10_tideLimit_0 : decode cX10_tideLimit 0 = .ok (.aload_n 0, 1) := by decide +kernel
theorem dX10_tideLimit_1 : decode cX10_tideLimit 1 = .ok (.iconst 0, 1) := by decide +kernel
theorem dX10_tideLimit_2 : decode cX10_tideLimit 2 = .ok (.putfield 51, 3) := by decide +kernel
theorem dX10_tideLimit_5 : decode cX10_tideLimit 5 = .ok (.aload_n 0, 1) := by decide +kernel
theorem dX10_tideLimit_6 : decode cX10_tideLimit 6 = .ok (.getfield 7, 3) := by decide +kernel
theorem dX10_tideLimit_9 : decode cX10_tideLimit 9 = .ok (.iconst 2, 1) := by decide +kernel
theorem dX10_tideLimit_10 : decode cX10_tideLimit 10 = .ok (.invokestatic 77, 3) := by decide +kernel
theorem dX10_tideLimit_13 : decode cX10_tideLimit 13 = .ok (.ireturn, 1) := by decide +kernel
theorem dX10_cloudCount_0 : decode cX10_cloudCount 0 = .ok (.aload_n 0, 1) := by decide +kernel
theorem dX10_cloudCount_1 : decode cX10_cloudCount 1 = .ok (.iconst 0, 1) := by decide +kernel
theorem dX10_cloudCount_2 : decode cX10_cloudCount 2 = .ok (.putfield 51, 3) := by decide +kernel
theorem dX10_cloudCount_5 : decode cX10_cloudCount 5 = .ok (.aload_n 0, 1) := by decide +kernel
theorem dX10_cloudCount_6 : decode cX10_cloudCount 6 = .ok (.getfield 7, 3) := by decide +kernel
theorem dX10_cloudCount_9 : decode cX10_cloudCount 9 = .ok (.iconst 4, 1) := by decide +kernel
theorem dX10_cloudCount_10 : decode cX10_cloudCount 10 = .ok (.iaload, 1) := by decide +kernel
theorem dX10_cloudCount_11 : decode cX10_cloudCount 11 = .ok (.ireturn, 1) := by decide +kernel
set_option maxRecDepth 20000 in
theorem ggX10_isJustified_X10_isSort : GoodIn wsX10_isJustified wsX10_isSort := goodIn_r _ [6, 7, 8, 5, 9] (by decide +kernel) (by decide +kernel)
set_option maxRecDepth 20000 in
theorem gX10_isJustified_X10_isSort : GoodIn wsX10_isJustified (va_wsS RX10 263 yX10_isSort wsX10_isSort) := goodIn_app (goodIn_of _ (by decide +kernel)) ggX10_isJustified_X10_isSort
set_option maxRecDepth 20000 in
theorem ggX10_isJustified_X10_isNight : GoodIn wsX10_isJustified wsX10_isNight := goodIn_r _ [12, 7, 8, 5, 9] (by decide +kernel) (by decide +kernel)
set_option maxRecDepth 20000 in
theorem gX10_isJustified_X10_isNight : GoodIn wsX10_isJustified (va_wsS RX10 260 yX10_isNight wsX10_isNight) := goodIn_app (goodIn_of _ (by decide +kernel)) ggX10_isJustified_X10_isNight
set_option maxRecDepth 20000 in
theorem ggX10_isJustified_X10_isJust : GoodIn wsX10_isJustified wsX10_isJust := goodIn_r _ [15, 16, 17, 5, 18, 19, 20, 21, 22, 23, 24, 25, 26, 27, 28, 29, 30, 31, 32, 33] (by decide +kernel) (by decide +kernel)
set_option maxRecDepth 20000 in
theorem gX10_isJustified_X10_isJust : GoodIn wsX10_isJustified (va_wsS RX10 83 yX10_isJust wsX10_isJust) := goodIn_app (goodIn_of _ (by decide +kernel)) ggX10_isJustified_X10_isJust
set_option maxRecDepth 20000 in
theorem ggX10_isJustified_X10_isFailed : GoodIn wsX10_isJustified wsX10_isFailed := goodIn_r _ [37, 1, 38, 39, 40, 41, 42, 43, 44, 45, 46, 47, 48, 49, 50, 51, 52, 53, 54, 55, 56] (by decide +kernel) (by decide +kernel)
set_option maxRecDepth 20000 in
theorem gX10_isJustified_X10_isFailed : GoodIn wsX10_isJustified (wsV RX10 266 RX10 yX10_isFailed wsX10_isFailed) := goodIn_app (goodIn_of _ (by decide +kernel)) ggX10_isJustified_X10_isFailed
theorem dX10_isJustified_0 : decode cX10_isJustified 0 = .ok (.aload_n 0, 1) := by decide +kernel
theorem dX10_isJustified_1 : decode cX10_isJustified 1 = .ok (.iconst 0, 1) := by decide +kernel
theorem dX10_isJustified_2 : decode cX10_isJustified 2 = .ok (.putfield 51, 3) := by decide +kernel
theorem dX10_isJustified_5 : decode cX10_isJustified 5 = .ok (.iload_n 1, 1) := by decide +kernel
theorem dX10_isJustified_6 : decode cX10_isJustified 6 = .ok (.invokestatic 263, 3) := by decide +kernel
theorem dX10_isJustified_9 : decode cX10_isJustified 9 = .ok (.ifCond .eq 20, 3) := by decide +kernel
theorem dX10_isJustified_12 : decode cX10_isJustified 12 = .ok (.iload_n 2, 1) := by decide +kernel
theorem dX10_isJustified_13 : decode cX10_isJustified 13 = .ok (.invokestatic 260, 3) := by decide +kernel
theorem dX10_isJustified_16 : decode cX10_isJustified 16 = .ok (.ifCond .eq 13, 3) := by decide +kernel
theorem dX10_isJustified_19 : decode cX10_isJustified 19 = .ok (.aload_n 0, 1) := by decide +kernel
theorem dX10_isJustified_20 : decode cX10_isJustified 20 = .ok (.getfield 7, 3) := by decide +kernel
theorem dX10_isJustified_23 : decode cX10_isJustified 23 = .ok (.iload_n 1, 1) := by decide +kernel
theorem dX10_isJustified_24 : decode cX10_isJustified 24 = .ok (.iload_n 2, 1) := by decide +kernel
theorem dX10_isJustified_25 : decode cX10_isJustified 25 = .ok (.invokestatic 83, 3) := by decide +kernel
theorem dX10_isJustified_28 : decode cX10_isJustified 28 = .ok (.ireturn, 1) := by decide +kernel
theorem dX10_isJustified_29 : decode cX10_isJustified 29 = .ok (.aload_n 0, 1) := by decide +kernel
theorem dX10_isJustified_30 : decode cX10_isJustified 30 = .ok (.iconst 1, 1) := by decide +kernel
theorem dX10_isJustified_31 : decode cX10_isJustified 31 = .ok (.invokevirtual 266, 3) := by decide +kernel
theorem dX10_isJustified_34 : decode cX10_isJustified 34 = .ok (.ireturn, 1) := by decide +kernel
set_option maxRecDepth 20000 in
theorem ggX10_nextJustified_X10_isSort : GoodIn wsX10_nextJustified wsX10_isSort := goodIn_r _ [6, 7, 8, 5, 9] (by decide +kernel) (by decide +kernel)
set_option maxRecDepth 20000 in
theorem gX10_nextJustified_X10_isSort : GoodIn wsX10_nextJustified (va_wsS RX10 263 yX10_isSort wsX10_isSort) := goodIn_app (goodIn_of _ (by decide +kernel)) ggX10_nextJustified_X10_isSort
set_option maxRecDepth 20000 in
theorem ggX10_nextJustified_X10_fails : GoodIn wsX10_nextJustified wsX10_fails := goodIn_r _ [13, 1, 35, 36, 37, 38, 39, 40, 41, 42, 43, 44, 45, 46, 47, 48, 49, 50, 51, 52, 53] (by decide +kernel) (by decide +kernel)
set_option maxRecDepth 20000 in
theorem gX10_nextJustified_X10_fails : GoodIn wsX10_nextJustified (wsV RX10 169 RX10 yX10_fails wsX10_fails) := goodIn_app (goodIn_of _ (by decide +kernel)) ggX10_nextJustified_X10_fails
set_option maxRecDepth 20000 in
theorem ggX10_nextJustified_X10_isJust : GoodIn wsX10_nextJustified wsX10_isJust := goodIn_r _ [16, 17, 18, 5, 19, 20, 21, 22, 23, 24, 25, 26, 27, 28, 29, 30, 31, 32, 33, 34] (by decide +kernel) (by decide +kernel)
set_option maxRecDepth 20000 in
theorem gX10_nextJustified_X10_isJust : GoodIn wsX10_nextJustified (va_wsS RX10 83 yX10_isJust wsX10_isJust) := goodIn_app (goodIn_of _ (by decide +kernel)) ggX10_nextJustified_X10_isJust
theorem dX10_nextJustified_0 : decode cX10_nextJustified 0 = .ok (.aload_n 0, 1) := by decide +kernel
theorem dX10_nextJustified_1 : decode cX10_nextJustified 1 = .ok (.iconst 0, 1) := by decide +kernel
theorem dX10_nextJustified_2 : decode cX10_nextJustified 2 = .ok (.putfield 51, 3) := by decide +kernel
theorem dX10_nextJustified_5 : decode cX10_nextJustified 5 = .ok (.iload_n 1, 1) := by decide +kernel
theorem dX10_nextJustified_6 : decode cX10_nextJustified 6 = .ok (.invokestatic 263, 3) := by decide +kernel
theorem dX10_nextJustified_9 : decode cX10_nextJustified 9 = .ok (.ifCond .ne 9, 3) := by decide +kernel
theorem dX10_nextJustified_12 : decode cX10_nextJustified 12 = .ok (.aload_n 0, 1) := by decide +kernel
theorem dX10_nextJustified_13 : decode cX10_nextJustified 13 = .ok (.iconst 1, 1) := by decide +kernel
theorem dX10_nextJustified_14 : decode cX10_nextJustified 14 = .ok (.invokevirtual 169, 3) := by decide +kernel
theorem dX10_nextJustified_17 : decode cX10_nextJustified 17 = .ok (.ireturn, 1) := by decide +kernel
theorem dX10_nextJustified_18 : decode cX10_nextJustified 18 = .ok (.aload_n 0, 1) := by decide +kernel
theorem dX10_nextJustified_19 : decode cX10_nextJustified 19 = .ok (.getfield 7, 3) := by decide +kernel
theorem dX10_nextJustified_22 : decode cX10_nextJustified 22 = .ok (.iconst 0, 1) := by decide +kernel
theorem dX10_nextJustified_23 : decode cX10_nextJustified 23 = .ok (.iaload, 1) := by decide +kernel
theorem dX10_nextJustified_24 : decode cX10_nextJustified 24 = .ok (.istore_n 2, 1) := by decide +kernel
theorem dX10_nextJustified_25 : decode cX10_nextJustified 25 = .ok (.iload_n 2, 1) := by decide +kernel
theorem dX10_nextJustified_26 : decode cX10_nextJustified 26 = .ok (.aload_n 0, 1) := by decide +kernel
theorem dX10_nextJustified_27 : decode cX10_nextJustified 27 = .ok (.getfield 7, 3) := by decide +kernel
theorem dX10_nextJustified_30 : decode cX10_nextJustified 30 = .ok (.iconst 0, 1) := by decide +kernel
theorem dX10_nextJustified_31 : decode cX10_nextJustified 31 = .ok (.iaload, 1) := by decide +kernel
theorem dX10_nextJustified_32 : decode cX10_nextJustified 32 = .ok (.sipush 280, 3) := by decide +kernel
theorem dX10_nextJustified_35 : decode cX10_nextJustified 35 = .ok (.iadd, 1) := by decide +kernel
theorem dX10_nextJustified_36 : decode cX10_nextJustified 36 = .ok (.if_icmp .ge 23, 3) := by decide +kernel
theorem dX10_nextJustified_39 : decode cX10_nextJustified 39 = .ok (.aload_n 0, 1) := by decide +kernel
theorem dX10_nextJustified_40 : decode cX10_nextJustified 40 = .ok (.getfield 7, 3) := by decide +kernel
theorem dX10_nextJustified_43 : decode cX10_nextJustified 43 = .ok (.iload_n 1, 1) := by decide +kernel
theorem dX10_nextJustified_44 : decode cX10_nextJustified 44 = .ok (.iload_n 2, 1) := by decide +kernel
theorem dX10_nextJustified_45 : decode cX10_nextJustified 45 = .ok (.invokestatic 83, 3) := by decide +kernel
theorem dX10_nextJustified_48 : decode cX10_nextJustified 48 = .ok (.ifCond .eq 5, 3) := by decide +kernel
theorem dX10_nextJustified_51 : decode cX10_nextJustified 51 = .ok (.iload_n 2, 1) := by decide +kernel
theorem dX10_nextJustified_52 : decode cX10_nextJustified 52 = .ok (.ireturn, 1) := by decide +kernel
theorem dX10_nextJustified_53 : decode cX10_nextJustified 53 = .ok (.iinc 2 1, 3) := by decide +kernel
theorem dX10_nextJustified_56 : decode cX10_nextJustified 56 = .ok (.goto (-31), 3) := by decide +kernel
theorem dX10_nextJustified_59 : decode cX10_nextJustified 59 = .ok (.aload_n 0, 1) := by decide +kernel
theorem dX10_nextJustified_60 : decode cX10_nextJustified 60 = .ok (.iconst 2, 1) := by decide +kernel
theorem dX10_nextJustified_61 : decode cX10_nextJustified 61 = .ok (.invokevirtual 169, 3) := by decide +kernel
theorem dX10_nextJustified_64 : decode cX10_nextJustified 64 = .ok (.ireturn, 1) := by decide +kernel
set_option maxRecDepth 20000 in
theorem ggX10_justifiedNights_X10_isSort : GoodIn wsX10_justifiedNights wsX10_isSort := goodIn_r _ [6, 7, 8, 5, 9] (by decide +kernel) (by decide +kernel)
set_option maxRecDepth 20000 in
theorem gX10_justifiedNights_X10_isSort : GoodIn wsX10_justifiedNights (va_wsS RX10 263 yX10_isSort wsX10_isSort) := goodIn_app (goodIn_of _ (by decide +kernel)) ggX10_justifiedNights_X10_isSort
set_option maxRecDepth 20000 in
theorem ggX10_justifiedNights_X10_justNights : GoodIn wsX10_justifiedNights wsX10_justNights := goodIn_r _ [12, 13, 14, 5, 15, 16, 17, 18, 19, 20, 21, 22, 23, 24, 25, 26, 27, 28, 29, 30, 31, 32, 33] (by decide +kernel) (by decide +kernel)
set_option maxRecDepth 20000 in
theorem gX10_justifiedNights_X10_justNights : GoodIn wsX10_justifiedNights (va_wsS RX10 269 yX10_justNights wsX10_justNights) := goodIn_app (goodIn_of _ (by decide +kernel)) ggX10_justifiedNights_X10_justNights
set_option maxRecDepth 20000 in
theorem ggX10_justifiedNights_X10_fails : GoodIn wsX10_justifiedNights wsX10_fails := goodIn_r _ [37, 1, 38, 39, 40, 41, 42, 43, 44, 45, 46, 47, 48, 49, 50, 51, 52, 53, 54, 55, 56] (by decide +kernel) (by decide +kernel)
set_option maxRecDepth 20000 in
theorem gX10_justifiedNights_X10_fails : GoodIn wsX10_justifiedNights (wsV RX10 169 RX10 yX10_fails wsX10_fails) := goodIn_app (goodIn_of _ (by decide +kernel)) ggX10_justifiedNights_X10_fails
theorem dX10_justifiedNights_0 : decode cX10_justifiedNights 0 = .ok (.aload_n 0, 1) := by decide +kernel
theorem dX10_justifiedNights_1 : decode cX10_justifiedNights 1 = .ok (.iconst 0, 1) := by decide +kernel
theorem dX10_justifiedNights_2 : decode cX10_justifiedNights 2 = .ok (.putfield 51, 3) := by decide +kernel
theorem dX10_justifiedNights_5 : decode cX10_justifiedNights 5 = .ok (.iload_n 1, 1) := by decide +kernel
theorem dX10_justifiedNights_6 : decode cX10_justifiedNights 6 = .ok (.invokestatic 263, 3) := by decide +kernel
theorem dX10_justifiedNights_9 : decode cX10_justifiedNights 9 = .ok (.ifCond .eq 12, 3) := by decide +kernel
theorem dX10_justifiedNights_12 : decode cX10_justifiedNights 12 = .ok (.aload_n 0, 1) := by decide +kernel
theorem dX10_justifiedNights_13 : decode cX10_justifiedNights 13 = .ok (.getfield 7, 3) := by decide +kernel
theorem dX10_justifiedNights_16 : decode cX10_justifiedNights 16 = .ok (.iload_n 1, 1) := by decide +kernel
theorem dX10_justifiedNights_17 : decode cX10_justifiedNights 17 = .ok (.invokestatic 269, 3) := by decide +kernel
theorem dX10_justifiedNights_20 : decode cX10_justifiedNights 20 = .ok (.ireturn, 1) := by decide +kernel
theorem dX10_justifiedNights_21 : decode cX10_justifiedNights 21 = .ok (.aload_n 0, 1) := by decide +kernel
theorem dX10_justifiedNights_22 : decode cX10_justifiedNights 22 = .ok (.iconst 1, 1) := by decide +kernel
theorem dX10_justifiedNights_23 : decode cX10_justifiedNights 23 = .ok (.invokevirtual 169, 3) := by decide +kernel
theorem dX10_justifiedNights_26 : decode cX10_justifiedNights 26 = .ok (.ireturn, 1) := by decide +kernel
set_option maxRecDepth 20000 in
theorem ggX10_likeliestSort_X10_justNights : GoodIn wsX10_likeliestSort wsX10_justNights := goodIn_r _ [6, 7, 8, 5, 9, 10, 11, 12, 13, 14, 15, 16, 17, 18, 19, 20, 21, 22, 23, 24, 25, 26, 27] (by decide +kernel) (by decide +kernel)
set_option maxRecDepth 20000 in
theorem gX10_likeliestSort_X10_justNights : GoodIn wsX10_likeliestSort (va_wsS RX10 269 yX10_justNights wsX10_justNights) := goodIn_app (goodIn_of _ (by decide +kernel)) ggX10_likeliestSort_X10_justNights
theorem dX10_likeliestSort_0 : decode cX10_likeliestSort 0 = .ok (.aload_n 0, 1) := by decide +kernel
theorem dX10_likeliestSort_1 : decode cX10_likeliestSort 1 = .ok (.iconst 0, 1) := by decide +kernel
theorem dX10_likeliestSort_2 : decode cX10_likeliestSort 2 = .ok (.putfield 51, 3) := by decide +kernel
theorem dX10_likeliestSort_5 : decode cX10_likeliestSort 5 = .ok (.iconst 0, 1) := by decide +kernel
theorem dX10_likeliestSort_6 : decode cX10_likeliestSort 6 = .ok (.istore_n 1, 1) := by decide +kernel
theorem dX10_likeliestSort_7 : decode cX10_likeliestSort 7 = .ok (.iconst 1, 1) := by decide +kernel
theorem dX10_likeliestSort_8 : decode cX10_likeliestSort 8 = .ok (.istore_n 2, 1) := by decide +kernel
theorem dX10_likeliestSort_9 : decode cX10_likeliestSort 9 = .ok (.iload_n 2, 1) := by decide +kernel
theorem dX10_likeliestSort_10 : decode cX10_likeliestSort 10 = .ok (.iconst 4, 1) := by decide +kernel
theorem dX10_likeliestSort_11 : decode cX10_likeliestSort 11 = .ok (.if_icmp .ge 30, 3) := by decide +kernel
theorem dX10_likeliestSort_14 : decode cX10_likeliestSort 14 = .ok (.aload_n 0, 1) := by decide +kernel
theorem dX10_likeliestSort_15 : decode cX10_likeliestSort 15 = .ok (.getfield 7, 3) := by decide +kernel
theorem dX10_likeliestSort_18 : decode cX10_likeliestSort 18 = .ok (.iload_n 2, 1) := by decide +kernel
theorem dX10_likeliestSort_19 : decode cX10_likeliestSort 19 = .ok (.invokestatic 269, 3) := by decide +kernel
theorem dX10_likeliestSort_22 : decode cX10_likeliestSort 22 = .ok (.aload_n 0, 1) := by decide +kernel
theorem dX10_likeliestSort_23 : decode cX10_likeliestSort 23 = .ok (.getfield 7, 3) := by decide +kernel
theorem dX10_likeliestSort_26 : decode cX10_likeliestSort 26 = .ok (.iload_n 1, 1) := by decide +kernel
theorem dX10_likeliestSort_27 : decode cX10_likeliestSort 27 = .ok (.invokestatic 269, 3) := by decide +kernel
theorem dX10_likeliestSort_30 : decode cX10_likeliestSort 30 = .ok (.if_icmp .le 5, 3) := by decide +kernel
theorem dX10_likeliestSort_33 : decode cX10_likeliestSort 33 = .ok (.iload_n 2, 1) := by decide +kernel
theorem dX10_likeliestSort_34 : decode cX10_likeliestSort 34 = .ok (.istore_n 1, 1) := by decide +kernel
theorem dX10_likeliestSort_35 : decode cX10_likeliestSort 35 = .ok (.iinc 2 1, 3) := by decide +kernel
theorem dX10_likeliestSort_38 : decode cX10_likeliestSort 38 = .ok (.goto (-29), 3) := by decide +kernel
theorem dX10_likeliestSort_41 : decode cX10_likeliestSort 41 = .ok (.iload_n 1, 1) := by decide +kernel
theorem dX10_likeliestSort_42 : decode cX10_likeliestSort 42 = .ok (.ireturn, 1) := by decide +kernel
set_option maxRecDepth 20000 in
theorem ggX10_complaintNumber_X10_isComplaint : GoodIn wsX10_complaintNumber wsX10_isComplaint := goodIn_r _ [6, 1, 7, 8, 5, 9, 18, 19, 20, 21, 22, 23, 24, 25, 26, 27, 28, 29, 30, 31, 32, 33, 34, 35, 36] (by decide +kernel) (by decide +kernel)
set_option maxRecDepth 20000 in
theorem gX10_complaintNumber_X10_isComplaint : GoodIn wsX10_complaintNumber (wsV RX10 272 RX10 yX10_isComplaint wsX10_isComplaint) := goodIn_app (goodIn_of _ (by decide +kernel)) ggX10_complaintNumber_X10_isComplaint
set_option maxRecDepth 20000 in
theorem ggX10_complaintNumber_X10_complaintAt : GoodIn wsX10_complaintNumber wsX10_complaintAt := goodIn_r _ [12] (by decide +kernel) (by decide +kernel)
set_option maxRecDepth 20000 in
theorem gX10_complaintNumber_X10_complaintAt : GoodIn wsX10_complaintNumber (va_wsS RX10 90 yX10_complaintAt wsX10_complaintAt) := goodIn_app (goodIn_of _ (by decide +kernel)) ggX10_complaintNumber_X10_complaintAt
set_option maxRecDepth 20000 in
theorem ggX10_complaintNumber_X10_fails : GoodIn wsX10_complaintNumber wsX10_fails := goodIn_r _ [16, 17, 18, 19, 20, 21, 22, 23, 24, 25, 26, 27, 28, 29, 30, 31, 32, 33, 34, 35, 36] (by decide +kernel) (by decide +kernel)
set_option maxRecDepth 20000 in
theorem gX10_complaintNumber_X10_fails : GoodIn wsX10_complaintNumber (wsV RX10 169 RX10 yX10_fails wsX10_fails) := goodIn_app (goodIn_of _ (by decide +kernel)) ggX10_complaintNumber_X10_fails
theorem dX10_complaintNumber_0 : decode cX10_complaintNumber 0 = .ok (.aload_n 0, 1) := by decide +kernel
theorem dX10_complaintNumber_1 : decode cX10_complaintNumber 1 = .ok (.iload_n 1, 1) := by decide +kernel
theorem dX10_complaintNumber_2 : decode cX10_complaintNumber 2 = .ok (.invokevirtual 272, 3) := by decide +kernel
theorem dX10_complaintNumber_5 : decode cX10_complaintNumber 5 = .ok (.ifCond .eq 14, 3) := by decide +kernel
theorem dX10_complaintNumber_8 : decode cX10_complaintNumber 8 = .ok (.aload_n 0, 1) := by decide +kernel
theorem dX10_complaintNumber_9 : decode cX10_complaintNumber 9 = .ok (.getfield 7, 3) := by decide +kernel
theorem dX10_complaintNumber_12 : decode cX10_complaintNumber 12 = .ok (.iload_n 1, 1) := by decide +kernel
theorem dX10_complaintNumber_13 : decode cX10_complaintNumber 13 = .ok (.iload_n 2, 1) := by decide +kernel
theorem dX10_complaintNumber_14 : decode cX10_complaintNumber 14 = .ok (.invokestatic 90, 3) := by decide +kernel
theorem dX10_complaintNumber_17 : decode cX10_complaintNumber 17 = .ok (.iaload, 1) := by decide +kernel
theorem dX10_complaintNumber_18 : decode cX10_complaintNumber 18 = .ok (.ireturn, 1) := by decide +kernel
theorem dX10_complaintNumber_19 : decode cX10_complaintNumber 19 = .ok (.aload_n 0, 1) := by decide +kernel
theorem dX10_complaintNumber_20 : decode cX10_complaintNumber 20 = .ok (.iconst 1, 1) := by decide +kernel
theorem dX10_complaintNumber_21 : decode cX10_complaintNumber 21 = .ok (.invokevirtual 169, 3) := by decide +kernel
theorem dX10_complaintNumber_24 : decode cX10_complaintNumber 24 = .ok (.ireturn, 1) := by decide +kernel
set_option maxRecDepth 20000 in
theorem ggX10_hasState_X10_isComplaint : GoodIn wsX10_hasState wsX10_isComplaint := goodIn_r _ [6, 1, 7, 8, 5, 9, 18, 19, 20, 21, 22, 23, 24, 25, 26, 27, 28, 29, 30, 31, 32, 33, 34, 35, 36] (by decide +kernel) (by decide +kernel)
set_option maxRecDepth 20000 in
theorem gX10_hasState_X10_isComplaint : GoodIn wsX10_hasState (wsV RX10 272 RX10 yX10_isComplaint wsX10_isComplaint) := goodIn_app (goodIn_of _ (by decide +kernel)) ggX10_hasState_X10_isComplaint
set_option maxRecDepth 20000 in
theorem ggX10_hasState_X10_complaintAt : GoodIn wsX10_hasState wsX10_complaintAt := goodIn_r _ [12] (by decide +kernel) (by decide +kernel)
set_option maxRecDepth 20000 in
theorem gX10_hasState_X10_complaintAt : GoodIn wsX10_hasState (va_wsS RX10 90 yX10_complaintAt wsX10_complaintAt) := goodIn_app (goodIn_of _ (by decide +kernel)) ggX10_hasState_X10_complaintAt
set_option maxRecDepth 20000 in
theorem ggX10_hasState_X10_isFailed : GoodIn wsX10_hasState wsX10_isFailed := goodIn_r _ [16, 17, 18, 19, 20, 21, 22, 23, 24, 25, 26, 27, 28, 29, 30, 31, 32, 33, 34, 35, 36] (by decide +kernel) (by decide +kernel)
set_option maxRecDepth 20000 in
theorem gX10_hasState_X10_isFailed : GoodIn wsX10_hasState (wsV RX10 266 RX10 yX10_isFailed wsX10_isFailed) := goodIn_app (goodIn_of _ (by decide +kernel)) ggX10_hasState_X10_isFailed
theorem dX10_hasState_0 : decode cX10_hasState 0 = .ok (.aload_n 0, 1) := by decide +kernel
theorem dX10_hasState_1 : decode cX10_hasState 1 = .ok (.iload_n 1, 1) := by decide +kernel
theorem dX10_hasState_2 : decode cX10_hasState 2 = .ok (.invokevirtual 272, 3) := by decide +kernel
theorem dX10_hasState_5 : decode cX10_hasState 5 = .ok (.ifCond .eq 23, 3) := by decide +kernel
theorem dX10_hasState_8 : decode cX10_hasState 8 = .ok (.aload_n 0, 1) := by decide +kernel
theorem dX10_hasState_9 : decode cX10_hasState 9 = .ok (.getfield 7, 3) := by decide +kernel
theorem dX10_hasState_12 : decode cX10_hasState 12 = .ok (.iload_n 1, 1) := by decide +kernel
theorem dX10_hasState_13 : decode cX10_hasState 13 = .ok (.iconst 4, 1) := by decide +kernel
theorem dX10_hasState_14 : decode cX10_hasState 14 = .ok (.invokestatic 90, 3) := by decide +kernel
theorem dX10_hasState_17 : decode cX10_hasState 17 = .ok (.iaload, 1) := by decide +kernel
theorem dX10_hasState_18 : decode cX10_hasState 18 = .ok (.iload_n 2, 1) := by decide +kernel
theorem dX10_hasState_19 : decode cX10_hasState 19 = .ok (.if_icmp .ne 7, 3) := by decide +kernel
theorem dX10_hasState_22 : decode cX10_hasState 22 = .ok (.iconst 1, 1) := by decide +kernel
theorem dX10_hasState_23 : decode cX10_hasState 23 = .ok (.goto 4, 3) := by decide +kernel
theorem dX10_hasState_26 : decode cX10_hasState 26 = .ok (.iconst 0, 1) := by decide +kernel
theorem dX10_hasState_27 : decode cX10_hasState 27 = .ok (.ireturn, 1) := by decide +kernel
theorem dX10_hasState_28 : decode cX10_hasState 28 = .ok (.aload_n 0, 1) := by decide +kernel
theorem dX10_hasState_29 : decode cX10_hasState 29 = .ok (.iconst 1, 1) := by decide +kernel
theorem dX10_hasState_30 : decode cX10_hasState 30 = .ok (.invokevirtual 266, 3) := by decide +kernel
theorem dX10_hasState_33 : decode cX10_hasState 33 = .ok (.ireturn, 1) := by decide +kernel
theorem dX10_complaintCount_0 : decode cX10_complaintCount 0 = .ok (.aload_n 0, 1) := by decide +kernel
theorem dX10_complaintCount_1 : decode cX10_complaintCount 1 = .ok (.iconst 0, 1) := by decide +kernel
theorem dX10_complaintCount_2 : decode cX10_complaintCount 2 = .ok (.putfield 51, 3) := by decide +kernel
theorem dX10_complaintCount_5 : decode cX10_complaintCount 5 = .ok (.aload_n 0, 1) := by decide +kernel
theorem dX10_complaintCount_6 : decode cX10_complaintCount 6 = .ok (.getfield 7, 3) := by decide +kernel
theorem dX10_complaintCount_9 : decode cX10_complaintCount 9 = .ok (.bipush 6, 2) := by decide +kernel
theorem dX10_complaintCount_11 : decode cX10_complaintCount 11 = .ok (.iaload, 1) := by decide +kernel
theorem dX10_complaintCount_12 : decode cX10_complaintCount 12 = .ok (.ireturn, 1) := by decide +kernel
set_option maxRecDepth 20000 in
theorem ggX10_personOf_X10_complaintNumber : GoodIn wsX10_personOf wsX10_complaintNumber := goodIn_r _ [6, 7, 8, 9, 10, 5, 11, 12, 13, 14, 15, 16, 17, 18, 19, 20, 21, 1, 22, 23, 24, 25, 26, 27, 28, 29, 30, 31, 32, 33, 34, 35, 36, 37, 38, 39, 40] (by decide +kernel) (by decide +kernel)
set_option maxRecDepth 20000 in
theorem gX10_personOf_X10_complaintNumber : GoodIn wsX10_personOf (wsV RX10 275 RX10 yX10_complaintNumber wsX10_complaintNumber) := goodIn_app (goodIn_of _ (by decide +kernel)) ggX10_personOf_X10_complaintNumber
theorem dX10_personOf_0 : decode cX10_personOf 0 = .ok (.aload_n 0, 1) := by decide +kernel
theorem dX10_personOf_1 : decode cX10_personOf 1 = .ok (.iconst 0, 1) := by decide +kernel
theorem dX10_personOf_2 : decode cX10_personOf 2 = .ok (.putfield 51, 3) := by decide +kernel
theorem dX10_personOf_5 : decode cX10_personOf 5 = .ok (.aload_n 0, 1) := by decide +kernel
theorem dX10_personOf_6 : decode cX10_personOf 6 = .ok (.iload_n 1, 1) := by decide +kernel
theorem dX10_personOf_7 : decode cX10_personOf 7 = .ok (.iconst 0, 1) := by decide +kernel
theorem dX10_personOf_8 : decode cX10_personOf 8 = .ok (.invokevirtual 275, 3) := by decide +kernel
theorem dX10_personOf_11 : decode cX10_personOf 11 = .ok (.ireturn, 1) := by decide +kernel
set_option maxRecDepth 20000 in
theorem ggX10_sortOf_X10_complaintNumber : GoodIn wsX10_sortOf wsX10_complaintNumber := goodIn_r _ [6, 7, 8, 9, 10, 5, 11, 12, 13, 14, 15, 16, 17, 18, 19, 20, 21, 1, 22, 23, 24, 25, 26, 27, 28, 29, 30, 31, 32, 33, 34, 35, 36, 37, 38, 39, 40] (by decide +kernel) (by decide +kernel)
set_option maxRecDepth 20000 in
theorem gX10_sortOf_X10_complaintNumber : GoodIn wsX10_sortOf (wsV RX10 275 RX10 yX10_complaintNumber wsX10_complaintNumber) := goodIn_app (goodIn_of _ (by decide +kernel)) ggX10_sortOf_X10_complaintNumber
theorem dX10_sortOf_0 : decode cX10_sortOf 0 = .ok (.aload_n 0, 1) := by decide +kernel
theorem dX10_sortOf_1 : decode cX10_sortOf 1 = .ok (.iconst 0, 1) := by decide +kernel
theorem dX10_sortOf_2 : decode cX10_sortOf 2 = .ok (.putfield 51, 3) := by decide +kernel
theorem dX10_sortOf_5 : decode cX10_sortOf 5 = .ok (.aload_n 0, 1) := by decide +kernel
theorem dX10_sortOf_6 : decode cX10_sortOf 6 = .ok (.iload_n 1, 1) := by decide +kernel
theorem dX10_sortOf_7 : decode cX10_sortOf 7 = .ok (.iconst 1, 1) := by decide +kernel
theorem dX10_sortOf_8 : decode cX10_sortOf 8 = .ok (.invokevirtual 275, 3) := by decide +kernel
theorem dX10_sortOf_11 : decode cX10_sortOf 11 = .ok (.ireturn, 1) := by decide +kernel
set_option maxRecDepth 20000 in
theorem ggX10_angerOf_X10_complaintNumber : GoodIn wsX10_angerOf wsX10_complaintNumber := goodIn_r _ [6, 7, 8, 9, 10, 5, 11, 12, 13, 14, 15, 16, 17, 18, 19, 20, 21, 1, 22, 23, 24, 25, 26, 27, 28, 29, 30, 31, 32, 33, 34, 35, 36, 37, 38, 39, 40] (by decide +kernel) (by decide +kernel)
set_option maxRecDepth 20000 in
theorem gX10_angerOf_X10_complaintNumber : GoodIn wsX10_angerOf (wsV RX10 275 RX10 yX10_complaintNumber wsX10_complaintNumber) := goodIn_app (goodIn_of _ (by decide +kernel)) ggX10_angerOf_X10_complaintNumber
theorem dX10_angerOf_0 : decode cX10_angerOf 0 = .ok (.aload_n 0, 1) := by decide +kernel
theorem dX10_angerOf_1 : decode cX10_angerOf 1 = .ok (.iconst 0, 1) := by decide +kernel
theorem dX10_angerOf_2 : decode cX10_angerOf 2 = .ok (.putfield 51, 3) := by decide +kernel
theorem dX10_angerOf_5 : decode cX10_angerOf 5 = .ok (.aload_n 0, 1) := by decide +kernel
theorem dX10_angerOf_6 : decode cX10_angerOf 6 = .ok (.iload_n 1, 1) := by decide +kernel
theorem dX10_angerOf_7 : decode cX10_angerOf 7 = .ok (.iconst 2, 1) := by decide +kernel
theorem dX10_angerOf_8 : decode cX10_angerOf 8 = .ok (.invokevirtual 275, 3) := by decide +kernel
theorem dX10_angerOf_11 : decode cX10_angerOf 11 = .ok (.ireturn, 1) := by decide +kernel
set_option maxRecDepth 20000 in
theorem ggX10_filedIn_X10_complaintNumber : GoodIn wsX10_filedIn wsX10_complaintNumber := goodIn_r _ [6, 7, 8, 9, 10, 5, 11, 12, 13, 14, 15, 16, 17, 18, 19, 20, 21, 1, 22, 23, 24, 25, 26, 27, 28, 29, 30, 31, 32, 33, 34, 35, 36, 37, 38, 39, 40] (by decide +kernel) (by decide +kernel)
set_option maxRecDepth 20000 in
theorem gX10_filedIn_X10_complaintNumber : GoodIn wsX10_filedIn (wsV RX10 275 RX10 yX10_complaintNumber wsX10_complaintNumber) := goodIn_app (goodIn_of _ (by decide +kernel)) ggX10_filedIn_X10_complaintNumber
theorem dX10_filedIn_0 : decode cX10_filedIn 0 = .ok (.aload_n 0, 1) := by decide +kernel
theorem dX10_filedIn_1 : decode cX10_filedIn 1 = .ok (.iconst 0, 1) := by decide +kernel
theorem dX10_filedIn_2 : decode cX10_filedIn 2 = .ok (.putfield 51, 3) := by decide +kernel
theorem dX10_filedIn_5 : decode cX10_filedIn 5 = .ok (.aload_n 0, 1) := by decide +kernel
theorem dX10_filedIn_6 : decode cX10_filedIn 6 = .ok (.iload_n 1, 1) := by decide +kernel
theorem dX10_filedIn_7 : decode cX10_filedIn 7 = .ok (.iconst 3, 1) := by decide +kernel
theorem dX10_filedIn_8 : decode cX10_filedIn 8 = .ok (.invokevirtual 275, 3) := by decide +kernel
theorem dX10_filedIn_11 : decode cX10_filedIn 11 = .ok (.ireturn, 1) := by decide +kernel
set_option maxRecDepth 20000 in
theorem ggX10_isWaiting_X10_hasState : GoodIn wsX10_isWaiting wsX10_hasState := goodIn_r _ [6, 7, 8, 9, 10, 5, 11, 12, 13, 14, 15, 16, 17, 18, 19, 20, 21, 1, 22, 23, 24, 25, 26, 27, 28, 29, 30, 31, 32, 33, 34, 35, 36, 37, 38, 39, 40] (by decide +kernel) (by decide +kernel)
set_option maxRecDepth 20000 in
theorem gX10_isWaiting_X10_hasState : GoodIn wsX10_isWaiting (wsV RX10 278 RX10 yX10_hasState wsX10_hasState) := goodIn_app (goodIn_of _ (by decide +kernel)) ggX10_isWaiting_X10_hasState
theorem dX10_isWaiting_0 : decode cX10_isWaiting 0 = .ok (.aload_n 0, 1) := by decide +kernel
theorem dX10_isWaiting_1 : decode cX10_isWaiting 1 = .ok (.iconst 0, 1) := by decide +kernel
theorem dX10_isWaiting_2 : decode cX10_isWaiting 2 = .ok (.putfield 51, 3) := by decide +kernel
theorem dX10_isWaiting_5 : decode cX10_isWaiting 5 = .ok (.aload_n 0, 1) := by decide +kernel
theorem dX10_isWaiting_6 : decode cX10_isWaiting 6 = .ok (.iload_n 1, 1) := by decide +kernel
theorem dX10_isWaiting_7 : decode cX10_isWaiting 7 = .ok (.iconst 0, 1) := by decide +kernel
theorem dX10_isWaiting_8 : decode cX10_isWaiting 8 = .ok (.invokevirtual 278, 3) := by decide +kernel
theorem dX10_isWaiting_11 : decode cX10_isWaiting 11 = .ok (.ireturn, 1) := by decide +kernel
set_option maxRecDepth 20000 in
theorem ggX10_isAnswered_X10_hasState : GoodIn wsX10_isAnswered wsX10_hasState := goodIn_r _ [6, 7, 8, 9, 10, 5, 11, 12, 13, 14, 15, 16, 17, 18, 19, 20, 21, 1, 22, 23, 24, 25, 26, 27, 28, 29, 30, 31, 32, 33, 34, 35, 36, 37, 38, 39, 40] (by decide +kernel) (by decide +kernel)
set_option maxRecDepth 20000 in
theorem gX10_isAnswered_X10_hasState : GoodIn wsX10_isAnswered (wsV RX10 278 RX10 yX10_hasState wsX10_hasState) := goodIn_app (goodIn_of _ (by decide +kernel)) ggX10_isAnswered_X10_hasState
theorem dX10_isAnswered_0 : decode cX10_isAnswered 0 = .ok (.aload_n 0, 1) := by decide +kernel
theorem dX10_isAnswered_1 : decode cX10_isAnswered 1 = .ok (.iconst 0, 1) := by decide +kernel
theorem dX10_isAnswered_2 : decode cX10_isAnswered 2 = .ok (.putfield 51, 3) := by decide +kernel
theorem dX10_isAnswered_5 : decode cX10_isAnswered 5 = .ok (.aload_n 0, 1) := by decide +kernel
theorem dX10_isAnswered_6 : decode cX10_isAnswered 6 = .ok (.iload_n 1, 1) := by decide +kernel
theorem dX10_isAnswered_7 : decode cX10_isAnswered 7 = .ok (.iconst 1, 1) := by decide +kernel
theorem dX10_isAnswered_8 : decode cX10_isAnswered 8 = .ok (.invokevirtual 278, 3) := by decide +kernel
theorem dX10_isAnswered_11 : decode cX10_isAnswered 11 = .ok (.ireturn, 1) := by decide +kernel
set_option maxRecDepth 20000 in
theorem ggX10_isDismissed_X10_hasState : GoodIn wsX10_isDismissed wsX10_hasState := goodIn_r _ [6, 7, 8, 9, 10, 5, 11, 12, 13, 14, 15, 16, 17, 18, 19, 20, 21, 1, 22, 23, 24, 25, 26, 27, 28, 29, 30, 31, 32, 33, 34, 35, 36, 37, 38, 39, 40] (by decide +kernel) (by decide +kernel)
set_option maxRecDepth 20000 in
theorem gX10_isDismissed_X10_hasState : GoodIn wsX10_isDismissed (wsV RX10 278 RX10 yX10_hasState wsX10_hasState) := goodIn_app (goodIn_of _ (by decide +kernel)) ggX10_isDismissed_X10_hasState
theorem dX10_isDismissed_0 : decode cX10_isDismissed 0 = .ok (.aload_n 0, 1) := by decide +kernel
theorem dX10_isDismissed_1 : decode cX10_isDismissed 1 = .ok (.iconst 0, 1) := by decide +kernel
theorem dX10_isDismissed_2 : decode cX10_isDismissed 2 = .ok (.putfield 51, 3) := by decide +kernel
theorem dX10_isDismissed_5 : decode cX10_isDismissed 5 = .ok (.aload_n 0, 1) := by decide +kernel
theorem dX10_isDismissed_6 : decode cX10_isDismissed 6 = .ok (.iload_n 1, 1) := by decide +kernel
theorem dX10_isDismissed_7 : decode cX10_isDismissed 7 = .ok (.iconst 2, 1) := by decide +kernel
theorem dX10_isDismissed_8 : decode cX10_isDismissed 8 = .ok (.invokevirtual 278, 3) := by decide +kernel
theorem dX10_isDismissed_11 : decode cX10_isDismissed 11 = .ok (.ireturn, 1) := by decide +kernel
set_option maxRecDepth 20000 in
theorem ggX10_isGivenUp_X10_hasState : GoodIn wsX10_isGivenUp wsX10_hasState := goodIn_r _ [6, 7, 8, 9, 10, 5, 11, 12, 13, 14, 15, 16, 17, 18, 19, 20, 21, 1, 22, 23, 24, 25, 26, 27, 28, 29, 30, 31, 32, 33, 34, 35, 36, 37, 38, 39, 40] (by decide +kernel) (by decide +kernel)
set_option maxRecDepth 20000 in
theorem gX10_isGivenUp_X10_hasState : GoodIn wsX10_isGivenUp (wsV RX10 278 RX10 yX10_hasState wsX10_hasState) := goodIn_app (goodIn_of _ (by decide +kernel)) ggX10_isGivenUp_X10_hasState
theorem dX10_isGivenUp_0 : decode cX10_isGivenUp 0 = .ok (.aload_n 0, 1) := by decide +kernel
theorem dX10_isGivenUp_1 : decode cX10_isGivenUp 1 = .ok (.iconst 0, 1) := by decide +kernel
theorem dX10_isGivenUp_2 : decode cX10_isGivenUp 2 = .ok (.putfield 51, 3) := by decide +kernel
theorem dX10_isGivenUp_5 : decode cX10_isGivenUp 5 = .ok (.aload_n 0, 1) := by decide +kernel
theorem dX10_isGivenUp_6 : decode cX10_isGivenUp 6 = .ok (.iload_n 1, 1) := by decide +kernel
theorem dX10_isGivenUp_7 : decode cX10_isGivenUp 7 = .ok (.iconst 3, 1) := by decide +kernel
theorem dX10_isGivenUp_8 : decode cX10_isGivenUp 8 = .ok (.invokevirtual 278, 3) := by decide +kernel
theorem dX10_isGivenUp_11 : decode cX10_isGivenUp 11 = .ok (.ireturn, 1) := by decide +kernel
set_option maxRecDepth 20000 in
theorem ggX10_closedIn_X10_isComplaint : GoodIn wsX10_closedIn wsX10_isComplaint := goodIn_r _ [7, 2, 8, 9, 6, 10, 24, 25, 26, 27, 28, 29, 30, 31, 32, 33, 34, 35, 36, 37, 38, 39, 40, 41, 42] (by decide +kernel) (by decide +kernel)
set_option maxRecDepth 20000 in
theorem gX10_closedIn_X10_isComplaint : GoodIn wsX10_closedIn (wsV RX10 272 RX10 yX10_isComplaint wsX10_isComplaint) := goodIn_app (goodIn_of _ (by decide +kernel)) ggX10_closedIn_X10_isComplaint
set_option maxRecDepth 20000 in
theorem ggX10_closedIn_X10_fails : GoodIn wsX10_closedIn wsX10_fails := goodIn_r _ [14, 1, 24, 25, 26, 27, 28, 29, 30, 31, 32, 33, 34, 35, 36, 37, 38, 39, 40, 41, 42] (by decide +kernel) (by decide +kernel)
set_option maxRecDepth 20000 in
theorem gX10_closedIn_X10_fails : GoodIn wsX10_closedIn (wsV RX10 169 RX10 yX10_fails wsX10_fails) := goodIn_app (goodIn_of _ (by decide +kernel)) ggX10_closedIn_X10_fails
set_option maxRecDepth 20000 in
theorem ggX10_closedIn_X10_waits : GoodIn wsX10_closedIn wsX10_waits := goodIn_r _ [17, 18, 19, 6, 20, 21, 22, 23] (by decide +kernel) (by decide +kernel)
set_option maxRecDepth 20000 in
theorem gX10_closedIn_X10_waits : GoodIn wsX10_closedIn (va_wsS RX10 108 yX10_waits wsX10_waits) := goodIn_app (goodIn_of _ (by decide +kernel)) ggX10_closedIn_X10_waits
set_option maxRecDepth 20000 in
theorem ggX10_closedIn_X10_complaintAt : GoodIn wsX10_closedIn wsX10_complaintAt := goodIn_r _ [23] (by decide +kernel) (by decide +kernel)
set_option maxRecDepth 20000 in
theorem gX10_closedIn_X10_complaintAt : GoodIn wsX10_closedIn (va_wsS RX10 90 yX10_complaintAt wsX10_complaintAt) := goodIn_app (goodIn_of _ (by decide +kernel)) ggX10_closedIn_X10_complaintAt
theorem dX10_closedIn_0 : decode cX10_closedIn 0 = .ok (.aload_n 0, 1) := by decide +kernel
theorem dX10_closedIn_1 : decode cX10_closedIn 1 = .ok (.iconst 0, 1) := by decide +kernel
theorem dX10_closedIn_2 : decode cX10_closedIn 2 = .ok (.putfield 51, 3) := by decide +kernel
theorem dX10_closedIn_5 : decode cX10_closedIn 5 = .ok (.aload_n 0, 1) := by decide +kernel
theorem dX10_closedIn_6 : decode cX10_closedIn 6 = .ok (.iload_n 1, 1) := by decide +kernel
theorem dX10_closedIn_7 : decode cX10_closedIn 7 = .ok (.invokevirtual 272, 3) := by decide +kernel
theorem dX10_closedIn_10 : decode cX10_closedIn 10 = .ok (.ifCond .ne 9, 3) := by decide +kernel
theorem dX10_closedIn_13 : decode cX10_closedIn 13 = .ok (.aload_n 0, 1) := by decide +kernel
theorem dX10_closedIn_14 : decode cX10_closedIn 14 = .ok (.iconst 1, 1) := by decide +kernel
theorem dX10_closedIn_15 : decode cX10_closedIn 15 = .ok (.invokevirtual 169, 3) := by decide +kernel
theorem dX10_closedIn_18 : decode cX10_closedIn 18 = .ok (.ireturn, 1) := by decide +kernel
theorem dX10_closedIn_19 : decode cX10_closedIn 19 = .ok (.aload_n 0, 1) := by decide +kernel
theorem dX10_closedIn_20 : decode cX10_closedIn 20 = .ok (.getfield 7, 3) := by decide +kernel
theorem dX10_closedIn_23 : decode cX10_closedIn 23 = .ok (.iload_n 1, 1) := by decide +kernel
theorem dX10_closedIn_24 : decode cX10_closedIn 24 = .ok (.invokestatic 108, 3) := by decide +kernel
theorem dX10_closedIn_27 : decode cX10_closedIn 27 = .ok (.ifCond .eq 9, 3) := by decide +kernel
theorem dX10_closedIn_30 : decode cX10_closedIn 30 = .ok (.aload_n 0, 1) := by decide +kernel
theorem dX10_closedIn_31 : decode cX10_closedIn 31 = .ok (.iconst 2, 1) := by decide +kernel
theorem dX10_closedIn_32 : decode cX10_closedIn 32 = .ok (.invokevirtual 169, 3) := by decide +kernel
theorem dX10_closedIn_35 : decode cX10_closedIn 35 = .ok (.ireturn, 1) := by decide +kernel
theorem dX10_closedIn_36 : decode cX10_closedIn 36 = .ok (.aload_n 0, 1) := by decide +kernel
theorem dX10_closedIn_37 : decode cX10_closedIn 37 = .ok (.getfield 7, 3) := by decide +kernel
theorem dX10_closedIn_40 : decode cX10_closedIn 40 = .ok (.iload_n 1, 1) := by decide +kernel
theorem dX10_closedIn_41 : decode cX10_closedIn 41 = .ok (.iconst 5, 1) := by decide +kernel
theorem dX10_closedIn_42 : decode cX10_closedIn 42 = .ok (.invokestatic 90, 3) := by decide +kernel
theorem dX10_closedIn_45 : decode cX10_closedIn 45 = .ok (.iaload, 1) := by decide +kernel
theorem dX10_closedIn_46 : decode cX10_closedIn 46 = .ok (.ireturn, 1) := by decide +kernel
set_option maxRecDepth 20000 in
theorem ggX10_clerkOf_X10_isComplaint : GoodIn wsX10_clerkOf wsX10_isComplaint := goodIn_r _ [7, 2, 8, 9, 6, 10, 18, 19, 20, 21, 22, 23, 24, 25, 26, 27, 28, 29, 30, 31, 32, 33, 34, 35, 36] (by decide +kernel) (by decide +kernel)
set_option maxRecDepth 20000 in
theorem gX10_clerkOf_X10_isComplaint : GoodIn wsX10_clerkOf (wsV RX10 272 RX10 yX10_isComplaint wsX10_isComplaint) := goodIn_app (goodIn_of _ (by decide +kernel)) ggX10_clerkOf_X10_isComplaint
set_option maxRecDepth 20000 in
theorem ggX10_clerkOf_X10_fails : GoodIn wsX10_clerkOf wsX10_fails := goodIn_r _ [14, 1, 18, 19, 20, 21, 22, 23, 24, 25, 26, 27, 28, 29, 30, 31, 32, 33, 34, 35, 36] (by decide +kernel) (by decide +kernel)
set_option maxRecDepth 20000 in
theorem gX10_clerkOf_X10_fails : GoodIn wsX10_clerkOf (wsV RX10 169 RX10 yX10_fails wsX10_fails) := goodIn_app (goodIn_of _ (by decide +kernel)) ggX10_clerkOf_X10_fails
set_option maxRecDepth 20000 in
theorem ggX10_clerkOf_X10_complaintAt : GoodIn wsX10_clerkOf wsX10_complaintAt := goodIn_r _ [17] (by decide +kernel) (by decide +kernel)
set_option maxRecDepth 20000 in
theorem gX10_clerkOf_X10_complaintAt : GoodIn wsX10_clerkOf (va_wsS RX10 90 yX10_complaintAt wsX10_complaintAt) := goodIn_app (goodIn_of _ (by decide +kernel)) ggX10_clerkOf_X10_complaintAt
theorem dX10_clerkOf_0 : decode cX10_clerkOf 0 = .ok (.aload_n 0, 1) := by decide +kernel
theorem dX10_clerkOf_1 : decode cX10_clerkOf 1 = .ok (.iconst 0, 1) := by decide +kernel
theorem dX10_clerkOf_2 : decode cX10_clerkOf 2 = .ok (.putfield 51, 3) := by decide +kernel
theorem dX10_clerkOf_5 : decode cX10_clerkOf 5 = .ok (.aload_n 0, 1) := by decide +kernel
theorem dX10_clerkOf_6 : decode cX10_clerkOf 6 = .ok (.iload_n 1, 1) := by decide +kernel
theorem dX10_clerkOf_7 : decode cX10_clerkOf 7 = .ok (.invokevirtual 272, 3) := by decide +kernel
theorem dX10_clerkOf_10 : decode cX10_clerkOf 10 = .ok (.ifCond .ne 9, 3) := by decide +kernel
theorem dX10_clerkOf_13 : decode cX10_clerkOf 13 = .ok (.aload_n 0, 1) := by decide +kernel
theorem dX10_clerkOf_14 : decode cX10_clerkOf 14 = .ok (.iconst 1, 1) := by decide +kernel
theorem dX10_clerkOf_15 : decode cX10_clerkOf 15 = .ok (.invokevirtual 169, 3) := by decide +kernel
theorem dX10_clerkOf_18 : decode cX10_clerkOf 18 = .ok (.ireturn, 1) := by decide +kernel
theorem dX10_clerkOf_19 : decode cX10_clerkOf 19 = .ok (.aload_n 0, 1) := by decide +kernel
theorem dX10_clerkOf_20 : decode cX10_clerkOf 20 = .ok (.getfield 7, 3) := by decide +kernel
theorem dX10_clerkOf_23 : decode cX10_clerkOf 23 = .ok (.iload_n 1, 1) := by decide +kernel
theorem dX10_clerkOf_24 : decode cX10_clerkOf 24 = .ok (.bipush 6, 2) := by decide +kernel
theorem dX10_clerkOf_26 : decode cX10_clerkOf 26 = .ok (.invokestatic 90, 3) := by decide +kernel
theorem dX10_clerkOf_29 : decode cX10_clerkOf 29 = .ok (.iaload, 1) := by decide +kernel
theorem dX10_clerkOf_30 : decode cX10_clerkOf 30 = .ok (.istore_n 2, 1) := by decide +kernel
theorem dX10_clerkOf_31 : decode cX10_clerkOf 31 = .ok (.iload_n 2, 1) := by decide +kernel
theorem dX10_clerkOf_32 : decode cX10_clerkOf 32 = .ok (.ifCond .ge 9, 3) := by decide +kernel
theorem dX10_clerkOf_35 : decode cX10_clerkOf 35 = .ok (.aload_n 0, 1) := by decide +kernel
theorem dX10_clerkOf_36 : decode cX10_clerkOf 36 = .ok (.iconst 2, 1) := by decide +kernel
theorem dX10_clerkOf_37 : decode cX10_clerkOf 37 = .ok (.invokevirtual 169, 3) := by decide +kernel
theorem dX10_clerkOf_40 : decode cX10_clerkOf 40 = .ok (.ireturn, 1) := by decide +kernel
theorem dX10_clerkOf_41 : decode cX10_clerkOf 41 = .ok (.iload_n 2, 1) := by decide +kernel
theorem dX10_clerkOf_42 : decode cX10_clerkOf 42 = .ok (.ireturn, 1) := by decide +kernel
set_option maxRecDepth 20000 in
theorem ggX10_waitingOf_X10_isPerson : GoodIn wsX10_waitingOf wsX10_isPerson := goodIn_r _ [6, 7, 8, 5, 9] (by decide +kernel) (by decide +kernel)
set_option maxRecDepth 20000 in
theorem gX10_waitingOf_X10_isPerson : GoodIn wsX10_waitingOf (va_wsS RX10 282 yX10_isPerson wsX10_isPerson) := goodIn_app (goodIn_of _ (by decide +kernel)) ggX10_waitingOf_X10_isPerson
set_option maxRecDepth 20000 in
theorem ggX10_waitingOf_X10_fails : GoodIn wsX10_waitingOf wsX10_fails := goodIn_r _ [13, 1, 35, 36, 37, 38, 39, 40, 41, 42, 43, 44, 45, 46, 47, 48, 49, 50, 51, 52, 53] (by decide +kernel) (by decide +kernel)
set_option maxRecDepth 20000 in
theorem gX10_waitingOf_X10_fails : GoodIn wsX10_waitingOf (wsV RX10 169 RX10 yX10_fails wsX10_fails) := goodIn_app (goodIn_of _ (by decide +kernel)) ggX10_waitingOf_X10_fails
set_option maxRecDepth 20000 in
theorem ggX10_waitingOf_X10_isSort : GoodIn wsX10_waitingOf wsX10_isSort := goodIn_r _ [16, 7, 8, 5, 9] (by decide +kernel) (by decide +kernel)
set_option maxRecDepth 20000 in
theorem gX10_waitingOf_X10_isSort : GoodIn wsX10_waitingOf (va_wsS RX10 263 yX10_isSort wsX10_isSort) := goodIn_app (goodIn_of _ (by decide +kernel)) ggX10_waitingOf_X10_isSort
set_option maxRecDepth 20000 in
theorem ggX10_waitingOf_X10_waitingBy : GoodIn wsX10_waitingOf wsX10_waitingBy := goodIn_r _ [19, 20, 21, 5, 22, 23, 24, 25, 26, 27, 28, 29, 30, 31, 32, 33, 34] (by decide +kernel) (by decide +kernel)
set_option maxRecDepth 20000 in
theorem gX10_waitingOf_X10_waitingBy : GoodIn wsX10_waitingOf (va_wsS RX10 234 yX10_waitingBy wsX10_waitingBy) := goodIn_app (goodIn_of _ (by decide +kernel)) ggX10_waitingOf_X10_waitingBy
theorem dX10_waitingOf_0 : decode cX10_waitingOf 0 = .ok (.aload_n 0, 1) := by decide +kernel
theorem dX10_waitingOf_1 : decode cX10_waitingOf 1 = .ok (.iconst 0, 1) := by decide +kernel
theorem dX10_waitingOf_2 : decode cX10_waitingOf 2 = .ok (.putfield 51, 3) := by decide +kernel
theorem dX10_waitingOf_5 : decode cX10_waitingOf 5 = .ok (.iload_n 1, 1) := by decide +kernel
theorem dX10_waitingOf_6 : decode cX10_waitingOf 6 = .ok (.invokestatic 282, 3) := by decide +kernel
theorem dX10_waitingOf_9 : decode cX10_waitingOf 9 = .ok (.ifCond .ne 9, 3) := by decide +kernel
theorem dX10_waitingOf_12 : decode cX10_waitingOf 12 = .ok (.aload_n 0, 1) := by decide +kernel
theorem dX10_waitingOf_13 : decode cX10_waitingOf 13 = .ok (.iconst 1, 1) := by decide +kernel
theorem dX10_waitingOf_14 : decode cX10_waitingOf 14 = .ok (.invokevirtual 169, 3) := by decide +kernel
theorem dX10_waitingOf_17 : decode cX10_waitingOf 17 = .ok (.ireturn, 1) := by decide +kernel
theorem dX10_waitingOf_18 : decode cX10_waitingOf 18 = .ok (.iload_n 2, 1) := by decide +kernel
theorem dX10_waitingOf_19 : decode cX10_waitingOf 19 = .ok (.invokestatic 263, 3) := by decide +kernel
theorem dX10_waitingOf_22 : decode cX10_waitingOf 22 = .ok (.ifCond .ne 9, 3) := by decide +kernel
theorem dX10_waitingOf_25 : decode cX10_waitingOf 25 = .ok (.aload_n 0, 1) := by decide +kernel
theorem dX10_waitingOf_26 : decode cX10_waitingOf 26 = .ok (.iconst 1, 1) := by decide +kernel
theorem dX10_waitingOf_27 : decode cX10_waitingOf 27 = .ok (.invokevirtual 169, 3) := by decide +kernel
theorem dX10_waitingOf_30 : decode cX10_waitingOf 30 = .ok (.ireturn, 1) := by decide +kernel
theorem dX10_waitingOf_31 : decode cX10_waitingOf 31 = .ok (.aload_n 0, 1) := by decide +kernel
theorem dX10_waitingOf_32 : decode cX10_waitingOf 32 = .ok (.getfield 7, 3) := by decide +kernel
theorem dX10_waitingOf_35 : decode cX10_waitingOf 35 = .ok (.iload_n 1, 1) := by decide +kernel
theorem dX10_waitingOf_36 : decode cX10_waitingOf 36 = .ok (.iload_n 2, 1) := by decide +kernel
theorem dX10_waitingOf_37 : decode cX10_waitingOf 37 = .ok (.invokestatic 234, 3) := by decide +kernel
theorem dX10_waitingOf_40 : decode cX10_waitingOf 40 = .ok (.istore_n 3, 1) := by decide +kernel
theorem dX10_waitingOf_41 : decode cX10_waitingOf 41 = .ok (.iload_n 3, 1) := by decide +kernel
theorem dX10_waitingOf_42 : decode cX10_waitingOf 42 = .ok (.ifCond .ge 9, 3) := by decide +kernel
theorem dX10_waitingOf_45 : decode cX10_waitingOf 45 = .ok (.aload_n 0, 1) := by decide +kernel
theorem dX10_waitingOf_46 : decode cX10_waitingOf 46 = .ok (.iconst 2, 1) := by decide +kernel
theorem dX10_waitingOf_47 : decode cX10_waitingOf 47 = .ok (.invokevirtual 169, 3) := by decide +kernel
theorem dX10_waitingOf_50 : decode cX10_waitingOf 50 = .ok (.ireturn, 1) := by decide +kernel
theorem dX10_waitingOf_51 : decode cX10_waitingOf 51 = .ok (.iload_n 3, 1) := by decide +kernel
theorem dX10_waitingOf_52 : decode cX10_waitingOf 52 = .ok (.ireturn, 1) := by decide +kernel
set_option maxRecDepth 20000 in
theorem ggX10_waitingCount_X10_countOf : GoodIn wsX10_waitingCount wsX10_countOf := goodIn_r _ [6, 7, 8, 5, 9, 10, 11, 12] (by decide +kernel) (by decide +kernel)
set_option maxRecDepth 20000 in
theorem gX10_waitingCount_X10_countOf : GoodIn wsX10_waitingCount (va_wsS RX10 157 yX10_countOf wsX10_countOf) := goodIn_app (goodIn_of _ (by decide +kernel)) ggX10_waitingCount_X10_countOf
theorem dX10_waitingCount_0 : decode cX10_waitingCount 0 = .ok (.aload_n 0, 1) := by decide +kernel
theorem dX10_waitingCount_1 : decode cX10_waitingCount 1 = .ok (.iconst 0, 1) := by decide +kernel
theorem dX10_waitingCount_2 : decode cX10_waitingCount 2 = .ok (.putfield 51, 3) := by decide +kernel
theorem dX10_waitingCount_5 : decode cX10_waitingCount 5 = .ok (.aload_n 0, 1) := by decide +kernel
theorem dX10_waitingCount_6 : decode cX10_waitingCount 6 = .ok (.getfield 7, 3) := by decide +kernel
theorem dX10_waitingCount_9 : decode cX10_waitingCount 9 = .ok (.iconst 0, 1) := by decide +kernel
theorem dX10_waitingCount_10 : decode cX10_waitingCount 10 = .ok (.invokestatic 157, 3) := by decide +kernel
theorem dX10_waitingCount_13 : decode cX10_waitingCount 13 = .ok (.ireturn, 1) := by decide +kernel
set_option maxRecDepth 20000 in
theorem ggX10_answeredCount_X10_countOf : GoodIn wsX10_answeredCount wsX10_countOf := goodIn_r _ [6, 7, 8, 5, 9, 10, 11, 12] (by decide +kernel) (by decide +kernel)
set_option maxRecDepth 20000 in
theorem gX10_answeredCount_X10_countOf : GoodIn wsX10_answeredCount (va_wsS RX10 157 yX10_countOf wsX10_countOf) := goodIn_app (goodIn_of _ (by decide +kernel)) ggX10_answeredCount_X10_countOf
theorem dX10_answeredCount_0 : decode cX10_answeredCount 0 = .ok (.aload_n 0, 1) := by decide +kernel
theorem dX10_answeredCount_1 : decode cX10_answeredCount 1 = .ok (.iconst 0, 1) := by decide +kernel
theorem dX10_answeredCount_2 : decode cX10_answeredCount 2 = .ok (.putfield 51, 3) := by decide +kernel
theorem dX10_answeredCount_5 : decode cX10_answeredCount 5 = .ok (.aload_n 0, 1) := by decide +kernel
theorem dX10_answeredCount_6 : decode cX10_answeredCount 6 = .ok (.getfield 7, 3) := by decide +kernel
theorem dX10_answeredCount_9 : decode cX10_answeredCount 9 = .ok (.iconst 1, 1) := by decide +kernel
theorem dX10_answeredCount_10 : decode cX10_answeredCount 10 = .ok (.invokestatic 157, 3) := by decide +kernel
theorem dX10_answeredCount_13 : decode cX10_answeredCount 13 = .ok (.ireturn, 1) := by decide +kernel
set_option maxRecDepth 20000 in
theorem ggX10_dismissedCount_X10_countOf : GoodIn wsX10_dismissedCount wsX10_countOf := goodIn_r _ [6, 7, 8, 5, 9, 10, 11, 12] (by decide +kernel) (by decide +kernel)
set_option maxRecDepth 20000 in
theorem gX10_dismissedCount_X10_countOf : GoodIn wsX10_dismissedCount (va_wsS RX10 157 yX10_countOf wsX10_countOf) := goodIn_app (goodIn_of _ (by decide +kernel)) ggX10_dismissedCount_X10_countOf
theorem dX10_dismissedCount_0 : decode cX10_dismissedCount 0 = .ok (.aload_n 0, 1) := by decide +kernel
theorem dX10_dismissedCount_1 : decode cX10_dismissedCount 1 = .ok (.iconst 0, 1) := by decide +kernel
theorem dX10_dismissedCount_2 : decode cX10_dismissedCount 2 = .ok (.putfield 51, 3) := by decide +kernel
theorem dX10_dismissedCount_5 : decode cX10_dismissedCount 5 = .ok (.aload_n 0, 1) := by decide +kernel
theorem dX10_dismissedCount_6 : decode cX10_dismissedCount 6 = .ok (.getfield 7, 3) := by decide +kernel
theorem dX10_dismissedCount_9 : decode cX10_dismissedCount 9 = .ok (.iconst 2, 1) := by decide +kernel
theorem dX10_dismissedCount_10 : decode cX10_dismissedCount 10 = .ok (.invokestatic 157, 3) := by decide +kernel
theorem dX10_dismissedCount_13 : decode cX10_dismissedCount 13 = .ok (.ireturn, 1) := by decide +kernel
set_option maxRecDepth 20000 in
theorem ggX10_givenUpCount_X10_countOf : GoodIn wsX10_givenUpCount wsX10_countOf := goodIn_r _ [6, 7, 8, 5, 9, 10, 11, 12] (by decide +kernel) (by decide +kernel)
set_option maxRecDepth 20000 in
theorem gX10_givenUpCount_X10_countOf : GoodIn wsX10_givenUpCount (va_wsS RX10 157 yX10_countOf wsX10_countOf) := goodIn_app (goodIn_of _ (by decide +kernel)) ggX10_givenUpCount_X10_countOf
theorem dX10_givenUpCount_0 : decode cX10_givenUpCount 0 = .ok (.aload_n 0, 1) := by decide +kernel
theorem dX10_givenUpCount_1 : decode cX10_givenUpCount 1 = .ok (.iconst 0, 1) := by decide +kernel
theorem dX10_givenUpCount_2 : decode cX10_givenUpCount 2 = .ok (.putfield 51, 3) := by decide +kernel
theorem dX10_givenUpCount_5 : decode cX10_givenUpCount 5 = .ok (.aload_n 0, 1) := by decide +kernel
theorem dX10_givenUpCount_6 : decode cX10_givenUpCount 6 = .ok (.getfield 7, 3) := by decide +kernel
theorem dX10_givenUpCount_9 : decode cX10_givenUpCount 9 = .ok (.iconst 3, 1) := by decide +kernel
theorem dX10_givenUpCount_10 : decode cX10_givenUpCount 10 = .ok (.invokestatic 157, 3) := by decide +kernel
theorem dX10_givenUpCount_13 : decode cX10_givenUpCount 13 = .ok (.ireturn, 1) := by decide +kernel
set_option maxRecDepth 20000 in
theorem ggX10_oldest_X10_oldestOf : GoodIn wsX10_oldest wsX10_oldestOf := goodIn_r _ [6, 7, 8, 5, 9, 10, 11, 12, 13, 14, 15, 16, 17, 18, 19, 20, 21] (by decide +kernel) (by decide +kernel)
set_option maxRecDepth 20000 in
theorem gX10_oldest_X10_oldestOf : GoodIn wsX10_oldest (va_wsS RX10 132 yX10_oldestOf wsX10_oldestOf) := goodIn_app (goodIn_of _ (by decide +kernel)) ggX10_oldest_X10_oldestOf
set_option maxRecDepth 20000 in
theorem ggX10_oldest_X10_fails : GoodIn wsX10_oldest wsX10_fails := goodIn_r _ [25, 1, 26, 27, 28, 29, 30, 31, 32, 33, 34, 35, 36, 37, 38, 39, 40, 41, 42, 43, 44] (by decide +kernel) (by decide +kernel)
set_option maxRecDepth 20000 in
theorem gX10_oldest_X10_fails : GoodIn wsX10_oldest (wsV RX10 169 RX10 yX10_fails wsX10_fails) := goodIn_app (goodIn_of _ (by decide +kernel)) ggX10_oldest_X10_fails
theorem dX10_oldest_0 : decode cX10_oldest 0 = .ok (.aload_n 0, 1) := by decide +kernel
theorem dX10_oldest_1 : decode cX10_oldest 1 = .ok (.iconst 0, 1) := by decide +kernel
theorem dX10_oldest_2 : decode cX10_oldest 2 = .ok (.putfield 51, 3) := by decide +kernel
theorem dX10_oldest_5 : decode cX10_oldest 5 = .ok (.aload_n 0, 1) := by decide +kernel
theorem dX10_oldest_6 : decode cX10_oldest 6 = .ok (.getfield 7, 3) := by decide +kernel
theorem dX10_oldest_9 : decode cX10_oldest 9 = .ok (.invokestatic 132, 3) := by decide +kernel
theorem dX10_oldest_12 : decode cX10_oldest 12 = .ok (.istore_n 1, 1) := by decide +kernel
theorem dX10_oldest_13 : decode cX10_oldest 13 = .ok (.iload_n 1, 1) := by decide +kernel
theorem dX10_oldest_14 : decode cX10_oldest 14 = .ok (.ifCond .ge 9, 3) := by decide +kernel
theorem dX10_oldest_17 : decode cX10_oldest 17 = .ok (.aload_n 0, 1) := by decide +kernel
theorem dX10_oldest_18 : decode cX10_oldest 18 = .ok (.iconst 1, 1) := by decide +kernel
theorem dX10_oldest_19 : decode cX10_oldest 19 = .ok (.invokevirtual 169, 3) := by decide +kernel
theorem dX10_oldest_22 : decode cX10_oldest 22 = .ok (.ireturn, 1) := by decide +kernel
theorem dX10_oldest_23 : decode cX10_oldest 23 = .ok (.iload_n 1, 1) := by decide +kernel
theorem dX10_oldest_24 : decode cX10_oldest 24 = .ok (.ireturn, 1) := by decide +kernel
set_option maxRecDepth 20000 in
theorem ggX10_angriest_X10_waits : GoodIn wsX10_angriest wsX10_waits := goodIn_r _ [6, 7, 8, 5, 9, 10, 11, 12] (by decide +kernel) (by decide +kernel)
set_option maxRecDepth 20000 in
theorem gX10_angriest_X10_waits : GoodIn wsX10_angriest (va_wsS RX10 108 yX10_waits wsX10_waits) := goodIn_app (goodIn_of _ (by decide +kernel)) ggX10_angriest_X10_waits
set_option maxRecDepth 20000 in
theorem ggX10_angriest_X10_isAngrier : GoodIn wsX10_angriest wsX10_isAngrier := goodIn_r _ [15, 16, 17, 5, 18, 10, 11, 12] (by decide +kernel) (by decide +kernel)
set_option maxRecDepth 20000 in
theorem gX10_angriest_X10_isAngrier : GoodIn wsX10_angriest (va_wsS RX10 118 yX10_isAngrier wsX10_isAngrier) := goodIn_app (goodIn_of _ (by decide +kernel)) ggX10_angriest_X10_isAngrier
set_option maxRecDepth 20000 in
theorem ggX10_angriest_X10_fails : GoodIn wsX10_angriest wsX10_fails := goodIn_r _ [22, 1, 23, 24, 25, 26, 27, 28, 29, 30, 31, 32, 33, 34, 35, 36, 37, 38, 39, 40, 41] (by decide +kernel) (by decide +kernel)
set_option maxRecDepth 20000 in
theorem gX10_angriest_X10_fails : GoodIn wsX10_angriest (wsV RX10 169 RX10 yX10_fails wsX10_fails) := goodIn_app (goodIn_of _ (by decide +kernel)) ggX10_angriest_X10_fails
theorem dX10_angriest_0 : decode cX10_angriest 0 = .ok (.aload_n 0, 1) := by decide +kernel
theorem dX10_angriest_1 : decode cX10_angriest 1 = .ok (.iconst 0, 1) := by decide +kernel
theorem dX10_angriest_2 : decode cX10_angriest 2 = .ok (.putfield 51, 3) := by decide +kernel
theorem dX10_angriest_5 : decode cX10_angriest 5 = .ok (.iconst (-1), 1) := by decide +kernel
theorem dX10_angriest_6 : decode cX10_angriest 6 = .ok (.istore_n 1, 1) := by decide +kernel
theorem dX10_angriest_7 : decode cX10_angriest 7 = .ok (.iconst 0, 1) := by decide +kernel
theorem dX10_angriest_8 : decode cX10_angriest 8 = .ok (.istore_n 2, 1) := by decide +kernel
theorem dX10_angriest_9 : decode cX10_angriest 9 = .ok (.iload_n 2, 1) := by decide +kernel
theorem dX10_angriest_10 : decode cX10_angriest 10 = .ok (.aload_n 0, 1) := by decide +kernel
theorem dX10_angriest_11 : decode cX10_angriest 11 = .ok (.getfield 7, 3) := by decide +kernel
theorem dX10_angriest_14 : decode cX10_angriest 14 = .ok (.bipush 6, 2) := by decide +kernel
theorem dX10_angriest_16 : decode cX10_angriest 16 = .ok (.iaload, 1) := by decide +kernel
theorem dX10_angriest_17 : decode cX10_angriest 17 = .ok (.if_icmp .ge 41, 3) := by decide +kernel
theorem dX10_angriest_20 : decode cX10_angriest 20 = .ok (.aload_n 0, 1) := by decide +kernel
theorem dX10_angriest_21 : decode cX10_angriest 21 = .ok (.getfield 7, 3) := by decide +kernel
theorem dX10_angriest_24 : decode cX10_angriest 24 = .ok (.iload_n 2, 1) := by decide +kernel
theorem dX10_angriest_25 : decode cX10_angriest 25 = .ok (.invokestatic 108, 3) := by decide +kernel
theorem dX10_angriest_28 : decode cX10_angriest 28 = .ok (.ifCond .ne 6, 3) := by decide +kernel
theorem dX10_angriest_31 : decode cX10_angriest 31 = .ok (.goto 21, 3) := by decide +kernel
theorem dX10_angriest_34 : decode cX10_angriest 34 = .ok (.iload_n 1, 1) := by decide +kernel
theorem dX10_angriest_35 : decode cX10_angriest 35 = .ok (.ifCond .lt 15, 3) := by decide +kernel
theorem dX10_angriest_38 : decode cX10_angriest 38 = .ok (.aload_n 0, 1) := by decide +kernel
theorem dX10_angriest_39 : decode cX10_angriest 39 = .ok (.getfield 7, 3) := by decide +kernel
theorem dX10_angriest_42 : decode cX10_angriest 42 = .ok (.iload_n 2, 1) := by decide +kernel
theorem dX10_angriest_43 : decode cX10_angriest 43 = .ok (.iload_n 1, 1) := by decide +kernel
theorem dX10_angriest_44 : decode cX10_angriest 44 = .ok (.invokestatic 118, 3) := by decide +kernel
theorem dX10_angriest_47 : decode cX10_angriest 47 = .ok (.ifCond .eq 5, 3) := by decide +kernel
theorem dX10_angriest_50 : decode cX10_angriest 50 = .ok (.iload_n 2, 1) := by decide +kernel
theorem dX10_angriest_51 : decode cX10_angriest 51 = .ok (.istore_n 1, 1) := by decide +kernel
theorem dX10_angriest_52 : decode cX10_angriest 52 = .ok (.iinc 2 1, 3) := by decide +kernel
theorem dX10_angriest_55 : decode cX10_angriest 55 = .ok (.goto (-46), 3) := by decide +kernel
theorem dX10_angriest_58 : decode cX10_angriest 58 = .ok (.iload_n 1, 1) := by decide +kernel
theorem dX10_angriest_59 : decode cX10_angriest 59 = .ok (.ifCond .ge 9, 3) := by decide +kernel
theorem dX10_angriest_62 : decode cX10_angriest 62 = .ok (.aload_n 0, 1) := by decide +kernel
theorem dX10_angriest_63 : decode cX10_angriest 63 = .ok (.iconst 1, 1) := by decide +kernel
theorem dX10_angriest_64 : decode cX10_angriest 64 = .ok (.invokevirtual 169, 3) := by decide +kernel
theorem dX10_angriest_67 : decode cX10_angriest 67 = .ok (.ireturn, 1) := by decide +kernel
theorem dX10_angriest_68 : decode cX10_angriest 68 = .ok (.iload_n 1, 1) := by decide +kernel
theorem dX10_angriest_69 : decode cX10_angriest 69 = .ok (.ireturn, 1) := by decide +kernel
set_option maxRecDepth 20000 in
theorem ggX10_complaintsOf_X10_isPerson : GoodIn wsX10_complaintsOf wsX10_isPerson := goodIn_r _ [6, 7, 8, 5, 9] (by decide +kernel) (by decide +kernel)
set_option maxRecDepth 20000 in
theorem gX10_complaintsOf_X10_isPerson : GoodIn wsX10_complaintsOf (va_wsS RX10 282 yX10_isPerson wsX10_isPerson) := goodIn_app (goodIn_of _ (by decide +kernel)) ggX10_complaintsOf_X10_isPerson
set_option maxRecDepth 20000 in
theorem ggX10_complaintsOf_X10_fails : GoodIn wsX10_complaintsOf wsX10_fails := goodIn_r _ [13, 1, 20, 21, 22, 23, 24, 25, 26, 27, 28, 29, 30, 31, 32, 33, 34, 35, 36, 37, 38] (by decide +kernel) (by decide +kernel)
set_option maxRecDepth 20000 in
theorem gX10_complaintsOf_X10_fails : GoodIn wsX10_complaintsOf (wsV RX10 169 RX10 yX10_fails wsX10_fails) := goodIn_app (goodIn_of _ (by decide +kernel)) ggX10_complaintsOf_X10_fails
set_option maxRecDepth 20000 in
theorem ggX10_complaintsOf_X10_personIn : GoodIn wsX10_complaintsOf wsX10_personIn := goodIn_r _ [16, 17, 18, 5, 19] (by decide +kernel) (by decide +kernel)
set_option maxRecDepth 20000 in
theorem gX10_complaintsOf_X10_personIn : GoodIn wsX10_complaintsOf (va_wsS RX10 112 yX10_personIn wsX10_personIn) := goodIn_app (goodIn_of _ (by decide +kernel)) ggX10_complaintsOf_X10_personIn
theorem dX10_complaintsOf_0 : decode cX10_complaintsOf 0 = .ok (.aload_n 0, 1) := by decide +kernel
theorem dX10_complaintsOf_1 : decode cX10_complaintsOf 1 = .ok (.iconst 0, 1) := by decide +kernel
theorem dX10_complaintsOf_2 : decode cX10_complaintsOf 2 = .ok (.putfield 51, 3) := by decide +kernel
theorem dX10_complaintsOf_5 : decode cX10_complaintsOf 5 = .ok (.iload_n 1, 1) := by decide +kernel
theorem dX10_complaintsOf_6 : decode cX10_complaintsOf 6 = .ok (.invokestatic 282, 3) := by decide +kernel
theorem dX10_complaintsOf_9 : decode cX10_complaintsOf 9 = .ok (.ifCond .ne 9, 3) := by decide +kernel
theorem dX10_complaintsOf_12 : decode cX10_complaintsOf 12 = .ok (.aload_n 0, 1) := by decide +kernel
theorem dX10_complaintsOf_13 : decode cX10_complaintsOf 13 = .ok (.iconst 1, 1) := by decide +kernel
theorem dX10_complaintsOf_14 : decode cX10_complaintsOf 14 = .ok (.invokevirtual 169, 3) := by decide +kernel
theorem dX10_complaintsOf_17 : decode cX10_complaintsOf 17 = .ok (.ireturn, 1) := by decide +kernel
theorem dX10_complaintsOf_18 : decode cX10_complaintsOf 18 = .ok (.iconst 0, 1) := by decide +kernel
theorem dX10_complaintsOf_19 : decode cX10_complaintsOf 19 = .ok (.istore_n 2, 1) := by decide +kernel
theorem dX10_complaintsOf_20 : decode cX10_complaintsOf 20 = .ok (.iconst 0, 1) := by decide +kernel
theorem dX10_complaintsOf_21 : decode cX10_complaintsOf 21 = .ok (.istore_n 3, 1) := by decide +kernel
theorem dX10_complaintsOf_22 : decode cX10_complaintsOf 22 = .ok (.iload_n 3, 1) := by decide +kernel
theorem dX10_complaintsOf_23 : decode cX10_complaintsOf 23 = .ok (.aload_n 0, 1) := by decide +kernel
theorem dX10_complaintsOf_24 : decode cX10_complaintsOf 24 = .ok (.getfield 7, 3) := by decide +kernel
theorem dX10_complaintsOf_27 : decode cX10_complaintsOf 27 = .ok (.bipush 6, 2) := by decide +kernel
theorem dX10_complaintsOf_29 : decode cX10_complaintsOf 29 = .ok (.iaload, 1) := by decide +kernel
theorem dX10_complaintsOf_30 : decode cX10_complaintsOf 30 = .ok (.if_icmp .ge 24, 3) := by decide +kernel
theorem dX10_complaintsOf_33 : decode cX10_complaintsOf 33 = .ok (.aload_n 0, 1) := by decide +kernel
theorem dX10_complaintsOf_34 : decode cX10_complaintsOf 34 = .ok (.getfield 7, 3) := by decide +kernel
theorem dX10_complaintsOf_37 : decode cX10_complaintsOf 37 = .ok (.iload_n 3, 1) := by decide +kernel
theorem dX10_complaintsOf_38 : decode cX10_complaintsOf 38 = .ok (.invokestatic 112, 3) := by decide +kernel
theorem dX10_complaintsOf_41 : decode cX10_complaintsOf 41 = .ok (.iload_n 1, 1) := by decide +kernel
theorem dX10_complaintsOf_42 : decode cX10_complaintsOf 42 = .ok (.if_icmp .ne 6, 3) := by decide +kernel
theorem dX10_complaintsOf_45 : decode cX10_complaintsOf 45 = .ok (.iinc 2 1, 3) := by decide +kernel
theorem dX10_complaintsOf_48 : decode cX10_complaintsOf 48 = .ok (.iinc 3 1, 3) := by decide +kernel
theorem dX10_complaintsOf_51 : decode cX10_complaintsOf 51 = .ok (.goto (-29), 3) := by decide +kernel
theorem dX10_complaintsOf_54 : decode cX10_complaintsOf 54 = .ok (.iload_n 2, 1) := by decide +kernel
theorem dX10_complaintsOf_55 : decode cX10_complaintsOf 55 = .ok (.ireturn, 1) := by decide +kernel
set_option maxRecDepth 20000 in
theorem ggX10_clerkNumber_X10_isClerk : GoodIn wsX10_clerkNumber wsX10_isClerk := goodIn_r _ [6, 1, 7, 8, 5, 9, 18, 19, 20, 21, 22, 23, 24, 25, 26, 27, 28, 29, 30, 31, 32, 33, 34, 35, 36] (by decide +kernel) (by decide +kernel)
set_option maxRecDepth 20000 in
theorem gX10_clerkNumber_X10_isClerk : GoodIn wsX10_clerkNumber (wsV RX10 285 RX10 yX10_isClerk wsX10_isClerk) := goodIn_app (goodIn_of _ (by decide +kernel)) ggX10_clerkNumber_X10_isClerk
set_option maxRecDepth 20000 in
theorem ggX10_clerkNumber_X10_clerkAt : GoodIn wsX10_clerkNumber wsX10_clerkAt := goodIn_r _ [12] (by decide +kernel) (by decide +kernel)
set_option maxRecDepth 20000 in
theorem gX10_clerkNumber_X10_clerkAt : GoodIn wsX10_clerkNumber (va_wsS RX10 87 yX10_clerkAt wsX10_clerkAt) := goodIn_app (goodIn_of _ (by decide +kernel)) ggX10_clerkNumber_X10_clerkAt
set_option maxRecDepth 20000 in
theorem ggX10_clerkNumber_X10_fails : GoodIn wsX10_clerkNumber wsX10_fails := goodIn_r _ [16, 17, 18, 19, 20, 21, 22, 23, 24, 25, 26, 27, 28, 29, 30, 31, 32, 33, 34, 35, 36] (by decide +kernel) (by decide +kernel)
set_option maxRecDepth 20000 in
theorem gX10_clerkNumber_X10_fails : GoodIn wsX10_clerkNumber (wsV RX10 169 RX10 yX10_fails wsX10_fails) := goodIn_app (goodIn_of _ (by decide +kernel)) ggX10_clerkNumber_X10_fails
theorem dX10_clerkNumber_0 : decode cX10_clerkNumber 0 = .ok (.aload_n 0, 1) := by decide +kernel
theorem dX10_clerkNumber_1 : decode cX10_clerkNumber 1 = .ok (.iload_n 1, 1) := by decide +kernel
theorem dX10_clerkNumber_2 : decode cX10_clerkNumber 2 = .ok (.invokevirtual 285, 3) := by decide +kernel
theorem dX10_clerkNumber_5 : decode cX10_clerkNumber 5 = .ok (.ifCond .eq 14, 3) := by decide +kernel
theorem dX10_clerkNumber_8 : decode cX10_clerkNumber 8 = .ok (.aload_n 0, 1) := by decide +kernel
theorem dX10_clerkNumber_9 : decode cX10_clerkNumber 9 = .ok (.getfield 7, 3) := by decide +kernel
theorem dX10_clerkNumber_12 : decode cX10_clerkNumber 12 = .ok (.iload_n 1, 1) := by decide +kernel
theorem dX10_clerkNumber_13 : decode cX10_clerkNumber 13 = .ok (.iload_n 2, 1) := by decide +kernel
theorem dX10_clerkNumber_14 : decode cX10_clerkNumber 14 = .ok (.invokestatic 87, 3) := by decide +kernel
theorem dX10_clerkNumber_17 : decode cX10_clerkNumber 17 = .ok (.iaload, 1) := by decide +kernel
theorem dX10_clerkNumber_18 : decode cX10_clerkNumber 18 = .ok (.ireturn, 1) := by decide +kernel
theorem dX10_clerkNumber_19 : decode cX10_clerkNumber 19 = .ok (.aload_n 0, 1) := by decide +kernel
theorem dX10_clerkNumber_20 : decode cX10_clerkNumber 20 = .ok (.iconst 1, 1) := by decide +kernel
theorem dX10_clerkNumber_21 : decode cX10_clerkNumber 21 = .ok (.invokevirtual 169, 3) := by decide +kernel
theorem dX10_clerkNumber_24 : decode cX10_clerkNumber 24 = .ok (.ireturn, 1) := by decide +kernel
theorem dX10_clerkCount_0 : decode cX10_clerkCount 0 = .ok (.aload_n 0, 1) := by decide +kernel
theorem dX10_clerkCount_1 : decode cX10_clerkCount 1 = .ok (.iconst 0, 1) := by decide +kernel
theorem dX10_clerkCount_2 : decode cX10_clerkCount 2 = .ok (.putfield 51, 3) := by decide +kernel
theorem dX10_clerkCount_5 : decode cX10_clerkCount 5 = .ok (.aload_n 0, 1) := by decide +kernel
theorem dX10_clerkCount_6 : decode cX10_clerkCount 6 = .ok (.getfield 7, 3) := by decide +kernel
theorem dX10_clerkCount_9 : decode cX10_clerkCount 9 = .ok (.iconst 5, 1) := by decide +kernel
theorem dX10_clerkCount_10 : decode cX10_clerkCount 10 = .ok (.iaload, 1) := by decide +kernel
theorem dX10_clerkCount_11 : decode cX10_clerkCount 11 = .ok (.ireturn, 1) := by decide +kernel
set_option maxRecDepth 20000 in
theorem ggX10_darkestClerk_X10_fails : GoodIn wsX10_darkestClerk wsX10_fails := goodIn_r _ [7, 1, 17, 18, 19, 20, 21, 22, 23, 24, 25, 26, 27, 28, 29, 30, 31, 32, 33, 34, 35] (by decide +kernel) (by decide +kernel)
set_option maxRecDepth 20000 in
theorem gX10_darkestClerk_X10_fails : GoodIn wsX10_darkestClerk (wsV RX10 169 RX10 yX10_fails wsX10_fails) := goodIn_app (goodIn_of _ (by decide +kernel)) ggX10_darkestClerk_X10_fails
set_option maxRecDepth 20000 in
theorem ggX10_darkestClerk_X10_isDarker : GoodIn wsX10_darkestClerk wsX10_isDarker := goodIn_r _ [10, 11, 12, 6, 13, 14, 15, 16] (by decide +kernel) (by decide +kernel)
set_option maxRecDepth 20000 in
theorem gX10_darkestClerk_X10_isDarker : GoodIn wsX10_darkestClerk (va_wsS RX10 288 yX10_isDarker wsX10_isDarker) := goodIn_app (goodIn_of _ (by decide +kernel)) ggX10_darkestClerk_X10_isDarker
theorem dX10_darkestClerk_0 : decode cX10_darkestClerk 0 = .ok (.aload_n 0, 1) := by decide +kernel
theorem dX10_darkestClerk_1 : decode cX10_darkestClerk 1 = .ok (.iconst 0, 1) := by decide +kernel
theorem dX10_darkestClerk_2 : decode cX10_darkestClerk 2 = .ok (.putfield 51, 3) := by decide +kernel
theorem dX10_darkestClerk_5 : decode cX10_darkestClerk 5 = .ok (.aload_n 0, 1) := by decide +kernel
theorem dX10_darkestClerk_6 : decode cX10_darkestClerk 6 = .ok (.getfield 7, 3) := by decide +kernel
theorem dX10_darkestClerk_9 : decode cX10_darkestClerk 9 = .ok (.iconst 5, 1) := by decide +kernel
theorem dX10_darkestClerk_10 : decode cX10_darkestClerk 10 = .ok (.iaload, 1) := by decide +kernel
theorem dX10_darkestClerk_11 : decode cX10_darkestClerk 11 = .ok (.ifCond .ne 9, 3) := by decide +kernel
theorem dX10_darkestClerk_14 : decode cX10_darkestClerk 14 = .ok (.aload_n 0, 1) := by decide +kernel
theorem dX10_darkestClerk_15 : decode cX10_darkestClerk 15 = .ok (.iconst 1, 1) := by decide +kernel
theorem dX10_darkestClerk_16 : decode cX10_darkestClerk 16 = .ok (.invokevirtual 169, 3) := by decide +kernel
theorem dX10_darkestClerk_19 : decode cX10_darkestClerk 19 = .ok (.ireturn, 1) := by decide +kernel
theorem dX10_darkestClerk_20 : decode cX10_darkestClerk 20 = .ok (.iconst 0, 1) := by decide +kernel
theorem dX10_darkestClerk_21 : decode cX10_darkestClerk 21 = .ok (.istore_n 1, 1) := by decide +kernel
theorem dX10_darkestClerk_22 : decode cX10_darkestClerk 22 = .ok (.iconst 1, 1) := by decide +kernel
theorem dX10_darkestClerk_23 : decode cX10_darkestClerk 23 = .ok (.istore_n 2, 1) := by decide +kernel
theorem dX10_darkestClerk_24 : decode cX10_darkestClerk 24 = .ok (.iload_n 2, 1) := by decide +kernel
theorem dX10_darkestClerk_25 : decode cX10_darkestClerk 25 = .ok (.aload_n 0, 1) := by decide +kernel
theorem dX10_darkestClerk_26 : decode cX10_darkestClerk 26 = .ok (.getfield 7, 3) := by decide +kernel
theorem dX10_darkestClerk_29 : decode cX10_darkestClerk 29 = .ok (.iconst 5, 1) := by decide +kernel
theorem dX10_darkestClerk_30 : decode cX10_darkestClerk 30 = .ok (.iaload, 1) := by decide +kernel
theorem dX10_darkestClerk_31 : decode cX10_darkestClerk 31 = .ok (.if_icmp .ge 23, 3) := by decide +kernel
theorem dX10_darkestClerk_34 : decode cX10_darkestClerk 34 = .ok (.aload_n 0, 1) := by decide +kernel
theorem dX10_darkestClerk_35 : decode cX10_darkestClerk 35 = .ok (.getfield 7, 3) := by decide +kernel
theorem dX10_darkestClerk_38 : decode cX10_darkestClerk 38 = .ok (.iload_n 2, 1) := by decide +kernel
theorem dX10_darkestClerk_39 : decode cX10_darkestClerk 39 = .ok (.iload_n 1, 1) := by decide +kernel
theorem dX10_darkestClerk_40 : decode cX10_darkestClerk 40 = .ok (.invokestatic 288, 3) := by decide +kernel
theorem dX10_darkestClerk_43 : decode cX10_darkestClerk 43 = .ok (.ifCond .eq 5, 3) := by decide +kernel
theorem dX10_darkestClerk_46 : decode cX10_darkestClerk 46 = .ok (.iload_n 2, 1) := by decide +kernel
theorem dX10_darkestClerk_47 : decode cX10_darkestClerk 47 = .ok (.istore_n 1, 1) := by decide +kernel
theorem dX10_darkestClerk_48 : decode cX10_darkestClerk 48 = .ok (.iinc 2 1, 3) := by decide +kernel
theorem dX10_darkestClerk_51 : decode cX10_darkestClerk 51 = .ok (.goto (-27), 3) := by decide +kernel
theorem dX10_darkestClerk_54 : decode cX10_darkestClerk 54 = .ok (.iload_n 1, 1) := by decide +kernel
theorem dX10_darkestClerk_55 : decode cX10_darkestClerk 55 = .ok (.ireturn, 1) := by decide +kernel
set_option maxRecDepth 20000 in
theorem ggX10_skillOf_X10_clerkNumber : GoodIn wsX10_skillOf wsX10_clerkNumber := goodIn_r _ [6, 7, 8, 9, 10, 5, 11, 12, 13, 14, 15, 16, 17, 18, 19, 20, 21, 1, 22, 23, 24, 25, 26, 27, 28, 29, 30, 31, 32, 33, 34, 35, 36, 37, 38, 39, 40] (by decide +kernel) (by decide +kernel)
set_option maxRecDepth 20000 in
theorem gX10_skillOf_X10_clerkNumber : GoodIn wsX10_skillOf (wsV RX10 291 RX10 yX10_clerkNumber wsX10_clerkNumber) := goodIn_app (goodIn_of _ (by decide +kernel)) ggX10_skillOf_X10_clerkNumber
theorem dX10_skillOf_0 : decode cX10_skillOf 0 = .ok (.aload_n 0, 1) := by decide +kernel
theorem dX10_skillOf_1 : decode cX10_skillOf 1 = .ok (.iconst 0, 1) := by decide +kernel
theorem dX10_skillOf_2 : decode cX10_skillOf 2 = .ok (.putfield 51, 3) := by decide +kernel
theorem dX10_skillOf_5 : decode cX10_skillOf 5 = .ok (.aload_n 0, 1) := by decide +kernel
theorem dX10_skillOf_6 : decode cX10_skillOf 6 = .ok (.iload_n 1, 1) := by decide +kernel
theorem dX10_skillOf_7 : decode cX10_skillOf 7 = .ok (.iconst 0, 1) := by decide +kernel
theorem dX10_skillOf_8 : decode cX10_skillOf 8 = .ok (.invokevirtual 291, 3) := by decide +kernel
theorem dX10_skillOf_11 : decode cX10_skillOf 11 = .ok (.ireturn, 1) := by decide +kernel
set_option maxRecDepth 20000 in
theorem ggX10_oilOf_X10_clerkNumber : GoodIn wsX10_oilOf wsX10_clerkNumber := goodIn_r _ [6, 7, 8, 9, 10, 5, 11, 12, 13, 14, 15, 16, 17, 18, 19, 20, 21, 1, 22, 23, 24, 25, 26, 27, 28, 29, 30, 31, 32, 33, 34, 35, 36, 37, 38, 39, 40] (by decide +kernel) (by decide +kernel)
set_option maxRecDepth 20000 in
theorem gX10_oilOf_X10_clerkNumber : GoodIn wsX10_oilOf (wsV RX10 291 RX10 yX10_clerkNumber wsX10_clerkNumber) := goodIn_app (goodIn_of _ (by decide +kernel)) ggX10_oilOf_X10_clerkNumber
theorem dX10_oilOf_0 : decode cX10_oilOf 0 = .ok (.aload_n 0, 1) := by decide +kernel
theorem dX10_oilOf_1 : decode cX10_oilOf 1 = .ok (.iconst 0, 1) := by decide +kernel
theorem dX10_oilOf_2 : decode cX10_oilOf 2 = .ok (.putfield 51, 3) := by decide +kernel
theorem dX10_oilOf_5 : decode cX10_oilOf 5 = .ok (.aload_n 0, 1) := by decide +kernel
theorem dX10_oilOf_6 : decode cX10_oilOf 6 = .ok (.iload_n 1, 1) := by decide +kernel
theorem dX10_oilOf_7 : decode cX10_oilOf 7 = .ok (.iconst 1, 1) := by decide +kernel
theorem dX10_oilOf_8 : decode cX10_oilOf 8 = .ok (.invokevirtual 291, 3) := by decide +kernel
theorem dX10_oilOf_11 : decode cX10_oilOf 11 = .ok (.ireturn, 1) := by decide +kernel
set_option maxRecDepth 20000 in
theorem ggX10_answeredBy_X10_clerkNumber : GoodIn wsX10_answeredBy wsX10_clerkNumber := goodIn_r _ [6, 7, 8, 9, 10, 5, 11, 12, 13, 14, 15, 16, 17, 18, 19, 20, 21, 1, 22, 23, 24, 25, 26, 27, 28, 29, 30, 31, 32, 33, 34, 35, 36, 37, 38, 39, 40] (by decide +kernel) (by decide +kernel)
set_option maxRecDepth 20000 in
theorem gX10_answeredBy_X10_clerkNumber : GoodIn wsX10_answeredBy (wsV RX10 291 RX10 yX10_clerkNumber wsX10_clerkNumber) := goodIn_app (goodIn_of _ (by decide +kernel)) ggX10_answeredBy_X10_clerkNumber
theorem dX10_answeredBy_0 : decode cX10_answeredBy 0 = .ok (.aload_n 0, 1) := by decide +kernel
theorem dX10_answeredBy_1 : decode cX10_answeredBy 1 = .ok (.iconst 0, 1) := by decide +kernel
theorem dX10_answeredBy_2 : decode cX10_answeredBy 2 = .ok (.putfield 51, 3) := by decide +kernel
theorem dX10_answeredBy_5 : decode cX10_answeredBy 5 = .ok (.aload_n 0, 1) := by decide +kernel
theorem dX10_answeredBy_6 : decode cX10_answeredBy 6 = .ok (.iload_n 1, 1) := by decide +kernel
theorem dX10_answeredBy_7 : decode cX10_answeredBy 7 = .ok (.iconst 2, 1) := by decide +kernel
theorem dX10_answeredBy_8 : decode cX10_answeredBy 8 = .ok (.invokevirtual 291, 3) := by decide +kernel
theorem dX10_answeredBy_11 : decode cX10_answeredBy 11 = .ok (.ireturn, 1) := by decide +kernel
set_option maxRecDepth 20000 in
theorem ggX10_oilCost_X10_costOn : GoodIn wsX10_oilCost wsX10_costOn := goodIn_r _ [6, 7, 8, 5, 9, 10, 11, 12, 13, 14, 15, 16, 17, 18] (by decide +kernel) (by decide +kernel)
set_option maxRecDepth 20000 in
theorem gX10_oilCost_X10_costOn : GoodIn wsX10_oilCost (va_wsS RX10 138 yX10_costOn wsX10_costOn) := goodIn_app (goodIn_of _ (by decide +kernel)) ggX10_oilCost_X10_costOn
theorem dX10_oilCost_0 : decode cX10_oilCost 0 = .ok (.aload_n 0, 1) := by decide +kernel
theorem dX10_oilCost_1 : decode cX10_oilCost 1 = .ok (.iconst 0, 1) := by decide +kernel
theorem dX10_oilCost_2 : decode cX10_oilCost 2 = .ok (.putfield 51, 3) := by decide +kernel
theorem dX10_oilCost_5 : decode cX10_oilCost 5 = .ok (.aload_n 0, 1) := by decide +kernel
theorem dX10_oilCost_6 : decode cX10_oilCost 6 = .ok (.getfield 7, 3) := by decide +kernel
theorem dX10_oilCost_9 : decode cX10_oilCost 9 = .ok (.aload_n 0, 1) := by decide +kernel
theorem dX10_oilCost_10 : decode cX10_oilCost 10 = .ok (.getfield 7, 3) := by decide +kernel
theorem dX10_oilCost_13 : decode cX10_oilCost 13 = .ok (.iconst 0, 1) := by decide +kernel
theorem dX10_oilCost_14 : decode cX10_oilCost 14 = .ok (.iaload, 1) := by decide +kernel
theorem dX10_oilCost_15 : decode cX10_oilCost 15 = .ok (.invokestatic 138, 3) := by decide +kernel
theorem dX10_oilCost_18 : decode cX10_oilCost 18 = .ok (.ireturn, 1) := by decide +kernel
theorem dX10_oilUsed_0 : decode cX10_oilUsed 0 = .ok (.aload_n 0, 1) := by decide +kernel
theorem dX10_oilUsed_1 : decode cX10_oilUsed 1 = .ok (.iconst 0, 1) := by decide +kernel
theorem dX10_oilUsed_2 : decode cX10_oilUsed 2 = .ok (.putfield 51, 3) := by decide +kernel
theorem dX10_oilUsed_5 : decode cX10_oilUsed 5 = .ok (.aload_n 0, 1) := by decide +kernel
theorem dX10_oilUsed_6 : decode cX10_oilUsed 6 = .ok (.getfield 7, 3) := by decide +kernel
theorem dX10_oilUsed_9 : decode cX10_oilUsed 9 = .ok (.bipush 7, 2) := by decide +kernel
theorem dX10_oilUsed_11 : decode cX10_oilUsed 11 = .ok (.iaload, 1) := by decide +kernel
theorem dX10_oilUsed_12 : decode cX10_oilUsed 12 = .ok (.ireturn, 1) := by decide +kernel
theorem dX10_comfort_0 : decode cX10_comfort 0 = .ok (.aload_n 0, 1) := by decide +kernel
theorem dX10_comfort_1 : decode cX10_comfort 1 = .ok (.iconst 0, 1) := by decide +kernel
theorem dX10_comfort_2 : decode cX10_comfort 2 = .ok (.putfield 51, 3) := by decide +kernel
theorem dX10_comfort_5 : decode cX10_comfort 5 = .ok (.aload_n 0, 1) := by decide +kernel
theorem dX10_comfort_6 : decode cX10_comfort 6 = .ok (.getfield 7, 3) := by decide +kernel
theorem dX10_comfort_9 : decode cX10_comfort 9 = .ok (.bipush 8, 2) := by decide +kernel
theorem dX10_comfort_11 : decode cX10_comfort 11 = .ok (.iaload, 1) := by decide +kernel
theorem dX10_comfort_12 : decode cX10_comfort 12 = .ok (.ireturn, 1) := by decide +kernel
set_option maxRecDepth 20000 in
theorem ggX10_meanWait_X10_countOf : GoodIn wsX10_meanWait wsX10_countOf := goodIn_r _ [6, 7, 8, 5, 9, 10, 11, 12] (by decide +kernel) (by decide +kernel)
set_option maxRecDepth 20000 in
theorem gX10_meanWait_X10_countOf : GoodIn wsX10_meanWait (va_wsS RX10 157 yX10_countOf wsX10_countOf) := goodIn_app (goodIn_of _ (by decide +kernel)) ggX10_meanWait_X10_countOf
set_option maxRecDepth 20000 in
theorem ggX10_meanWait_X10_complaintAt : GoodIn wsX10_meanWait wsX10_complaintAt := goodIn_r _ [12] (by decide +kernel) (by decide +kernel)
set_option maxRecDepth 20000 in
theorem gX10_meanWait_X10_complaintAt : GoodIn wsX10_meanWait (va_wsS RX10 90 yX10_complaintAt wsX10_complaintAt) := goodIn_app (goodIn_of _ (by decide +kernel)) ggX10_meanWait_X10_complaintAt
set_option maxRecDepth 20000 in
theorem ggX10_meanWait_X10_waitOf : GoodIn wsX10_meanWait wsX10_waitOf := goodIn_r _ [15, 10, 11, 5, 12, 16, 17, 18] (by decide +kernel) (by decide +kernel)
set_option maxRecDepth 20000 in
theorem gX10_meanWait_X10_waitOf : GoodIn wsX10_meanWait (va_wsS RX10 294 yX10_waitOf wsX10_waitOf) := goodIn_app (goodIn_of _ (by decide +kernel)) ggX10_meanWait_X10_waitOf
theorem dX10_meanWait_0 : decode cX10_meanWait 0 = .ok (.aload_n 0, 1) := by decide +kernel
theorem dX10_meanWait_1 : decode cX10_meanWait 1 = .ok (.iconst 0, 1) := by decide +kernel
theorem dX10_meanWait_2 : decode cX10_meanWait 2 = .ok (.putfield 51, 3) := by decide +kernel
theorem dX10_meanWait_5 : decode cX10_meanWait 5 = .ok (.iconst 0, 1) := by decide +kernel
theorem dX10_meanWait_6 : decode cX10_meanWait 6 = .ok (.istore_n 1, 1) := by decide +kernel
theorem dX10_meanWait_7 : decode cX10_meanWait 7 = .ok (.aload_n 0, 1) := by decide +kernel
theorem dX10_meanWait_8 : decode cX10_meanWait 8 = .ok (.getfield 7, 3) := by decide +kernel
theorem dX10_meanWait_11 : decode cX10_meanWait 11 = .ok (.iconst 1, 1) := by decide +kernel
theorem dX10_meanWait_12 : decode cX10_meanWait 12 = .ok (.invokestatic 157, 3) := by decide +kernel
theorem dX10_meanWait_15 : decode cX10_meanWait 15 = .ok (.istore_n 2, 1) := by decide +kernel
theorem dX10_meanWait_16 : decode cX10_meanWait 16 = .ok (.iconst 0, 1) := by decide +kernel
theorem dX10_meanWait_17 : decode cX10_meanWait 17 = .ok (.istore_n 3, 1) := by decide +kernel
theorem dX10_meanWait_18 : decode cX10_meanWait 18 = .ok (.iload_n 3, 1) := by decide +kernel
theorem dX10_meanWait_19 : decode cX10_meanWait 19 = .ok (.aload_n 0, 1) := by decide +kernel
theorem dX10_meanWait_20 : decode cX10_meanWait 20 = .ok (.getfield 7, 3) := by decide +kernel
theorem dX10_meanWait_23 : decode cX10_meanWait 23 = .ok (.bipush 6, 2) := by decide +kernel
theorem dX10_meanWait_25 : decode cX10_meanWait 25 = .ok (.iaload, 1) := by decide +kernel
theorem dX10_meanWait_26 : decode cX10_meanWait 26 = .ok (.if_icmp .ge 34, 3) := by decide +kernel
theorem dX10_meanWait_29 : decode cX10_meanWait 29 = .ok (.aload_n 0, 1) := by decide +kernel
theorem dX10_meanWait_30 : decode cX10_meanWait 30 = .ok (.getfield 7, 3) := by decide +kernel
theorem dX10_meanWait_33 : decode cX10_meanWait 33 = .ok (.iload_n 3, 1) := by decide +kernel
theorem dX10_meanWait_34 : decode cX10_meanWait 34 = .ok (.iconst 4, 1) := by decide +kernel
theorem dX10_meanWait_35 : decode cX10_meanWait 35 = .ok (.invokestatic 90, 3) := by decide +kernel
theorem dX10_meanWait_38 : decode cX10_meanWait 38 = .ok (.iaload, 1) := by decide +kernel
theorem dX10_meanWait_39 : decode cX10_meanWait 39 = .ok (.iconst 1, 1) := by decide +kernel
theorem dX10_meanWait_40 : decode cX10_meanWait 40 = .ok (.if_icmp .ne 14, 3) := by decide +kernel
theorem dX10_meanWait_43 : decode cX10_meanWait 43 = .ok (.iload_n 1, 1) := by decide +kernel
theorem dX10_meanWait_44 : decode cX10_meanWait 44 = .ok (.aload_n 0, 1) := by decide +kernel
theorem dX10_meanWait_45 : decode cX10_meanWait 45 = .ok (.getfield 7, 3) := by decide +kernel
theorem dX10_meanWait_48 : decode cX10_meanWait 48 = .ok (.iload_n 3, 1) := by decide +kernel
theorem dX10_meanWait_49 : decode cX10_meanWait 49 = .ok (.invokestatic 294, 3) := by decide +kernel
theorem dX10_meanWait_52 : decode cX10_meanWait 52 = .ok (.iadd, 1) := by decide +kernel
theorem dX10_meanWait_53 : decode cX10_meanWait 53 = .ok (.istore_n 1, 1) := by decide +kernel
theorem dX10_meanWait_54 : decode cX10_meanWait 54 = .ok (.iinc 3 1, 3) := by decide +kernel
theorem dX10_meanWait_57 : decode cX10_meanWait 57 = .ok (.goto (-39), 3) := by decide +kernel
theorem dX10_meanWait_60 : decode cX10_meanWait 60 = .ok (.iload_n 2, 1) := by decide +kernel
theorem dX10_meanWait_61 : decode cX10_meanWait 61 = .ok (.ifCond .ne 5, 3) := by decide +kernel
theorem dX10_meanWait_64 : decode cX10_meanWait 64 = .ok (.dconst 0, 1) := by decide +kernel
theorem dX10_meanWait_65 : decode cX10_meanWait 65 = .ok (.dreturn, 1) := by decide +kernel
theorem dX10_meanWait_66 : decode cX10_meanWait 66 = .ok (.iload_n 1, 1) := by decide +kernel
theorem dX10_meanWait_67 : decode cX10_meanWait 67 = .ok (.i2d, 1) := by decide +kernel
theorem dX10_meanWait_68 : decode cX10_meanWait 68 = .ok (.iload_n 2, 1) := by decide +kernel
theorem dX10_meanWait_69 : decode cX10_meanWait 69 = .ok (.i2d, 1) := by decide +kernel
theorem dX10_meanWait_70 : decode cX10_meanWait 70 = .ok (.ddiv, 1) := by decide +kernel
theorem dX10_meanWait_71 : decode cX10_meanWait 71 = .ok (.dreturn, 1) := by decide +kernel
set_option maxRecDepth 20000 in
theorem ggX10_answeredShare_X10_countOf : GoodIn wsX10_answeredShare wsX10_countOf := goodIn_r _ [6, 7, 8, 5, 9, 10, 11, 12] (by decide +kernel) (by decide +kernel)
set_option maxRecDepth 20000 in
theorem gX10_answeredShare_X10_countOf : GoodIn wsX10_answeredShare (va_wsS RX10 157 yX10_countOf wsX10_countOf) := goodIn_app (goodIn_of _ (by decide +kernel)) ggX10_answeredShare_X10_countOf
theorem dX10_answeredShare_0 : decode cX10_answeredShare 0 = .ok (.aload_n 0, 1) := by decide +kernel
theorem dX10_answeredShare_1 : decode cX10_answeredShare 1 = .ok (.iconst 0, 1) := by decide +kernel
theorem dX10_answeredShare_2 : decode cX10_answeredShare 2 = .ok (.putfield 51, 3) := by decide +kernel
theorem dX10_answeredShare_5 : decode cX10_answeredShare 5 = .ok (.aload_n 0, 1) := by decide +kernel
theorem dX10_answeredShare_6 : decode cX10_answeredShare 6 = .ok (.getfield 7, 3) := by decide +kernel
theorem dX10_answeredShare_9 : decode cX10_answeredShare 9 = .ok (.bipush 6, 2) := by decide +kernel
theorem dX10_answeredShare_11 : decode cX10_answeredShare 11 = .ok (.iaload, 1) := by decide +kernel
theorem dX10_answeredShare_12 : decode cX10_answeredShare 12 = .ok (.aload_n 0, 1) := by decide +kernel
theorem dX10_answeredShare_13 : decode cX10_answeredShare 13 = .ok (.getfield 7, 3) := by decide +kernel
theorem dX10_answeredShare_16 : decode cX10_answeredShare 16 = .ok (.iconst 0, 1) := by decide +kernel
theorem dX10_answeredShare_17 : decode cX10_answeredShare 17 = .ok (.invokestatic 157, 3) := by decide +kernel
theorem dX10_answeredShare_20 : decode cX10_answeredShare 20 = .ok (.isub, 1) := by decide +kernel
theorem dX10_answeredShare_21 : decode cX10_answeredShare 21 = .ok (.istore_n 1, 1) := by decide +kernel
theorem dX10_answeredShare_22 : decode cX10_answeredShare 22 = .ok (.iload_n 1, 1) := by decide +kernel
theorem dX10_answeredShare_23 : decode cX10_answeredShare 23 = .ok (.ifCond .ne 5, 3) := by decide +kernel
theorem dX10_answeredShare_26 : decode cX10_answeredShare 26 = .ok (.fconst 0, 1) := by decide +kernel
theorem dX10_answeredShare_27 : decode cX10_answeredShare 27 = .ok (.freturn, 1) := by decide +kernel
theorem dX10_answeredShare_28 : decode cX10_answeredShare 28 = .ok (.aload_n 0, 1) := by decide +kernel
theorem dX10_answeredShare_29 : decode cX10_answeredShare 29 = .ok (.getfield 7, 3) := by decide +kernel
theorem dX10_answeredShare_32 : decode cX10_answeredShare 32 = .ok (.iconst 1, 1) := by decide +kernel
theorem dX10_answeredShare_33 : decode cX10_answeredShare 33 = .ok (.invokestatic 157, 3) := by decide +kernel
theorem dX10_answeredShare_36 : decode cX10_answeredShare 36 = .ok (.i2f, 1) := by decide +kernel
theorem dX10_answeredShare_37 : decode cX10_answeredShare 37 = .ok (.iload_n 1, 1) := by decide +kernel
theorem dX10_answeredShare_38 : decode cX10_answeredShare 38 = .ok (.i2f, 1) := by decide +kernel
theorem dX10_answeredShare_39 : decode cX10_answeredShare 39 = .ok (.fdiv, 1) := by decide +kernel
theorem dX10_answeredShare_40 : decode cX10_answeredShare 40 = .ok (.freturn, 1) := by decide +kernel
set_option maxRecDepth 20000 in
theorem ggX10_answersTonight_X10_takesSpare : GoodIn wsX10_answersTonight wsX10_takesSpare := goodIn_r _ [7, 8, 2, 9, 10, 6, 11, 108, 109, 110, 111, 112, 113, 114, 115, 116, 117, 118, 119, 120, 121, 122, 123, 124, 125, 126] (by decide +kernel) (by decide +kernel)
set_option maxRecDepth 20000 in
theorem gX10_answersTonight_X10_takesSpare : GoodIn wsX10_answersTonight (wsV RX10 297 RX10 yX10_takesSpare wsX10_takesSpare) := goodIn_app (goodIn_of _ (by decide +kernel)) ggX10_answersTonight_X10_takesSpare
set_option maxRecDepth 20000 in
theorem ggX10_answersTonight_X10_ends : GoodIn wsX10_answersTonight wsX10_ends := goodIn_r _ [14, 15, 16, 6, 17, 18, 19, 20, 21, 22, 23, 24, 25, 26, 27, 28, 29, 30, 31, 32, 33, 34, 35, 36, 37, 38, 39, 40, 41, 42, 43, 44, 45, 46, 47, 48, 49, 50, 51, 52, 53, 54, 55, 56, 57, 58, 59, 60, 61, 62, 63, 64, 65, 66, 67, 68, 69, 70, 71, 72, 73, 74, 75, 76, 77, 78, 79, 80, 81, 82, 83, 84, 85, 86, 87, 88, 89, 90, 91, 92, 93, 94, 95, 96, 97, 98, 99, 100, 101, 102, 103, 104, 105, 106, 107] (by decide +kernel) (by decide +kernel)
set_option maxRecDepth 20000 in
theorem gX10_answersTonight_X10_ends : GoodIn wsX10_answersTonight (va_wsS RX10 300 yX10_ends wsX10_ends) := goodIn_app (goodIn_of _ (by decide +kernel)) ggX10_answersTonight_X10_ends
theorem dX10_answersTonight_0 : decode cX10_answersTonight 0 = .ok (.aload_n 0, 1) := by decide +kernel
theorem dX10_answersTonight_1 : decode cX10_answersTonight 1 = .ok (.iconst 0, 1) := by decide +kernel
theorem dX10_answersTonight_2 : decode cX10_answersTonight 2 = .ok (.putfield 51, 3) := by decide +kernel
theorem dX10_answersTonight_5 : decode cX10_answersTonight 5 = .ok (.aload_n 0, 1) := by decide +kernel
theorem dX10_answersTonight_6 : decode cX10_answersTonight 6 = .ok (.invokevirtual 297, 3) := by decide +kernel
theorem dX10_answersTonight_9 : decode cX10_answersTonight 9 = .ok (.aload_n 0, 1) := by decide +kernel
theorem dX10_answersTonight_10 : decode cX10_answersTonight 10 = .ok (.getfield 16, 3) := by decide +kernel
theorem dX10_answersTonight_13 : decode cX10_answersTonight 13 = .ok (.invokestatic 300, 3) := by decide +kernel
theorem dX10_answersTonight_16 : decode cX10_answersTonight 16 = .ok (.ireturn, 1) := by decide +kernel
set_option maxRecDepth 20000 in
theorem ggX10_closesIn_X10_takesSpare : GoodIn wsX10_closesIn wsX10_takesSpare := goodIn_r _ [6, 7, 1, 8, 9, 5, 10, 107, 108, 109, 110, 111, 112, 113, 114, 115, 116, 117, 118, 119, 120, 121, 122, 123, 124, 125] (by decide +kernel) (by decide +kernel)
set_option maxRecDepth 20000 in
theorem gX10_closesIn_X10_takesSpare : GoodIn wsX10_closesIn (wsV RX10 297 RX10 yX10_takesSpare wsX10_takesSpare) := goodIn_app (goodIn_of _ (by decide +kernel)) ggX10_closesIn_X10_takesSpare
set_option maxRecDepth 20000 in
theorem ggX10_closesIn_X10_waits : GoodIn wsX10_closesIn wsX10_waits := goodIn_r _ [13, 14, 15, 5, 16, 17, 18, 19] (by decide +kernel) (by decide +kernel)
set_option maxRecDepth 20000 in
theorem gX10_closesIn_X10_waits : GoodIn wsX10_closesIn (va_wsS RX10 108 yX10_waits wsX10_waits) := goodIn_app (goodIn_of _ (by decide +kernel)) ggX10_closesIn_X10_waits
set_option maxRecDepth 20000 in
theorem ggX10_closesIn_X10_ends : GoodIn wsX10_closesIn wsX10_ends := goodIn_r _ [22, 23, 24, 5, 25, 14, 15, 16, 17, 18, 19, 26, 27, 28, 29, 30, 31, 32, 33, 34, 35, 36, 37, 38, 39, 40, 41, 42, 43, 44, 45, 46, 47, 48, 49, 50, 51, 52, 53, 54, 55, 56, 57, 58, 59, 60, 61, 11, 12, 13, 62, 63, 64, 65, 66, 67, 68, 69, 70, 71, 72, 73, 74, 75, 76, 77, 78, 79, 80, 81, 82, 83, 84, 85, 86, 87, 88, 89, 90, 91, 92, 93, 94, 95, 96, 97, 98, 99, 100, 101, 102, 103, 104, 105, 106] (by decide +kernel) (by decide +kernel)
set_option maxRecDepth 20000 in
theorem gX10_closesIn_X10_ends : GoodIn wsX10_closesIn (va_wsS RX10 300 yX10_ends wsX10_ends) := goodIn_app (goodIn_of _ (by decide +kernel)) ggX10_closesIn_X10_ends
theorem dX10_closesIn_0 : decode cX10_closesIn 0 = .ok (.aload_n 0, 1) := by decide +kernel
theorem dX10_closesIn_1 : decode cX10_closesIn 1 = .ok (.invokevirtual 297, 3) := by decide +kernel
theorem dX10_closesIn_4 : decode cX10_closesIn 4 = .ok (.iconst 0, 1) := by decide +kernel
theorem dX10_closesIn_5 : decode cX10_closesIn 5 = .ok (.istore_n 2, 1) := by decide +kernel
theorem dX10_closesIn_6 : decode cX10_closesIn 6 = .ok (.aload_n 0, 1) := by decide +kernel
theorem dX10_closesIn_7 : decode cX10_closesIn 7 = .ok (.getfield 16, 3) := by decide +kernel
theorem dX10_closesIn_10 : decode cX10_closesIn 10 = .ok (.iload_n 1, 1) := by decide +kernel
theorem dX10_closesIn_11 : decode cX10_closesIn 11 = .ok (.invokestatic 108, 3) := by decide +kernel
theorem dX10_closesIn_14 : decode cX10_closesIn 14 = .ok (.ifCond .eq 17, 3) := by decide +kernel
theorem dX10_closesIn_17 : decode cX10_closesIn 17 = .ok (.aload_n 0, 1) := by decide +kernel
theorem dX10_closesIn_18 : decode cX10_closesIn 18 = .ok (.getfield 16, 3) := by decide +kernel
theorem dX10_closesIn_21 : decode cX10_closesIn 21 = .ok (.invokestatic 300, 3) := by decide +kernel
theorem dX10_closesIn_24 : decode cX10_closesIn 24 = .ok (.pop, 1) := by decide +kernel
theorem dX10_closesIn_25 : decode cX10_closesIn 25 = .ok (.iinc 2 1, 3) := by decide +kernel
theorem dX10_closesIn_28 : decode cX10_closesIn 28 = .ok (.goto (-22), 3) := by decide +kernel
theorem dX10_closesIn_31 : decode cX10_closesIn 31 = .ok (.iload_n 2, 1) := by decide +kernel
theorem dX10_closesIn_32 : decode cX10_closesIn 32 = .ok (.ireturn, 1) := by decide +kernel
set_option maxRecDepth 20000 in
theorem ggX10_nightsToClose_X10_isComplaint : GoodIn wsX10_nightsToClose wsX10_isComplaint := goodIn_r _ [7, 2, 8, 9, 6, 10, 123, 124, 125, 126, 127, 128, 129, 130, 131, 132, 133, 134, 135, 136, 137, 138, 139, 140, 141] (by decide +kernel) (by decide +kernel)
set_option maxRecDepth 20000 in
theorem gX10_nightsToClose_X10_isComplaint : GoodIn wsX10_nightsToClose (wsV RX10 272 RX10 yX10_isComplaint wsX10_isComplaint) := goodIn_app (goodIn_of _ (by decide +kernel)) ggX10_nightsToClose_X10_isComplaint
set_option maxRecDepth 20000 in
theorem ggX10_nightsToClose_X10_fails : GoodIn wsX10_nightsToClose wsX10_fails := goodIn_r _ [14, 1, 123, 124, 125, 126, 127, 128, 129, 130, 131, 132, 133, 134, 135, 136, 137, 138, 139, 140, 141] (by decide +kernel) (by decide +kernel)
set_option maxRecDepth 20000 in
theorem gX10_nightsToClose_X10_fails : GoodIn wsX10_nightsToClose (wsV RX10 169 RX10 yX10_fails wsX10_fails) := goodIn_app (goodIn_of _ (by decide +kernel)) ggX10_nightsToClose_X10_fails
set_option maxRecDepth 20000 in
theorem ggX10_nightsToClose_X10_waits : GoodIn wsX10_nightsToClose wsX10_waits := goodIn_r _ [17, 18, 19, 6, 20, 21, 22, 23] (by decide +kernel) (by decide +kernel)
set_option maxRecDepth 20000 in
theorem gX10_nightsToClose_X10_waits : GoodIn wsX10_nightsToClose (va_wsS RX10 108 yX10_waits wsX10_waits) := goodIn_app (goodIn_of _ (by decide +kernel)) ggX10_nightsToClose_X10_waits
set_option maxRecDepth 20000 in
theorem ggX10_nightsToClose_X10_closesIn : GoodIn wsX10_nightsToClose wsX10_closesIn := goodIn_r _ [27, 28, 29, 30, 31, 6, 32, 2, 33, 34, 35, 15, 16, 17, 18, 19, 20, 21, 22, 23, 36, 37, 38, 39, 40, 41, 42, 43, 44, 45, 46, 47, 48, 49, 50, 51, 52, 53, 54, 55, 56, 57, 58, 59, 60, 61, 62, 63, 64, 65, 66, 67, 68, 69, 70, 71, 72, 73, 74, 75, 76, 77, 78, 79, 80, 81, 82, 83, 84, 85, 86, 87, 88, 89, 90, 91, 92, 93, 94, 95, 96, 97, 98, 99, 100, 101, 102, 103, 104, 105, 106, 107, 108, 109, 110, 111, 112, 113, 114, 115, 116, 117, 118, 119, 120, 121, 122, 123, 124, 125, 126, 127, 128, 129, 130, 131, 132, 133, 134, 135, 136, 137, 138, 139, 140, 141] (by decide +kernel) (by decide +kernel)
set_option maxRecDepth 20000 in
theorem gX10_nightsToClose_X10_closesIn : GoodIn wsX10_nightsToClose (wsV RX10 303 RX10 yX10_closesIn wsX10_closesIn) := goodIn_app (goodIn_of _ (by decide +kernel)) ggX10_nightsToClose_X10_closesIn
theorem dX10_nightsToClose_0 : decode cX10_nightsToClose 0 = .ok (.aload_n 0, 1) := by decide +kernel
theorem dX10_nightsToClose_1 : decode cX10_nightsToClose 1 = .ok (.iconst 0, 1) := by decide +kernel
theorem dX10_nightsToClose_2 : decode cX10_nightsToClose 2 = .ok (.putfield 51, 3) := by decide +kernel
theorem dX10_nightsToClose_5 : decode cX10_nightsToClose 5 = .ok (.aload_n 0, 1) := by decide +kernel
theorem dX10_nightsToClose_6 : decode cX10_nightsToClose 6 = .ok (.iload_n 1, 1) := by decide +kernel
theorem dX10_nightsToClose_7 : decode cX10_nightsToClose 7 = .ok (.invokevirtual 272, 3) := by decide +kernel
theorem dX10_nightsToClose_10 : decode cX10_nightsToClose 10 = .ok (.ifCond .ne 9, 3) := by decide +kernel
theorem dX10_nightsToClose_13 : decode cX10_nightsToClose 13 = .ok (.aload_n 0, 1) := by decide +kernel
theorem dX10_nightsToClose_14 : decode cX10_nightsToClose 14 = .ok (.iconst 1, 1) := by decide +kernel
theorem dX10_nightsToClose_15 : decode cX10_nightsToClose 15 = .ok (.invokevirtual 169, 3) := by decide +kernel
theorem dX10_nightsToClose_18 : decode cX10_nightsToClose 18 = .ok (.ireturn, 1) := by decide +kernel
theorem dX10_nightsToClose_19 : decode cX10_nightsToClose 19 = .ok (.aload_n 0, 1) := by decide +kernel
theorem dX10_nightsToClose_20 : decode cX10_nightsToClose 20 = .ok (.getfield 7, 3) := by decide +kernel
theorem dX10_nightsToClose_23 : decode cX10_nightsToClose 23 = .ok (.iload_n 1, 1) := by decide +kernel
theorem dX10_nightsToClose_24 : decode cX10_nightsToClose 24 = .ok (.invokestatic 108, 3) := by decide +kernel
theorem dX10_nightsToClose_27 : decode cX10_nightsToClose 27 = .ok (.ifCond .eq 9, 3) := by decide +kernel
theorem dX10_nightsToClose_30 : decode cX10_nightsToClose 30 = .ok (.aload_n 0, 1) := by decide +kernel
theorem dX10_nightsToClose_31 : decode cX10_nightsToClose 31 = .ok (.iload_n 1, 1) := by decide +kernel
theorem dX10_nightsToClose_32 : decode cX10_nightsToClose 32 = .ok (.invokevirtual 303, 3) := by decide +kernel
theorem dX10_nightsToClose_35 : decode cX10_nightsToClose 35 = .ok (.ireturn, 1) := by decide +kernel
theorem dX10_nightsToClose_36 : decode cX10_nightsToClose 36 = .ok (.aload_n 0, 1) := by decide +kernel
theorem dX10_nightsToClose_37 : decode cX10_nightsToClose 37 = .ok (.iconst 2, 1) := by decide +kernel
theorem dX10_nightsToClose_38 : decode cX10_nightsToClose 38 = .ok (.invokevirtual 169, 3) := by decide +kernel
theorem dX10_nightsToClose_41 : decode cX10_nightsToClose 41 = .ok (.ireturn, 1) := by decide +kernel
set_option maxRecDepth 20000 in
theorem ggX10_willBeAnswered_X10_isComplaint : GoodIn wsX10_willBeAnswered wsX10_isComplaint := goodIn_r _ [8, 2, 9, 10, 7, 11, 123, 124, 125, 126, 127, 128, 129, 130, 131, 132, 133, 134, 135, 136, 137, 138, 139, 140, 141] (by decide +kernel) (by decide +kernel)
set_option maxRecDepth 20000 in
theorem gX10_willBeAnswered_X10_isComplaint : GoodIn wsX10_willBeAnswered (wsV RX10 272 RX10 yX10_isComplaint wsX10_isComplaint) := goodIn_app (goodIn_of _ (by decide +kernel)) ggX10_willBeAnswered_X10_isComplaint
set_option maxRecDepth 20000 in
theorem ggX10_willBeAnswered_X10_isFailed : GoodIn wsX10_willBeAnswered wsX10_isFailed := goodIn_r _ [15, 1, 123, 124, 125, 126, 127, 128, 129, 130, 131, 132, 133, 134, 135, 136, 137, 138, 139, 140, 141] (by decide +kernel) (by decide +kernel)
set_option maxRecDepth 20000 in
theorem gX10_willBeAnswered_X10_isFailed : GoodIn wsX10_willBeAnswered (wsV RX10 266 RX10 yX10_isFailed wsX10_isFailed) := goodIn_app (goodIn_of _ (by decide +kernel)) ggX10_willBeAnswered_X10_isFailed
set_option maxRecDepth 20000 in
theorem ggX10_willBeAnswered_X10_waits : GoodIn wsX10_willBeAnswered wsX10_waits := goodIn_r _ [18, 19, 20, 7, 21, 22, 23, 24] (by decide +kernel) (by decide +kernel)
set_option maxRecDepth 20000 in
theorem gX10_willBeAnswered_X10_waits : GoodIn wsX10_willBeAnswered (va_wsS RX10 108 yX10_waits wsX10_waits) := goodIn_app (goodIn_of _ (by decide +kernel)) ggX10_willBeAnswered_X10_waits
set_option maxRecDepth 20000 in
theorem ggX10_willBeAnswered_X10_closesIn : GoodIn wsX10_willBeAnswered wsX10_closesIn := goodIn_r _ [28, 3, 29, 30, 31, 7, 32, 2, 33, 34, 35, 16, 17, 18, 19, 20, 21, 22, 23, 24, 36, 37, 38, 39, 40, 41, 42, 43, 44, 45, 46, 47, 48, 49, 50, 51, 52, 53, 54, 55, 56, 57, 58, 59, 60, 61, 62, 63, 64, 65, 66, 67, 68, 69, 70, 71, 72, 73, 74, 75, 76, 77, 78, 79, 80, 81, 82, 83, 84, 85, 86, 87, 88, 89, 90, 91, 92, 93, 94, 95, 96, 97, 98, 99, 100, 101, 102, 103, 104, 105, 106, 107, 108, 109, 110, 111, 112, 113, 114, 115, 116, 117, 118, 119, 120, 121, 122, 123, 124, 125, 126, 127, 128, 129, 130, 131, 132, 133, 134, 135, 136, 137, 138, 139, 140, 141] (by decide +kernel) (by decide +kernel)
set_option maxRecDepth 20000 in
theorem gX10_willBeAnswered_X10_closesIn : GoodIn wsX10_willBeAnswered (wsV RX10 303 RX10 yX10_closesIn wsX10_closesIn) := goodIn_app (goodIn_of _ (by decide +kernel)) ggX10_willBeAnswered_X10_closesIn
set_option maxRecDepth 20000 in
theorem ggX10_willBeAnswered_X10_complaintAt : GoodIn wsX10_willBeAnswered wsX10_complaintAt := goodIn_r _ [24] (by decide +kernel) (by decide +kernel)
set_option maxRecDepth 20000 in
theorem gX10_willBeAnswered_X10_complaintAt : GoodIn wsX10_willBeAnswered (va_wsS RX10 90 yX10_complaintAt wsX10_complaintAt) := goodIn_app (goodIn_of _ (by decide +kernel)) ggX10_willBeAnswered_X10_complaintAt
theorem dX10_willBeAnswered_0 : decode cX10_willBeAnswered 0 = .ok (.aload_n 0, 1) := by decide +kernel
theorem dX10_willBeAnswered_1 : decode cX10_willBeAnswered 1 = .ok (.iconst 0, 1) := by decide +kernel
theorem dX10_willBeAnswered_2 : decode cX10_willBeAnswered 2 = .ok (.putfield 51, 3) := by decide +kernel
theorem dX10_willBeAnswered_5 : decode cX10_willBeAnswered 5 = .ok (.aload_n 0, 1) := by decide +kernel
theorem dX10_willBeAnswered_6 : decode cX10_willBeAnswered 6 = .ok (.iload_n 1, 1) := by decide +kernel
theorem dX10_willBeAnswered_7 : decode cX10_willBeAnswered 7 = .ok (.invokevirtual 272, 3) := by decide +kernel
theorem dX10_willBeAnswered_10 : decode cX10_willBeAnswered 10 = .ok (.ifCond .ne 9, 3) := by decide +kernel
theorem dX10_willBeAnswered_13 : decode cX10_willBeAnswered 13 = .ok (.aload_n 0, 1) := by decide +kernel
theorem dX10_willBeAnswered_14 : decode cX10_willBeAnswered 14 = .ok (.iconst 1, 1) := by decide +kernel
theorem dX10_willBeAnswered_15 : decode cX10_willBeAnswered 15 = .ok (.invokevirtual 266, 3) := by decide +kernel
theorem dX10_willBeAnswered_18 : decode cX10_willBeAnswered 18 = .ok (.ireturn, 1) := by decide +kernel
theorem dX10_willBeAnswered_19 : decode cX10_willBeAnswered 19 = .ok (.aload_n 0, 1) := by decide +kernel
theorem dX10_willBeAnswered_20 : decode cX10_willBeAnswered 20 = .ok (.getfield 7, 3) := by decide +kernel
theorem dX10_willBeAnswered_23 : decode cX10_willBeAnswered 23 = .ok (.iload_n 1, 1) := by decide +kernel
theorem dX10_willBeAnswered_24 : decode cX10_willBeAnswered 24 = .ok (.invokestatic 108, 3) := by decide +kernel
theorem dX10_willBeAnswered_27 : decode cX10_willBeAnswered 27 = .ok (.ifCond .ne 9, 3) := by decide +kernel
theorem dX10_willBeAnswered_30 : decode cX10_willBeAnswered 30 = .ok (.aload_n 0, 1) := by decide +kernel
theorem dX10_willBeAnswered_31 : decode cX10_willBeAnswered 31 = .ok (.iconst 2, 1) := by decide +kernel
theorem dX10_willBeAnswered_32 : decode cX10_willBeAnswered 32 = .ok (.invokevirtual 266, 3) := by decide +kernel
theorem dX10_willBeAnswered_35 : decode cX10_willBeAnswered 35 = .ok (.ireturn, 1) := by decide +kernel
theorem dX10_willBeAnswered_36 : decode cX10_willBeAnswered 36 = .ok (.aload_n 0, 1) := by decide +kernel
theorem dX10_willBeAnswered_37 : decode cX10_willBeAnswered 37 = .ok (.iload_n 1, 1) := by decide +kernel
theorem dX10_willBeAnswered_38 : decode cX10_willBeAnswered 38 = .ok (.invokevirtual 303, 3) := by decide +kernel
theorem dX10_willBeAnswered_41 : decode cX10_willBeAnswered 41 = .ok (.pop, 1) := by decide +kernel
theorem dX10_willBeAnswered_42 : decode cX10_willBeAnswered 42 = .ok (.aload_n 0, 1) := by decide +kernel
theorem dX10_willBeAnswered_43 : decode cX10_willBeAnswered 43 = .ok (.getfield 16, 3) := by decide +kernel
theorem dX10_willBeAnswered_46 : decode cX10_willBeAnswered 46 = .ok (.iload_n 1, 1) := by decide +kernel
theorem dX10_willBeAnswered_47 : decode cX10_willBeAnswered 47 = .ok (.iconst 4, 1) := by decide +kernel
theorem dX10_willBeAnswered_48 : decode cX10_willBeAnswered 48 = .ok (.invokestatic 90, 3) := by decide +kernel
theorem dX10_willBeAnswered_51 : decode cX10_willBeAnswered 51 = .ok (.iaload, 1) := by decide +kernel
theorem dX10_willBeAnswered_52 : decode cX10_willBeAnswered 52 = .ok (.iconst 1, 1) := by decide +kernel
theorem dX10_willBeAnswered_53 : decode cX10_willBeAnswered 53 = .ok (.if_icmp .ne 7, 3) := by decide +kernel
theorem dX10_willBeAnswered_56 : decode cX10_willBeAnswered 56 = .ok (.iconst 1, 1) := by decide +kernel
theorem dX10_willBeAnswered_57 : decode cX10_willBeAnswered 57 = .ok (.goto 4, 3) := by decide +kernel
theorem dX10_willBeAnswered_60 : decode cX10_willBeAnswered 60 = .ok (.iconst 0, 1) := by decide +kernel
theorem dX10_willBeAnswered_61 : decode cX10_willBeAnswered 61 = .ok (.ireturn, 1) := by decide +kernel
set_option maxRecDepth 20000 in
theorem ggX10_keepsForUndo_X10_layRow : GoodIn wsX10_keepsForUndo wsX10_layRow := goodIn_r _ [7] (by decide +kernel) (by decide +kernel)
set_option maxRecDepth 20000 in
theorem gX10_keepsForUndo_X10_layRow : GoodIn wsX10_keepsForUndo (va_wsS RX10 54 yX10_layRow wsX10_layRow) := goodIn_app (goodIn_of _ (by decide +kernel)) ggX10_keepsForUndo_X10_layRow
theorem dX10_keepsForUndo_0 : decode cX10_keepsForUndo 0 = .ok (.aload_n 0, 1) := by decide +kernel
theorem dX10_keepsForUndo_1 : decode cX10_keepsForUndo 1 = .ok (.getfield 257, 3) := by decide +kernel
theorem dX10_keepsForUndo_4 : decode cX10_keepsForUndo 4 = .ok (.bipush 8, 2) := by decide +kernel
theorem dX10_keepsForUndo_6 : decode cX10_keepsForUndo 6 = .ok (.if_icmp .ne 50, 3) := by decide +kernel
theorem dX10_keepsForUndo_9 : decode cX10_keepsForUndo 9 = .ok (.iconst 1, 1) := by decide +kernel
theorem dX10_keepsForUndo_10 : decode cX10_keepsForUndo 10 = .ok (.istore_n 1, 1) := by decide +kernel
theorem dX10_keepsForUndo_11 : decode cX10_keepsForUndo 11 = .ok (.iload_n 1, 1) := by decide +kernel
theorem dX10_keepsForUndo_12 : decode cX10_keepsForUndo 12 = .ok (.bipush 8, 2) := by decide +kernel
theorem dX10_keepsForUndo_14 : decode cX10_keepsForUndo 14 = .ok (.if_icmp .ge 32, 3) := by decide +kernel
theorem dX10_keepsForUndo_17 : decode cX10_keepsForUndo 17 = .ok (.aload_n 0, 1) := by decide +kernel
theorem dX10_keepsForUndo_18 : decode cX10_keepsForUndo 18 = .ok (.getfield 19, 3) := by decide +kernel
theorem dX10_keepsForUndo_21 : decode cX10_keepsForUndo 21 = .ok (.sipush 202, 3) := by decide +kernel
theorem dX10_keepsForUndo_24 : decode cX10_keepsForUndo 24 = .ok (.iload_n 1, 1) := by decide +kernel
theorem dX10_keepsForUndo_25 : decode cX10_keepsForUndo 25 = .ok (.imul, 1) := by decide +kernel
theorem dX10_keepsForUndo_26 : decode cX10_keepsForUndo 26 = .ok (.aload_n 0, 1) := by decide +kernel
theorem dX10_keepsForUndo_27 : decode cX10_keepsForUndo 27 = .ok (.getfield 19, 3) := by decide +kernel
theorem dX10_keepsForUndo_30 : decode cX10_keepsForUndo 30 = .ok (.sipush 202, 3) := by decide +kernel
theorem dX10_keepsForUndo_33 : decode cX10_keepsForUndo 33 = .ok (.iload_n 1, 1) := by decide +kernel
theorem dX10_keepsForUndo_34 : decode cX10_keepsForUndo 34 = .ok (.iconst 1, 1) := by decide +kernel
theorem dX10_keepsForUndo_35 : decode cX10_keepsForUndo 35 = .ok (.isub, 1) := by decide +kernel
theorem dX10_keepsForUndo_36 : decode cX10_keepsForUndo 36 = .ok (.imul, 1) := by decide +kernel
theorem dX10_keepsForUndo_37 : decode cX10_keepsForUndo 37 = .ok (.invokestatic 54, 3) := by decide +kernel
theorem dX10_keepsForUndo_40 : decode cX10_keepsForUndo 40 = .ok (.iinc 1 1, 3) := by decide +kernel
theorem dX10_keepsForUndo_43 : decode cX10_keepsForUndo 43 = .ok (.goto (-32), 3) := by decide +kernel
theorem dX10_keepsForUndo_46 : decode cX10_keepsForUndo 46 = .ok (.aload_n 0, 1) := by decide +kernel
theorem dX10_keepsForUndo_47 : decode cX10_keepsForUndo 47 = .ok (.dup, 1) := by decide +kernel
theorem dX10_keepsForUndo_48 : decode cX10_keepsForUndo 48 = .ok (.getfield 257, 3) := by decide +kernel
theorem dX10_keepsForUndo_51 : decode cX10_keepsForUndo 51 = .ok (.iconst 1, 1) := by decide +kernel
theorem dX10_keepsForUndo_52 : decode cX10_keepsForUndo 52 = .ok (.isub, 1) := by decide +kernel
theorem dX10_keepsForUndo_53 : decode cX10_keepsForUndo 53 = .ok (.putfield 257, 3) := by decide +kernel
theorem dX10_keepsForUndo_56 : decode cX10_keepsForUndo 56 = .ok (.aload_n 0, 1) := by decide +kernel
theorem dX10_keepsForUndo_57 : decode cX10_keepsForUndo 57 = .ok (.getfield 7, 3) := by decide +kernel
theorem dX10_keepsForUndo_60 : decode cX10_keepsForUndo 60 = .ok (.iconst 0, 1) := by decide +kernel
theorem dX10_keepsForUndo_61 : decode cX10_keepsForUndo 61 = .ok (.aload_n 0, 1) := by decide +kernel
theorem dX10_keepsForUndo_62 : decode cX10_keepsForUndo 62 = .ok (.getfield 19, 3) := by decide +kernel
theorem dX10_keepsForUndo_65 : decode cX10_keepsForUndo 65 = .ok (.sipush 202, 3) := by decide +kernel
theorem dX10_keepsForUndo_68 : decode cX10_keepsForUndo 68 = .ok (.aload_n 0, 1) := by decide +kernel
theorem dX10_keepsForUndo_69 : decode cX10_keepsForUndo 69 = .ok (.getfield 257, 3) := by decide +kernel
theorem dX10_keepsForUndo_72 : decode cX10_keepsForUndo 72 = .ok (.imul, 1) := by decide +kernel
theorem dX10_keepsForUndo_73 : decode cX10_keepsForUndo 73 = .ok (.invokestatic 54, 3) := by decide +kernel
theorem dX10_keepsForUndo_76 : decode cX10_keepsForUndo 76 = .ok (.aload_n 0, 1) := by decide +kernel
theorem dX10_keepsForUndo_77 : decode cX10_keepsForUndo 77 = .ok (.dup, 1) := by decide +kernel
theorem dX10_keepsForUndo_78 : decode cX10_keepsForUndo 78 = .ok (.getfield 257, 3) := by decide +kernel
theorem dX10_keepsForUndo_81 : decode cX10_keepsForUndo 81 = .ok (.iconst 1, 1) := by decide +kernel
theorem dX10_keepsForUndo_82 : decode cX10_keepsForUndo 82 = .ok (.iadd, 1) := by decide +kernel
theorem dX10_keepsForUndo_83 : decode cX10_keepsForUndo 83 = .ok (.putfield 257, 3) := by decide +kernel
theorem dX10_keepsForUndo_86 : decode cX10_keepsForUndo 86 = .ok (.return_, 1) := by decide +kernel
set_option maxRecDepth 20000 in
theorem ggX10_fileComplaint_X10_isPerson : GoodIn wsX10_fileComplaint wsX10_isPerson := goodIn_r _ [6, 7, 8, 5, 9] (by decide +kernel) (by decide +kernel)
set_option maxRecDepth 20000 in
theorem gX10_fileComplaint_X10_isPerson : GoodIn wsX10_fileComplaint (va_wsS RX10 282 yX10_isPerson wsX10_isPerson) := goodIn_app (goodIn_of _ (by decide +kernel)) ggX10_fileComplaint_X10_isPerson
set_option maxRecDepth 20000 in
theorem ggX10_fileComplaint_X10_fails : GoodIn wsX10_fileComplaint wsX10_fails := goodIn_r _ [13, 1, 47, 48, 49, 50, 51, 52, 53, 54, 55, 56, 57, 58, 59, 60, 61, 62, 63, 64, 65] (by decide +kernel) (by decide +kernel)
set_option maxRecDepth 20000 in
theorem gX10_fileComplaint_X10_fails : GoodIn wsX10_fileComplaint (wsV RX10 169 RX10 yX10_fails wsX10_fails) := goodIn_app (goodIn_of _ (by decide +kernel)) ggX10_fileComplaint_X10_fails
set_option maxRecDepth 20000 in
theorem ggX10_fileComplaint_X10_isSort : GoodIn wsX10_fileComplaint wsX10_isSort := goodIn_r _ [16, 7, 8, 5, 9] (by decide +kernel) (by decide +kernel)
set_option maxRecDepth 20000 in
theorem gX10_fileComplaint_X10_isSort : GoodIn wsX10_fileComplaint (va_wsS RX10 263 yX10_isSort wsX10_isSort) := goodIn_app (goodIn_of _ (by decide +kernel)) ggX10_fileComplaint_X10_isSort
set_option maxRecDepth 20000 in
theorem ggX10_fileComplaint_X10_in : GoodIn wsX10_fileComplaint wsX10_in := goodIn_r _ [9] (by decide +kernel) (by decide +kernel)
set_option maxRecDepth 20000 in
theorem gX10_fileComplaint_X10_in : GoodIn wsX10_fileComplaint (va_wsS RX10 58 yX10_in wsX10_in) := goodIn_app (goodIn_of _ (by decide +kernel)) ggX10_fileComplaint_X10_in
set_option maxRecDepth 20000 in
theorem ggX10_fileComplaint_X10_waitingBy : GoodIn wsX10_fileComplaint wsX10_waitingBy := goodIn_r _ [19, 20, 21, 5, 22, 23, 24, 25, 26, 27, 28, 29, 30, 31, 32, 33, 34] (by decide +kernel) (by decide +kernel)
set_option maxRecDepth 20000 in
theorem gX10_fileComplaint_X10_waitingBy : GoodIn wsX10_fileComplaint (va_wsS RX10 234 yX10_waitingBy wsX10_waitingBy) := goodIn_app (goodIn_of _ (by decide +kernel)) ggX10_fileComplaint_X10_waitingBy
set_option maxRecDepth 20000 in
theorem ggX10_fileComplaint_X10_keepsForUndo : GoodIn wsX10_fileComplaint wsX10_keepsForUndo := goodIn_r _ [38, 39, 40, 2, 41, 42, 5, 43, 47, 48, 49, 50, 51, 52, 53, 54, 55, 56, 57, 58, 59, 60, 61, 62, 63, 64, 65] (by decide +kernel) (by decide +kernel)
set_option maxRecDepth 20000 in
theorem gX10_fileComplaint_X10_keepsForUndo : GoodIn wsX10_fileComplaint (wsV RX10 306 RX10 yX10_keepsForUndo wsX10_keepsForUndo) := goodIn_app (goodIn_of _ (by decide +kernel)) ggX10_fileComplaint_X10_keepsForUndo
set_option maxRecDepth 20000 in
theorem ggX10_fileComplaint_X10_files : GoodIn wsX10_fileComplaint wsX10_files := goodIn_r _ [46, 26, 27, 5, 28] (by decide +kernel) (by decide +kernel)
set_option maxRecDepth 20000 in
theorem gX10_fileComplaint_X10_files : GoodIn wsX10_fileComplaint (va_wsS RX10 47 yX10_files wsX10_files) := goodIn_app (goodIn_of _ (by decide +kernel)) ggX10_fileComplaint_X10_files
theorem dX10_fileComplaint_0 : decode cX10_fileComplaint 0 = .ok (.aload_n 0, 1) := by decide +kernel
theorem dX10_fileComplaint_1 : decode cX10_fileComplaint 1 = .ok (.iconst 0, 1) := by decide +kernel
theorem dX10_fileComplaint_2 : decode cX10_fileComplaint 2 = .ok (.putfield 51, 3) := by decide +kernel
theorem dX10_fileComplaint_5 : decode cX10_fileComplaint 5 = .ok (.iload_n 1, 1) := by decide +kernel
theorem dX10_fileComplaint_6 : decode cX10_fileComplaint 6 = .ok (.invokestatic 282, 3) := by decide +kernel
theorem dX10_fileComplaint_9 : decode cX10_fileComplaint 9 = .ok (.ifCond .ne 9, 3) := by decide +kernel
theorem dX10_fileComplaint_12 : decode cX10_fileComplaint 12 = .ok (.aload_n 0, 1) := by decide +kernel
theorem dX10_fileComplaint_13 : decode cX10_fileComplaint 13 = .ok (.iconst 1, 1) := by decide +kernel
theorem dX10_fileComplaint_14 : decode cX10_fileComplaint 14 = .ok (.invokevirtual 169, 3) := by decide +kernel
theorem dX10_fileComplaint_17 : decode cX10_fileComplaint 17 = .ok (.ireturn, 1) := by decide +kernel
theorem dX10_fileComplaint_18 : decode cX10_fileComplaint 18 = .ok (.iload_n 2, 1) := by decide +kernel
theorem dX10_fileComplaint_19 : decode cX10_fileComplaint 19 = .ok (.invokestatic 263, 3) := by decide +kernel
theorem dX10_fileComplaint_22 : decode cX10_fileComplaint 22 = .ok (.ifCond .ne 9, 3) := by decide +kernel
theorem dX10_fileComplaint_25 : decode cX10_fileComplaint 25 = .ok (.aload_n 0, 1) := by decide +kernel
theorem dX10_fileComplaint_26 : decode cX10_fileComplaint 26 = .ok (.iconst 1, 1) := by decide +kernel
theorem dX10_fileComplaint_27 : decode cX10_fileComplaint 27 = .ok (.invokevirtual 169, 3) := by decide +kernel
theorem dX10_fileComplaint_30 : decode cX10_fileComplaint 30 = .ok (.ireturn, 1) := by decide +kernel
theorem dX10_fileComplaint_31 : decode cX10_fileComplaint 31 = .ok (.iload_n 3, 1) := by decide +kernel
theorem dX10_fileComplaint_32 : decode cX10_fileComplaint 32 = .ok (.iconst 1, 1) := by decide +kernel
theorem dX10_fileComplaint_33 : decode cX10_fileComplaint 33 = .ok (.bipush 9, 2) := by decide +kernel
theorem dX10_fileComplaint_35 : decode cX10_fileComplaint 35 = .ok (.invokestatic 58, 3) := by decide +kernel
theorem dX10_fileComplaint_38 : decode cX10_fileComplaint 38 = .ok (.ifCond .ne 9, 3) := by decide +kernel
theorem dX10_fileComplaint_41 : decode cX10_fileComplaint 41 = .ok (.aload_n 0, 1) := by decide +kernel
theorem dX10_fileComplaint_42 : decode cX10_fileComplaint 42 = .ok (.iconst 1, 1) := by decide +kernel
theorem dX10_fileComplaint_43 : decode cX10_fileComplaint 43 = .ok (.invokevirtual 169, 3) := by decide +kernel
theorem dX10_fileComplaint_46 : decode cX10_fileComplaint 46 = .ok (.ireturn, 1) := by decide +kernel
theorem dX10_fileComplaint_47 : decode cX10_fileComplaint 47 = .ok (.aload_n 0, 1) := by decide +kernel
theorem dX10_fileComplaint_48 : decode cX10_fileComplaint 48 = .ok (.getfield 7, 3) := by decide +kernel
theorem dX10_fileComplaint_51 : decode cX10_fileComplaint 51 = .ok (.bipush 6, 2) := by decide +kernel
theorem dX10_fileComplaint_53 : decode cX10_fileComplaint 53 = .ok (.iaload, 1) := by decide +kernel
theorem dX10_fileComplaint_54 : decode cX10_fileComplaint 54 = .ok (.bipush 24, 2) := by decide +kernel
theorem dX10_fileComplaint_56 : decode cX10_fileComplaint 56 = .ok (.if_icmp .ne 9, 3) := by decide +kernel
theorem dX10_fileComplaint_59 : decode cX10_fileComplaint 59 = .ok (.aload_n 0, 1) := by decide +kernel
theorem dX10_fileComplaint_60 : decode cX10_fileComplaint 60 = .ok (.iconst 2, 1) := by decide +kernel
theorem dX10_fileComplaint_61 : decode cX10_fileComplaint 61 = .ok (.invokevirtual 169, 3) := by decide +kernel
theorem dX10_fileComplaint_64 : decode cX10_fileComplaint 64 = .ok (.ireturn, 1) := by decide +kernel
theorem dX10_fileComplaint_65 : decode cX10_fileComplaint 65 = .ok (.aload_n 0, 1) := by decide +kernel
theorem dX10_fileComplaint_66 : decode cX10_fileComplaint 66 = .ok (.getfield 7, 3) := by decide +kernel
theorem dX10_fileComplaint_69 : decode cX10_fileComplaint 69 = .ok (.iload_n 1, 1) := by decide +kernel
theorem dX10_fileComplaint_70 : decode cX10_fileComplaint 70 = .ok (.iload_n 2, 1) := by decide +kernel
theorem dX10_fileComplaint_71 : decode cX10_fileComplaint 71 = .ok (.invokestatic 234, 3) := by decide +kernel
theorem dX10_fileComplaint_74 : decode cX10_fileComplaint 74 = .ok (.ifCond .lt 9, 3) := by decide +kernel
theorem dX10_fileComplaint_77 : decode cX10_fileComplaint 77 = .ok (.aload_n 0, 1) := by decide +kernel
theorem dX10_fileComplaint_78 : decode cX10_fileComplaint 78 = .ok (.iconst 2, 1) := by decide +kernel
theorem dX10_fileComplaint_79 : decode cX10_fileComplaint 79 = .ok (.invokevirtual 169, 3) := by decide +kernel
theorem dX10_fileComplaint_82 : decode cX10_fileComplaint 82 = .ok (.ireturn, 1) := by decide +kernel
theorem dX10_fileComplaint_83 : decode cX10_fileComplaint 83 = .ok (.aload_n 0, 1) := by decide +kernel
theorem dX10_fileComplaint_84 : decode cX10_fileComplaint 84 = .ok (.invokevirtual 306, 3) := by decide +kernel
theorem dX10_fileComplaint_87 : decode cX10_fileComplaint 87 = .ok (.aload_n 0, 1) := by decide +kernel
theorem dX10_fileComplaint_88 : decode cX10_fileComplaint 88 = .ok (.getfield 7, 3) := by decide +kernel
theorem dX10_fileComplaint_91 : decode cX10_fileComplaint 91 = .ok (.iload_n 1, 1) := by decide +kernel
theorem dX10_fileComplaint_92 : decode cX10_fileComplaint 92 = .ok (.iload_n 2, 1) := by decide +kernel
theorem dX10_fileComplaint_93 : decode cX10_fileComplaint 93 = .ok (.iload_n 3, 1) := by decide +kernel
theorem dX10_fileComplaint_94 : decode cX10_fileComplaint 94 = .ok (.invokestatic 47, 3) := by decide +kernel
theorem dX10_fileComplaint_97 : decode cX10_fileComplaint 97 = .ok (.ireturn, 1) := by decide +kernel
set_option maxRecDepth 20000 in
theorem ggX10_giveUp_X10_isComplaint : GoodIn wsX10_giveUp wsX10_isComplaint := goodIn_r _ [7, 2, 8, 9, 6, 10, 42, 43, 44, 45, 46, 47, 48, 49, 50, 51, 52, 53, 54, 55, 56, 57, 58, 59, 60] (by decide +kernel) (by decide +kernel)
set_option maxRecDepth 20000 in
theorem gX10_giveUp_X10_isComplaint : GoodIn wsX10_giveUp (wsV RX10 272 RX10 yX10_isComplaint wsX10_isComplaint) := goodIn_app (goodIn_of _ (by decide +kernel)) ggX10_giveUp_X10_isComplaint
set_option maxRecDepth 20000 in
theorem ggX10_giveUp_X10_fails : GoodIn wsX10_giveUp wsX10_fails := goodIn_r _ [14, 1, 42, 43, 44, 45, 46, 47, 48, 49, 50, 51, 52, 53, 54, 55, 56, 57, 58, 59, 60] (by decide +kernel) (by decide +kernel)
set_option maxRecDepth 20000 in
theorem gX10_giveUp_X10_fails : GoodIn wsX10_giveUp (wsV RX10 169 RX10 yX10_fails wsX10_fails) := goodIn_app (goodIn_of _ (by decide +kernel)) ggX10_giveUp_X10_fails
set_option maxRecDepth 20000 in
theorem ggX10_giveUp_X10_waits : GoodIn wsX10_giveUp wsX10_waits := goodIn_r _ [17, 18, 19, 6, 20, 21, 22, 23] (by decide +kernel) (by decide +kernel)
set_option maxRecDepth 20000 in
theorem gX10_giveUp_X10_waits : GoodIn wsX10_giveUp (va_wsS RX10 108 yX10_waits wsX10_waits) := goodIn_app (goodIn_of _ (by decide +kernel)) ggX10_giveUp_X10_waits
set_option maxRecDepth 20000 in
theorem ggX10_giveUp_X10_keepsForUndo : GoodIn wsX10_giveUp wsX10_keepsForUndo := goodIn_r _ [27, 28, 29, 2, 30, 31, 6, 32, 42, 43, 44, 45, 46, 47, 48, 49, 50, 51, 52, 53, 54, 55, 56, 57, 58, 59, 60] (by decide +kernel) (by decide +kernel)
set_option maxRecDepth 20000 in
theorem gX10_giveUp_X10_keepsForUndo : GoodIn wsX10_giveUp (wsV RX10 306 RX10 yX10_keepsForUndo wsX10_keepsForUndo) := goodIn_app (goodIn_of _ (by decide +kernel)) ggX10_giveUp_X10_keepsForUndo
set_option maxRecDepth 20000 in
theorem ggX10_giveUp_X10_closes : GoodIn wsX10_giveUp wsX10_closes := goodIn_r _ [35, 21, 22, 6, 23] (by decide +kernel) (by decide +kernel)
set_option maxRecDepth 20000 in
theorem gX10_giveUp_X10_closes : GoodIn wsX10_giveUp (va_wsS RX10 128 yX10_closes wsX10_closes) := goodIn_app (goodIn_of _ (by decide +kernel)) ggX10_giveUp_X10_closes
set_option maxRecDepth 20000 in
theorem ggX10_giveUp_X10_ageOf : GoodIn wsX10_giveUp wsX10_ageOf := goodIn_r _ [38, 39, 40, 6, 41, 21, 22, 23] (by decide +kernel) (by decide +kernel)
set_option maxRecDepth 20000 in
theorem gX10_giveUp_X10_ageOf : GoodIn wsX10_giveUp (va_wsS RX10 105 yX10_ageOf wsX10_ageOf) := goodIn_app (goodIn_of _ (by decide +kernel)) ggX10_giveUp_X10_ageOf
theorem dX10_giveUp_0 : decode cX10_giveUp 0 = .ok (.aload_n 0, 1) := by decide +kernel
theorem dX10_giveUp_1 : decode cX10_giveUp 1 = .ok (.iconst 0, 1) := by decide +kernel
theorem dX10_giveUp_2 : decode cX10_giveUp 2 = .ok (.putfield 51, 3) := by decide +kernel
theorem dX10_giveUp_5 : decode cX10_giveUp 5 = .ok (.aload_n 0, 1) := by decide +kernel
theorem dX10_giveUp_6 : decode cX10_giveUp 6 = .ok (.iload_n 1, 1) := by decide +kernel
theorem dX10_giveUp_7 : decode cX10_giveUp 7 = .ok (.invokevirtual 272, 3) := by decide +kernel
theorem dX10_giveUp_10 : decode cX10_giveUp 10 = .ok (.ifCond .ne 9, 3) := by decide +kernel
theorem dX10_giveUp_13 : decode cX10_giveUp 13 = .ok (.aload_n 0, 1) := by decide +kernel
theorem dX10_giveUp_14 : decode cX10_giveUp 14 = .ok (.iconst 1, 1) := by decide +kernel
theorem dX10_giveUp_15 : decode cX10_giveUp 15 = .ok (.invokevirtual 169, 3) := by decide +kernel
theorem dX10_giveUp_18 : decode cX10_giveUp 18 = .ok (.ireturn, 1) := by decide +kernel
theorem dX10_giveUp_19 : decode cX10_giveUp 19 = .ok (.aload_n 0, 1) := by decide +kernel
theorem dX10_giveUp_20 : decode cX10_giveUp 20 = .ok (.getfield 7, 3) := by decide +kernel
theorem dX10_giveUp_23 : decode cX10_giveUp 23 = .ok (.iload_n 1, 1) := by decide +kernel
theorem dX10_giveUp_24 : decode cX10_giveUp 24 = .ok (.invokestatic 108, 3) := by decide +kernel
theorem dX10_giveUp_27 : decode cX10_giveUp 27 = .ok (.ifCond .ne 9, 3) := by decide +kernel
theorem dX10_giveUp_30 : decode cX10_giveUp 30 = .ok (.aload_n 0, 1) := by decide +kernel
theorem dX10_giveUp_31 : decode cX10_giveUp 31 = .ok (.iconst 2, 1) := by decide +kernel
theorem dX10_giveUp_32 : decode cX10_giveUp 32 = .ok (.invokevirtual 169, 3) := by decide +kernel
theorem dX10_giveUp_35 : decode cX10_giveUp 35 = .ok (.ireturn, 1) := by decide +kernel
theorem dX10_giveUp_36 : decode cX10_giveUp 36 = .ok (.aload_n 0, 1) := by decide +kernel
theorem dX10_giveUp_37 : decode cX10_giveUp 37 = .ok (.invokevirtual 306, 3) := by decide +kernel
theorem dX10_giveUp_40 : decode cX10_giveUp 40 = .ok (.aload_n 0, 1) := by decide +kernel
theorem dX10_giveUp_41 : decode cX10_giveUp 41 = .ok (.getfield 7, 3) := by decide +kernel
theorem dX10_giveUp_44 : decode cX10_giveUp 44 = .ok (.iload_n 1, 1) := by decide +kernel
theorem dX10_giveUp_45 : decode cX10_giveUp 45 = .ok (.iconst 3, 1) := by decide +kernel
theorem dX10_giveUp_46 : decode cX10_giveUp 46 = .ok (.iconst (-1), 1) := by decide +kernel
theorem dX10_giveUp_47 : decode cX10_giveUp 47 = .ok (.invokestatic 128, 3) := by decide +kernel
theorem dX10_giveUp_50 : decode cX10_giveUp 50 = .ok (.aload_n 0, 1) := by decide +kernel
theorem dX10_giveUp_51 : decode cX10_giveUp 51 = .ok (.getfield 7, 3) := by decide +kernel
theorem dX10_giveUp_54 : decode cX10_giveUp 54 = .ok (.iload_n 1, 1) := by decide +kernel
theorem dX10_giveUp_55 : decode cX10_giveUp 55 = .ok (.invokestatic 105, 3) := by decide +kernel
theorem dX10_giveUp_58 : decode cX10_giveUp 58 = .ok (.ireturn, 1) := by decide +kernel
set_option maxRecDepth 20000 in
theorem ggX10_addClerk_X10_in : GoodIn wsX10_addClerk wsX10_in := goodIn_r _ [6] (by decide +kernel) (by decide +kernel)
set_option maxRecDepth 20000 in
theorem gX10_addClerk_X10_in : GoodIn wsX10_addClerk (va_wsS RX10 58 yX10_in wsX10_in) := goodIn_app (goodIn_of _ (by decide +kernel)) ggX10_addClerk_X10_in
set_option maxRecDepth 20000 in
theorem ggX10_addClerk_X10_fails : GoodIn wsX10_addClerk wsX10_fails := goodIn_r _ [10, 1, 26, 27, 28, 29, 30, 31, 32, 33, 34, 35, 36, 37, 38, 39, 40, 41, 42, 43, 44] (by decide +kernel) (by decide +kernel)
set_option maxRecDepth 20000 in
theorem gX10_addClerk_X10_fails : GoodIn wsX10_addClerk (wsV RX10 169 RX10 yX10_fails wsX10_fails) := goodIn_app (goodIn_of _ (by decide +kernel)) ggX10_addClerk_X10_fails
set_option maxRecDepth 20000 in
theorem ggX10_addClerk_X10_keepsForUndo : GoodIn wsX10_addClerk wsX10_keepsForUndo := goodIn_r _ [14, 15, 16, 2, 17, 18, 5, 19, 26, 27, 28, 29, 30, 31, 32, 33, 34, 35, 36, 37, 38, 39, 40, 41, 42, 43, 44] (by decide +kernel) (by decide +kernel)
set_option maxRecDepth 20000 in
theorem gX10_addClerk_X10_keepsForUndo : GoodIn wsX10_addClerk (wsV RX10 306 RX10 yX10_keepsForUndo wsX10_keepsForUndo) := goodIn_app (goodIn_of _ (by decide +kernel)) ggX10_addClerk_X10_keepsForUndo
set_option maxRecDepth 20000 in
theorem ggX10_addClerk_X10_addsClerk : GoodIn wsX10_addClerk wsX10_addsClerk := goodIn_r _ [22, 23, 24, 5, 25] (by decide +kernel) (by decide +kernel)
set_option maxRecDepth 20000 in
theorem gX10_addClerk_X10_addsClerk : GoodIn wsX10_addClerk (va_wsS RX10 43 yX10_addsClerk wsX10_addsClerk) := goodIn_app (goodIn_of _ (by decide +kernel)) ggX10_addClerk_X10_addsClerk
theorem dX10_addClerk_0 : decode cX10_addClerk 0 = .ok (.aload_n 0, 1) := by decide +kernel
theorem dX10_addClerk_1 : decode cX10_addClerk 1 = .ok (.iconst 0, 1) := by decide +kernel
theorem dX10_addClerk_2 : decode cX10_addClerk 2 = .ok (.putfield 51, 3) := by decide +kernel
theorem dX10_addClerk_5 : decode cX10_addClerk 5 = .ok (.iload_n 1, 1) := by decide +kernel
theorem dX10_addClerk_6 : decode cX10_addClerk 6 = .ok (.iconst 1, 1) := by decide +kernel
theorem dX10_addClerk_7 : decode cX10_addClerk 7 = .ok (.bipush 9, 2) := by decide +kernel
theorem dX10_addClerk_9 : decode cX10_addClerk 9 = .ok (.invokestatic 58, 3) := by decide +kernel
theorem dX10_addClerk_12 : decode cX10_addClerk 12 = .ok (.ifCond .ne 9, 3) := by decide +kernel
theorem dX10_addClerk_15 : decode cX10_addClerk 15 = .ok (.aload_n 0, 1) := by decide +kernel
theorem dX10_addClerk_16 : decode cX10_addClerk 16 = .ok (.iconst 1, 1) := by decide +kernel
theorem dX10_addClerk_17 : decode cX10_addClerk 17 = .ok (.invokevirtual 169, 3) := by decide +kernel
theorem dX10_addClerk_20 : decode cX10_addClerk 20 = .ok (.ireturn, 1) := by decide +kernel
theorem dX10_addClerk_21 : decode cX10_addClerk 21 = .ok (.iload_n 2, 1) := by decide +kernel
theorem dX10_addClerk_22 : decode cX10_addClerk 22 = .ok (.iconst 0, 1) := by decide +kernel
theorem dX10_addClerk_23 : decode cX10_addClerk 23 = .ok (.bipush 99, 2) := by decide +kernel
theorem dX10_addClerk_25 : decode cX10_addClerk 25 = .ok (.invokestatic 58, 3) := by decide +kernel
theorem dX10_addClerk_28 : decode cX10_addClerk 28 = .ok (.ifCond .ne 9, 3) := by decide +kernel
theorem dX10_addClerk_31 : decode cX10_addClerk 31 = .ok (.aload_n 0, 1) := by decide +kernel
theorem dX10_addClerk_32 : decode cX10_addClerk 32 = .ok (.iconst 1, 1) := by decide +kernel
theorem dX10_addClerk_33 : decode cX10_addClerk 33 = .ok (.invokevirtual 169, 3) := by decide +kernel
theorem dX10_addClerk_36 : decode cX10_addClerk 36 = .ok (.ireturn, 1) := by decide +kernel
theorem dX10_addClerk_37 : decode cX10_addClerk 37 = .ok (.aload_n 0, 1) := by decide +kernel
theorem dX10_addClerk_38 : decode cX10_addClerk 38 = .ok (.getfield 7, 3) := by decide +kernel
theorem dX10_addClerk_41 : decode cX10_addClerk 41 = .ok (.iconst 5, 1) := by decide +kernel
theorem dX10_addClerk_42 : decode cX10_addClerk 42 = .ok (.iaload, 1) := by decide +kernel
theorem dX10_addClerk_43 : decode cX10_addClerk 43 = .ok (.iconst 5, 1) := by decide +kernel
theorem dX10_addClerk_44 : decode cX10_addClerk 44 = .ok (.if_icmp .ne 9, 3) := by decide +kernel
theorem dX10_addClerk_47 : decode cX10_addClerk 47 = .ok (.aload_n 0, 1) := by decide +kernel
theorem dX10_addClerk_48 : decode cX10_addClerk 48 = .ok (.iconst 2, 1) := by decide +kernel
theorem dX10_addClerk_49 : decode cX10_addClerk 49 = .ok (.invokevirtual 169, 3) := by decide +kernel
theorem dX10_addClerk_52 : decode cX10_addClerk 52 = .ok (.ireturn, 1) := by decide +kernel
theorem dX10_addClerk_53 : decode cX10_addClerk 53 = .ok (.aload_n 0, 1) := by decide +kernel
theorem dX10_addClerk_54 : decode cX10_addClerk 54 = .ok (.invokevirtual 306, 3) := by decide +kernel
theorem dX10_addClerk_57 : decode cX10_addClerk 57 = .ok (.aload_n 0, 1) := by decide +kernel
theorem dX10_addClerk_58 : decode cX10_addClerk 58 = .ok (.getfield 7, 3) := by decide +kernel
theorem dX10_addClerk_61 : decode cX10_addClerk 61 = .ok (.iload_n 1, 1) := by decide +kernel
theorem dX10_addClerk_62 : decode cX10_addClerk 62 = .ok (.iload_n 2, 1) := by decide +kernel
theorem dX10_addClerk_63 : decode cX10_addClerk 63 = .ok (.invokestatic 43, 3) := by decide +kernel
theorem dX10_addClerk_66 : decode cX10_addClerk 66 = .ok (.ireturn, 1) := by decide +kernel
set_option maxRecDepth 20000 in
theorem ggX10_refill_X10_isClerk : GoodIn wsX10_refill wsX10_isClerk := goodIn_r _ [7, 2, 8, 9, 6, 10, 30, 31, 32, 33, 34, 35, 36, 37, 38, 39, 40, 41, 42, 43, 44, 45, 46, 47, 48] (by decide +kernel) (by decide +kernel)
set_option maxRecDepth 20000 in
theorem gX10_refill_X10_isClerk : GoodIn wsX10_refill (wsV RX10 285 RX10 yX10_isClerk wsX10_isClerk) := goodIn_app (goodIn_of _ (by decide +kernel)) ggX10_refill_X10_isClerk
set_option maxRecDepth 20000 in
theorem ggX10_refill_X10_fails : GoodIn wsX10_refill wsX10_fails := goodIn_r _ [14, 1, 30, 31, 32, 33, 34, 35, 36, 37, 38, 39, 40, 41, 42, 43, 44, 45, 46, 47, 48] (by decide +kernel) (by decide +kernel)
set_option maxRecDepth 20000 in
theorem gX10_refill_X10_fails : GoodIn wsX10_refill (wsV RX10 169 RX10 yX10_fails wsX10_fails) := goodIn_app (goodIn_of _ (by decide +kernel)) ggX10_refill_X10_fails
set_option maxRecDepth 20000 in
theorem ggX10_refill_X10_in : GoodIn wsX10_refill wsX10_in := goodIn_r _ [10] (by decide +kernel) (by decide +kernel)
set_option maxRecDepth 20000 in
theorem gX10_refill_X10_in : GoodIn wsX10_refill (va_wsS RX10 58 yX10_in wsX10_in) := goodIn_app (goodIn_of _ (by decide +kernel)) ggX10_refill_X10_in
set_option maxRecDepth 20000 in
theorem ggX10_refill_X10_keepsForUndo : GoodIn wsX10_refill wsX10_keepsForUndo := goodIn_r _ [18, 19, 20, 2, 21, 22, 6, 23, 30, 31, 32, 33, 34, 35, 36, 37, 38, 39, 40, 41, 42, 43, 44, 45, 46, 47, 48] (by decide +kernel) (by decide +kernel)
set_option maxRecDepth 20000 in
theorem gX10_refill_X10_keepsForUndo : GoodIn wsX10_refill (wsV RX10 306 RX10 yX10_keepsForUndo wsX10_keepsForUndo) := goodIn_app (goodIn_of _ (by decide +kernel)) ggX10_refill_X10_keepsForUndo
set_option maxRecDepth 20000 in
theorem ggX10_refill_X10_clerkAt : GoodIn wsX10_refill wsX10_clerkAt := goodIn_r _ [26] (by decide +kernel) (by decide +kernel)
set_option maxRecDepth 20000 in
theorem gX10_refill_X10_clerkAt : GoodIn wsX10_refill (va_wsS RX10 87 yX10_clerkAt wsX10_clerkAt) := goodIn_app (goodIn_of _ (by decide +kernel)) ggX10_refill_X10_clerkAt
set_option maxRecDepth 20000 in
theorem ggX10_refill_X10_less : GoodIn wsX10_refill wsX10_less := goodIn_r _ [29] (by decide +kernel) (by decide +kernel)
set_option maxRecDepth 20000 in
theorem gX10_refill_X10_less : GoodIn wsX10_refill (va_wsS RX10 150 yX10_less wsX10_less) := goodIn_app (goodIn_of _ (by decide +kernel)) ggX10_refill_X10_less
theorem dX10_refill_0 : decode cX10_refill 0 = .ok (.aload_n 0, 1) := by decide +kernel
theorem dX10_refill_1 : decode cX10_refill 1 = .ok (.iconst 0, 1) := by decide +kernel
theorem dX10_refill_2 : decode cX10_refill 2 = .ok (.putfield 51, 3) := by decide +kernel
theorem dX10_refill_5 : decode cX10_refill 5 = .ok (.aload_n 0, 1) := by decide +kernel
theorem dX10_refill_6 : decode cX10_refill 6 = .ok (.iload_n 1, 1) := by decide +kernel
theorem dX10_refill_7 : decode cX10_refill 7 = .ok (.invokevirtual 285, 3) := by decide +kernel
theorem dX10_refill_10 : decode cX10_refill 10 = .ok (.ifCond .ne 9, 3) := by decide +kernel
theorem dX10_refill_13 : decode cX10_refill 13 = .ok (.aload_n 0, 1) := by decide +kernel
theorem dX10_refill_14 : decode cX10_refill 14 = .ok (.iconst 1, 1) := by decide +kernel
theorem dX10_refill_15 : decode cX10_refill 15 = .ok (.invokevirtual 169, 3) := by decide +kernel
theorem dX10_refill_18 : decode cX10_refill 18 = .ok (.ireturn, 1) := by decide +kernel
theorem dX10_refill_19 : decode cX10_refill 19 = .ok (.iload_n 2, 1) := by decide +kernel
theorem dX10_refill_20 : decode cX10_refill 20 = .ok (.iconst 1, 1) := by decide +kernel
theorem dX10_refill_21 : decode cX10_refill 21 = .ok (.bipush 99, 2) := by decide +kernel
theorem dX10_refill_23 : decode cX10_refill 23 = .ok (.invokestatic 58, 3) := by decide +kernel
theorem dX10_refill_26 : decode cX10_refill 26 = .ok (.ifCond .ne 9, 3) := by decide +kernel
theorem dX10_refill_29 : decode cX10_refill 29 = .ok (.aload_n 0, 1) := by decide +kernel
theorem dX10_refill_30 : decode cX10_refill 30 = .ok (.iconst 2, 1) := by decide +kernel
theorem dX10_refill_31 : decode cX10_refill 31 = .ok (.invokevirtual 169, 3) := by decide +kernel
theorem dX10_refill_34 : decode cX10_refill 34 = .ok (.ireturn, 1) := by decide +kernel
theorem dX10_refill_35 : decode cX10_refill 35 = .ok (.aload_n 0, 1) := by decide +kernel
theorem dX10_refill_36 : decode cX10_refill 36 = .ok (.invokevirtual 306, 3) := by decide +kernel
theorem dX10_refill_39 : decode cX10_refill 39 = .ok (.aload_n 0, 1) := by decide +kernel
theorem dX10_refill_40 : decode cX10_refill 40 = .ok (.getfield 7, 3) := by decide +kernel
theorem dX10_refill_43 : decode cX10_refill 43 = .ok (.iload_n 1, 1) := by decide +kernel
theorem dX10_refill_44 : decode cX10_refill 44 = .ok (.iconst 1, 1) := by decide +kernel
theorem dX10_refill_45 : decode cX10_refill 45 = .ok (.invokestatic 87, 3) := by decide +kernel
theorem dX10_refill_48 : decode cX10_refill 48 = .ok (.bipush 99, 2) := by decide +kernel
theorem dX10_refill_50 : decode cX10_refill 50 = .ok (.aload_n 0, 1) := by decide +kernel
theorem dX10_refill_51 : decode cX10_refill 51 = .ok (.getfield 7, 3) := by decide +kernel
theorem dX10_refill_54 : decode cX10_refill 54 = .ok (.iload_n 1, 1) := by decide +kernel
theorem dX10_refill_55 : decode cX10_refill 55 = .ok (.iconst 1, 1) := by decide +kernel
theorem dX10_refill_56 : decode cX10_refill 56 = .ok (.invokestatic 87, 3) := by decide +kernel
theorem dX10_refill_59 : decode cX10_refill 59 = .ok (.iaload, 1) := by decide +kernel
theorem dX10_refill_60 : decode cX10_refill 60 = .ok (.iload_n 2, 1) := by decide +kernel
theorem dX10_refill_61 : decode cX10_refill 61 = .ok (.iadd, 1) := by decide +kernel
theorem dX10_refill_62 : decode cX10_refill 62 = .ok (.invokestatic 150, 3) := by decide +kernel
theorem dX10_refill_65 : decode cX10_refill 65 = .ok (.iastore, 1) := by decide +kernel
theorem dX10_refill_66 : decode cX10_refill 66 = .ok (.aload_n 0, 1) := by decide +kernel
theorem dX10_refill_67 : decode cX10_refill 67 = .ok (.getfield 7, 3) := by decide +kernel
theorem dX10_refill_70 : decode cX10_refill 70 = .ok (.iload_n 1, 1) := by decide +kernel
theorem dX10_refill_71 : decode cX10_refill 71 = .ok (.iconst 1, 1) := by decide +kernel
theorem dX10_refill_72 : decode cX10_refill 72 = .ok (.invokestatic 87, 3) := by decide +kernel
theorem dX10_refill_75 : decode cX10_refill 75 = .ok (.iaload, 1) := by decide +kernel
theorem dX10_refill_76 : decode cX10_refill 76 = .ok (.ireturn, 1) := by decide +kernel
set_option maxRecDepth 20000 in
theorem ggX10_sets_X10_keepsForUndo : GoodIn wsX10_sets wsX10_keepsForUndo := goodIn_r _ [6, 7, 8, 1, 9, 10, 5, 11, 12, 13, 14, 15, 16, 17, 18, 19, 20, 21, 22, 23, 24, 25, 26, 27, 28, 29, 30] (by decide +kernel) (by decide +kernel)
set_option maxRecDepth 20000 in
theorem gX10_sets_X10_keepsForUndo : GoodIn wsX10_sets (wsV RX10 306 RX10 yX10_keepsForUndo wsX10_keepsForUndo) := goodIn_app (goodIn_of _ (by decide +kernel)) ggX10_sets_X10_keepsForUndo
theorem dX10_sets_0 : decode cX10_sets 0 = .ok (.aload_n 0, 1) := by decide +kernel
theorem dX10_sets_1 : decode cX10_sets 1 = .ok (.invokevirtual 306, 3) := by decide +kernel
theorem dX10_sets_4 : decode cX10_sets 4 = .ok (.aload_n 0, 1) := by decide +kernel
theorem dX10_sets_5 : decode cX10_sets 5 = .ok (.getfield 7, 3) := by decide +kernel
theorem dX10_sets_8 : decode cX10_sets 8 = .ok (.iload_n 1, 1) := by decide +kernel
theorem dX10_sets_9 : decode cX10_sets 9 = .ok (.iaload, 1) := by decide +kernel
theorem dX10_sets_10 : decode cX10_sets 10 = .ok (.istore_n 3, 1) := by decide +kernel
theorem dX10_sets_11 : decode cX10_sets 11 = .ok (.aload_n 0, 1) := by decide +kernel
theorem dX10_sets_12 : decode cX10_sets 12 = .ok (.getfield 7, 3) := by decide +kernel
theorem dX10_sets_15 : decode cX10_sets 15 = .ok (.iload_n 1, 1) := by decide +kernel
theorem dX10_sets_16 : decode cX10_sets 16 = .ok (.iload_n 2, 1) := by decide +kernel
theorem dX10_sets_17 : decode cX10_sets 17 = .ok (.iastore, 1) := by decide +kernel
theorem dX10_sets_18 : decode cX10_sets 18 = .ok (.iload_n 3, 1) := by decide +kernel
theorem dX10_sets_19 : decode cX10_sets 19 = .ok (.ireturn, 1) := by decide +kernel
set_option maxRecDepth 20000 in
theorem ggX10_setCloud_X10_in : GoodIn wsX10_setCloud wsX10_in := goodIn_r _ [6] (by decide +kernel) (by decide +kernel)
set_option maxRecDepth 20000 in
theorem gX10_setCloud_X10_in : GoodIn wsX10_setCloud (va_wsS RX10 58 yX10_in wsX10_in) := goodIn_app (goodIn_of _ (by decide +kernel)) ggX10_setCloud_X10_in
set_option maxRecDepth 20000 in
theorem ggX10_setCloud_X10_fails : GoodIn wsX10_setCloud wsX10_fails := goodIn_r _ [10, 1, 24, 25, 26, 27, 28, 29, 30, 31, 32, 33, 34, 35, 36, 37, 38, 39, 40, 41, 42] (by decide +kernel) (by decide +kernel)
set_option maxRecDepth 20000 in
theorem gX10_setCloud_X10_fails : GoodIn wsX10_setCloud (wsV RX10 169 RX10 yX10_fails wsX10_fails) := goodIn_app (goodIn_of _ (by decide +kernel)) ggX10_setCloud_X10_fails
set_option maxRecDepth 20000 in
theorem ggX10_setCloud_X10_sets : GoodIn wsX10_setCloud wsX10_sets := goodIn_r _ [14, 2, 15, 16, 17, 5, 18, 19, 20, 21, 22, 23, 24, 25, 26, 27, 28, 29, 30, 31, 32, 33, 34, 35, 36, 37, 38, 39, 40, 41, 42] (by decide +kernel) (by decide +kernel)
set_option maxRecDepth 20000 in
theorem gX10_setCloud_X10_sets : GoodIn wsX10_setCloud (wsV RX10 309 RX10 yX10_sets wsX10_sets) := goodIn_app (goodIn_of _ (by decide +kernel)) ggX10_setCloud_X10_sets
theorem dX10_setCloud_0 : decode cX10_setCloud 0 = .ok (.aload_n 0, 1) := by decide +kernel
theorem dX10_setCloud_1 : decode cX10_setCloud 1 = .ok (.iconst 0, 1) := by decide +kernel
theorem dX10_setCloud_2 : decode cX10_setCloud 2 = .ok (.putfield 51, 3) := by decide +kernel
theorem dX10_setCloud_5 : decode cX10_setCloud 5 = .ok (.iload_n 1, 1) := by decide +kernel
theorem dX10_setCloud_6 : decode cX10_setCloud 6 = .ok (.iconst 0, 1) := by decide +kernel
theorem dX10_setCloud_7 : decode cX10_setCloud 7 = .ok (.aload_n 0, 1) := by decide +kernel
theorem dX10_setCloud_8 : decode cX10_setCloud 8 = .ok (.getfield 7, 3) := by decide +kernel
theorem dX10_setCloud_11 : decode cX10_setCloud 11 = .ok (.iconst 4, 1) := by decide +kernel
theorem dX10_setCloud_12 : decode cX10_setCloud 12 = .ok (.iaload, 1) := by decide +kernel
theorem dX10_setCloud_13 : decode cX10_setCloud 13 = .ok (.iconst 1, 1) := by decide +kernel
theorem dX10_setCloud_14 : decode cX10_setCloud 14 = .ok (.isub, 1) := by decide +kernel
theorem dX10_setCloud_15 : decode cX10_setCloud 15 = .ok (.invokestatic 58, 3) := by decide +kernel
theorem dX10_setCloud_18 : decode cX10_setCloud 18 = .ok (.ifCond .ne 9, 3) := by decide +kernel
theorem dX10_setCloud_21 : decode cX10_setCloud 21 = .ok (.aload_n 0, 1) := by decide +kernel
theorem dX10_setCloud_22 : decode cX10_setCloud 22 = .ok (.iconst 1, 1) := by decide +kernel
theorem dX10_setCloud_23 : decode cX10_setCloud 23 = .ok (.invokevirtual 169, 3) := by decide +kernel
theorem dX10_setCloud_26 : decode cX10_setCloud 26 = .ok (.ireturn, 1) := by decide +kernel
theorem dX10_setCloud_27 : decode cX10_setCloud 27 = .ok (.iload_n 2, 1) := by decide +kernel
theorem dX10_setCloud_28 : decode cX10_setCloud 28 = .ok (.iconst 0, 1) := by decide +kernel
theorem dX10_setCloud_29 : decode cX10_setCloud 29 = .ok (.bipush 9, 2) := by decide +kernel
theorem dX10_setCloud_31 : decode cX10_setCloud 31 = .ok (.invokestatic 58, 3) := by decide +kernel
theorem dX10_setCloud_34 : decode cX10_setCloud 34 = .ok (.ifCond .ne 9, 3) := by decide +kernel
theorem dX10_setCloud_37 : decode cX10_setCloud 37 = .ok (.aload_n 0, 1) := by decide +kernel
theorem dX10_setCloud_38 : decode cX10_setCloud 38 = .ok (.iconst 2, 1) := by decide +kernel
theorem dX10_setCloud_39 : decode cX10_setCloud 39 = .ok (.invokevirtual 169, 3) := by decide +kernel
theorem dX10_setCloud_42 : decode cX10_setCloud 42 = .ok (.ireturn, 1) := by decide +kernel
theorem dX10_setCloud_43 : decode cX10_setCloud 43 = .ok (.aload_n 0, 1) := by decide +kernel
theorem dX10_setCloud_44 : decode cX10_setCloud 44 = .ok (.bipush 9, 2) := by decide +kernel
theorem dX10_setCloud_46 : decode cX10_setCloud 46 = .ok (.iload_n 1, 1) := by decide +kernel
theorem dX10_setCloud_47 : decode cX10_setCloud 47 = .ok (.iadd, 1) := by decide +kernel
theorem dX10_setCloud_48 : decode cX10_setCloud 48 = .ok (.iload_n 2, 1) := by decide +kernel
theorem dX10_setCloud_49 : decode cX10_setCloud 49 = .ok (.invokevirtual 309, 3) := by decide +kernel
theorem dX10_setCloud_52 : decode cX10_setCloud 52 = .ok (.ireturn, 1) := by decide +kernel
set_option maxRecDepth 20000 in
theorem ggX10_setGlareLimit_X10_in : GoodIn wsX10_setGlareLimit wsX10_in := goodIn_r _ [5] (by decide +kernel) (by decide +kernel)
set_option maxRecDepth 20000 in
theorem gX10_setGlareLimit_X10_in : GoodIn wsX10_setGlareLimit (va_wsS RX10 58 yX10_in wsX10_in) := goodIn_app (goodIn_of _ (by decide +kernel)) ggX10_setGlareLimit_X10_in
set_option maxRecDepth 20000 in
theorem ggX10_setGlareLimit_X10_fails : GoodIn wsX10_setGlareLimit wsX10_fails := goodIn_r _ [9, 1, 24, 25, 26, 27, 28, 29, 30, 31, 32, 33, 34, 35, 36, 37, 38, 39, 40, 41, 42] (by decide +kernel) (by decide +kernel)
set_option maxRecDepth 20000 in
theorem gX10_setGlareLimit_X10_fails : GoodIn wsX10_setGlareLimit (wsV RX10 169 RX10 yX10_fails wsX10_fails) := goodIn_app (goodIn_of _ (by decide +kernel)) ggX10_setGlareLimit_X10_fails
set_option maxRecDepth 20000 in
theorem ggX10_setGlareLimit_X10_sets : GoodIn wsX10_setGlareLimit wsX10_sets := goodIn_r _ [13, 14, 15, 16, 17, 4, 18, 19, 20, 21, 22, 23, 24, 25, 26, 27, 28, 29, 30, 31, 32, 33, 34, 35, 36, 37, 38, 39, 40, 41, 42] (by decide +kernel) (by decide +kernel)
set_option maxRecDepth 20000 in
theorem gX10_setGlareLimit_X10_sets : GoodIn wsX10_setGlareLimit (wsV RX10 309 RX10 yX10_sets wsX10_sets) := goodIn_app (goodIn_of _ (by decide +kernel)) ggX10_setGlareLimit_X10_sets
theorem dX10_setGlareLimit_0 : decode cX10_setGlareLimit 0 = .ok (.aload_n 0, 1) := by decide +kernel
theorem dX10_setGlareLimit_1 : decode cX10_setGlareLimit 1 = .ok (.iconst 0, 1) := by decide +kernel
theorem dX10_setGlareLimit_2 : decode cX10_setGlareLimit 2 = .ok (.putfield 51, 3) := by decide +kernel
theorem dX10_setGlareLimit_5 : decode cX10_setGlareLimit 5 = .ok (.iload_n 1, 1) := by decide +kernel
theorem dX10_setGlareLimit_6 : decode cX10_setGlareLimit 6 = .ok (.iconst 1, 1) := by decide +kernel
theorem dX10_setGlareLimit_7 : decode cX10_setGlareLimit 7 = .ok (.bipush 14, 2) := by decide +kernel
theorem dX10_setGlareLimit_9 : decode cX10_setGlareLimit 9 = .ok (.invokestatic 58, 3) := by decide +kernel
theorem dX10_setGlareLimit_12 : decode cX10_setGlareLimit 12 = .ok (.ifCond .ne 9, 3) := by decide +kernel
theorem dX10_setGlareLimit_15 : decode cX10_setGlareLimit 15 = .ok (.aload_n 0, 1) := by decide +kernel
theorem dX10_setGlareLimit_16 : decode cX10_setGlareLimit 16 = .ok (.iconst 1, 1) := by decide +kernel
theorem dX10_setGlareLimit_17 : decode cX10_setGlareLimit 17 = .ok (.invokevirtual 169, 3) := by decide +kernel
theorem dX10_setGlareLimit_20 : decode cX10_setGlareLimit 20 = .ok (.ireturn, 1) := by decide +kernel
theorem dX10_setGlareLimit_21 : decode cX10_setGlareLimit 21 = .ok (.aload_n 0, 1) := by decide +kernel
theorem dX10_setGlareLimit_22 : decode cX10_setGlareLimit 22 = .ok (.iconst 1, 1) := by decide +kernel
theorem dX10_setGlareLimit_23 : decode cX10_setGlareLimit 23 = .ok (.iload_n 1, 1) := by decide +kernel
theorem dX10_setGlareLimit_24 : decode cX10_setGlareLimit 24 = .ok (.invokevirtual 309, 3) := by decide +kernel
theorem dX10_setGlareLimit_27 : decode cX10_setGlareLimit 27 = .ok (.ireturn, 1) := by decide +kernel
set_option maxRecDepth 20000 in
theorem ggX10_setGloomLimit_X10_in : GoodIn wsX10_setGloomLimit wsX10_in := goodIn_r _ [5] (by decide +kernel) (by decide +kernel)
set_option maxRecDepth 20000 in
theorem gX10_setGloomLimit_X10_in : GoodIn wsX10_setGloomLimit (va_wsS RX10 58 yX10_in wsX10_in) := goodIn_app (goodIn_of _ (by decide +kernel)) ggX10_setGloomLimit_X10_in
set_option maxRecDepth 20000 in
theorem ggX10_setGloomLimit_X10_fails : GoodIn wsX10_setGloomLimit wsX10_fails := goodIn_r _ [9, 1, 24, 25, 26, 27, 28, 29, 30, 31, 32, 33, 34, 35, 36, 37, 38, 39, 40, 41, 42] (by decide +kernel) (by decide +kernel)
set_option maxRecDepth 20000 in
theorem gX10_setGloomLimit_X10_fails : GoodIn wsX10_setGloomLimit (wsV RX10 169 RX10 yX10_fails wsX10_fails) := goodIn_app (goodIn_of _ (by decide +kernel)) ggX10_setGloomLimit_X10_fails
set_option maxRecDepth 20000 in
theorem ggX10_setGloomLimit_X10_sets : GoodIn wsX10_setGloomLimit wsX10_sets := goodIn_r _ [13, 14, 15, 16, 17, 4, 18, 19, 20, 21, 22, 23, 24, 25, 26, 27, 28, 29, 30, 31, 32, 33, 34, 35, 36, 37, 38, 39, 40, 41, 42] (by decide +kernel) (by decide +kernel)
set_option maxRecDepth 20000 in
theorem gX10_setGloomLimit_X10_sets : GoodIn wsX10_setGloomLimit (wsV RX10 309 RX10 yX10_sets wsX10_sets) := goodIn_app (goodIn_of _ (by decide +kernel)) ggX10_setGloomLimit_X10_sets
theorem dX10_setGloomLimit_0 : decode cX10_setGloomLimit 0 = .ok (.aload_n 0, 1) := by decide +kernel
theorem dX10_setGloomLimit_1 : decode cX10_setGloomLimit 1 = .ok (.iconst 0, 1) := by decide +kernel
theorem dX10_setGloomLimit_2 : decode cX10_setGloomLimit 2 = .ok (.putfield 51, 3) := by decide +kernel
theorem dX10_setGloomLimit_5 : decode cX10_setGloomLimit 5 = .ok (.iload_n 1, 1) := by decide +kernel
theorem dX10_setGloomLimit_6 : decode cX10_setGloomLimit 6 = .ok (.iconst 0, 1) := by decide +kernel
theorem dX10_setGloomLimit_7 : decode cX10_setGloomLimit 7 = .ok (.bipush 13, 2) := by decide +kernel
theorem dX10_setGloomLimit_9 : decode cX10_setGloomLimit 9 = .ok (.invokestatic 58, 3) := by decide +kernel
theorem dX10_setGloomLimit_12 : decode cX10_setGloomLimit 12 = .ok (.ifCond .ne 9, 3) := by decide +kernel
theorem dX10_setGloomLimit_15 : decode cX10_setGloomLimit 15 = .ok (.aload_n 0, 1) := by decide +kernel
theorem dX10_setGloomLimit_16 : decode cX10_setGloomLimit 16 = .ok (.iconst 1, 1) := by decide +kernel
theorem dX10_setGloomLimit_17 : decode cX10_setGloomLimit 17 = .ok (.invokevirtual 169, 3) := by decide +kernel
theorem dX10_setGloomLimit_20 : decode cX10_setGloomLimit 20 = .ok (.ireturn, 1) := by decide +kernel
theorem dX10_setGloomLimit_21 : decode cX10_setGloomLimit 21 = .ok (.aload_n 0, 1) := by decide +kernel
theorem dX10_setGloomLimit_22 : decode cX10_setGloomLimit 22 = .ok (.iconst 2, 1) := by decide +kernel
theorem dX10_setGloomLimit_23 : decode cX10_setGloomLimit 23 = .ok (.iload_n 1, 1) := by decide +kernel
theorem dX10_setGloomLimit_24 : decode cX10_setGloomLimit 24 = .ok (.invokevirtual 309, 3) := by decide +kernel
theorem dX10_setGloomLimit_27 : decode cX10_setGloomLimit 27 = .ok (.ireturn, 1) := by decide +kernel
set_option maxRecDepth 20000 in
theorem ggX10_setTideLimit_X10_in : GoodIn wsX10_setTideLimit wsX10_in := goodIn_r _ [5] (by decide +kernel) (by decide +kernel)
set_option maxRecDepth 20000 in
theorem gX10_setTideLimit_X10_in : GoodIn wsX10_setTideLimit (va_wsS RX10 58 yX10_in wsX10_in) := goodIn_app (goodIn_of _ (by decide +kernel)) ggX10_setTideLimit_X10_in
set_option maxRecDepth 20000 in
theorem ggX10_setTideLimit_X10_fails : GoodIn wsX10_setTideLimit wsX10_fails := goodIn_r _ [9, 1, 24, 25, 26, 27, 28, 29, 30, 31, 32, 33, 34, 35, 36, 37, 38, 39, 40, 41, 42] (by decide +kernel) (by decide +kernel)
set_option maxRecDepth 20000 in
theorem gX10_setTideLimit_X10_fails : GoodIn wsX10_setTideLimit (wsV RX10 169 RX10 yX10_fails wsX10_fails) := goodIn_app (goodIn_of _ (by decide +kernel)) ggX10_setTideLimit_X10_fails
set_option maxRecDepth 20000 in
theorem ggX10_setTideLimit_X10_sets : GoodIn wsX10_setTideLimit wsX10_sets := goodIn_r _ [13, 14, 15, 16, 17, 4, 18, 19, 20, 21, 22, 23, 24, 25, 26, 27, 28, 29, 30, 31, 32, 33, 34, 35, 36, 37, 38, 39, 40, 41, 42] (by decide +kernel) (by decide +kernel)
set_option maxRecDepth 20000 in
theorem gX10_setTideLimit_X10_sets : GoodIn wsX10_setTideLimit (wsV RX10 309 RX10 yX10_sets wsX10_sets) := goodIn_app (goodIn_of _ (by decide +kernel)) ggX10_setTideLimit_X10_sets
theorem dX10_setTideLimit_0 : decode cX10_setTideLimit 0 = .ok (.aload_n 0, 1) := by decide +kernel
theorem dX10_setTideLimit_1 : decode cX10_setTideLimit 1 = .ok (.iconst 0, 1) := by decide +kernel
theorem dX10_setTideLimit_2 : decode cX10_setTideLimit 2 = .ok (.putfield 51, 3) := by decide +kernel
theorem dX10_setTideLimit_5 : decode cX10_setTideLimit 5 = .ok (.iload_n 1, 1) := by decide +kernel
theorem dX10_setTideLimit_6 : decode cX10_setTideLimit 6 = .ok (.iconst 0, 1) := by decide +kernel
theorem dX10_setTideLimit_7 : decode cX10_setTideLimit 7 = .ok (.bipush 7, 2) := by decide +kernel
theorem dX10_setTideLimit_9 : decode cX10_setTideLimit 9 = .ok (.invokestatic 58, 3) := by decide +kernel
theorem dX10_setTideLimit_12 : decode cX10_setTideLimit 12 = .ok (.ifCond .ne 9, 3) := by decide +kernel
theorem dX10_setTideLimit_15 : decode cX10_setTideLimit 15 = .ok (.aload_n 0, 1) := by decide +kernel
theorem dX10_setTideLimit_16 : decode cX10_setTideLimit 16 = .ok (.iconst 1, 1) := by decide +kernel
theorem dX10_setTideLimit_17 : decode cX10_setTideLimit 17 = .ok (.invokevirtual 169, 3) := by decide +kernel
theorem dX10_setTideLimit_20 : decode cX10_setTideLimit 20 = .ok (.ireturn, 1) := by decide +kernel
theorem dX10_setTideLimit_21 : decode cX10_setTideLimit 21 = .ok (.aload_n 0, 1) := by decide +kernel
theorem dX10_setTideLimit_22 : decode cX10_setTideLimit 22 = .ok (.iconst 3, 1) := by decide +kernel
theorem dX10_setTideLimit_23 : decode cX10_setTideLimit 23 = .ok (.iload_n 1, 1) := by decide +kernel
theorem dX10_setTideLimit_24 : decode cX10_setTideLimit 24 = .ok (.invokevirtual 309, 3) := by decide +kernel
theorem dX10_setTideLimit_27 : decode cX10_setTideLimit 27 = .ok (.ireturn, 1) := by decide +kernel
set_option maxRecDepth 20000 in
theorem ggX10_endNights_X10_in : GoodIn wsX10_endNights wsX10_in := goodIn_r _ [6] (by decide +kernel) (by decide +kernel)
set_option maxRecDepth 20000 in
theorem gX10_endNights_X10_in : GoodIn wsX10_endNights (va_wsS RX10 58 yX10_in wsX10_in) := goodIn_app (goodIn_of _ (by decide +kernel)) ggX10_endNights_X10_in
set_option maxRecDepth 20000 in
theorem ggX10_endNights_X10_fails : GoodIn wsX10_endNights wsX10_fails := goodIn_r _ [10, 1, 116, 117, 118, 119, 120, 121, 122, 123, 124, 125, 126, 127, 128, 129, 130, 131, 132, 133, 134] (by decide +kernel) (by decide +kernel)
set_option maxRecDepth 20000 in
theorem gX10_endNights_X10_fails : GoodIn wsX10_endNights (wsV RX10 169 RX10 yX10_fails wsX10_fails) := goodIn_app (goodIn_of _ (by decide +kernel)) ggX10_endNights_X10_fails
set_option maxRecDepth 20000 in
theorem ggX10_endNights_X10_keepsForUndo : GoodIn wsX10_endNights wsX10_keepsForUndo := goodIn_r _ [14, 15, 16, 2, 17, 18, 5, 19, 116, 117, 118, 119, 120, 121, 122, 123, 124, 125, 126, 127, 128, 129, 130, 131, 132, 133, 134] (by decide +kernel) (by decide +kernel)
set_option maxRecDepth 20000 in
theorem gX10_endNights_X10_keepsForUndo : GoodIn wsX10_endNights (wsV RX10 306 RX10 yX10_keepsForUndo wsX10_keepsForUndo) := goodIn_app (goodIn_of _ (by decide +kernel)) ggX10_endNights_X10_keepsForUndo
set_option maxRecDepth 20000 in
theorem ggX10_endNights_X10_ends : GoodIn wsX10_endNights wsX10_ends := goodIn_r _ [22, 23, 24, 5, 25, 26, 27, 28, 29, 30, 31, 32, 33, 34, 35, 36, 37, 38, 39, 40, 41, 42, 43, 44, 45, 46, 47, 48, 49, 50, 51, 52, 53, 54, 55, 56, 57, 58, 59, 60, 61, 62, 63, 64, 65, 66, 67, 68, 69, 70, 71, 72, 73, 74, 75, 76, 77, 78, 79, 80, 81, 82, 83, 84, 85, 86, 87, 88, 89, 90, 91, 92, 93, 94, 95, 96, 97, 98, 99, 100, 101, 102, 103, 104, 105, 106, 107, 108, 109, 110, 111, 112, 113, 114, 115] (by decide +kernel) (by decide +kernel)
set_option maxRecDepth 20000 in
theorem gX10_endNights_X10_ends : GoodIn wsX10_endNights (va_wsS RX10 300 yX10_ends wsX10_ends) := goodIn_app (goodIn_of _ (by decide +kernel)) ggX10_endNights_X10_ends
theorem dX10_endNights_0 : decode cX10_endNights 0 = .ok (.aload_n 0, 1) := by decide +kernel
theorem dX10_endNights_1 : decode cX10_endNights 1 = .ok (.iconst 0, 1) := by decide +kernel
theorem dX10_endNights_2 : decode cX10_endNights 2 = .ok (.putfield 51, 3) := by decide +kernel
theorem dX10_endNights_5 : decode cX10_endNights 5 = .ok (.iload_n 1, 1) := by decide +kernel
theorem dX10_endNights_6 : decode cX10_endNights 6 = .ok (.iconst 1, 1) := by decide +kernel
theorem dX10_endNights_7 : decode cX10_endNights 7 = .ok (.bipush 60, 2) := by decide +kernel
theorem dX10_endNights_9 : decode cX10_endNights 9 = .ok (.invokestatic 58, 3) := by decide +kernel
theorem dX10_endNights_12 : decode cX10_endNights 12 = .ok (.ifCond .ne 9, 3) := by decide +kernel
theorem dX10_endNights_15 : decode cX10_endNights 15 = .ok (.aload_n 0, 1) := by decide +kernel
theorem dX10_endNights_16 : decode cX10_endNights 16 = .ok (.iconst 1, 1) := by decide +kernel
theorem dX10_endNights_17 : decode cX10_endNights 17 = .ok (.invokevirtual 169, 3) := by decide +kernel
theorem dX10_endNights_20 : decode cX10_endNights 20 = .ok (.ireturn, 1) := by decide +kernel
theorem dX10_endNights_21 : decode cX10_endNights 21 = .ok (.aload_n 0, 1) := by decide +kernel
theorem dX10_endNights_22 : decode cX10_endNights 22 = .ok (.getfield 7, 3) := by decide +kernel
theorem dX10_endNights_25 : decode cX10_endNights 25 = .ok (.iconst 0, 1) := by decide +kernel
theorem dX10_endNights_26 : decode cX10_endNights 26 = .ok (.iaload, 1) := by decide +kernel
theorem dX10_endNights_27 : decode cX10_endNights 27 = .ok (.iload_n 1, 1) := by decide +kernel
theorem dX10_endNights_28 : decode cX10_endNights 28 = .ok (.iadd, 1) := by decide +kernel
theorem dX10_endNights_29 : decode cX10_endNights 29 = .ok (.sipush 999, 3) := by decide +kernel
theorem dX10_endNights_32 : decode cX10_endNights 32 = .ok (.if_icmp .le 9, 3) := by decide +kernel
theorem dX10_endNights_35 : decode cX10_endNights 35 = .ok (.aload_n 0, 1) := by decide +kernel
theorem dX10_endNights_36 : decode cX10_endNights 36 = .ok (.iconst 2, 1) := by decide +kernel
theorem dX10_endNights_37 : decode cX10_endNights 37 = .ok (.invokevirtual 169, 3) := by decide +kernel
theorem dX10_endNights_40 : decode cX10_endNights 40 = .ok (.ireturn, 1) := by decide +kernel
theorem dX10_endNights_41 : decode cX10_endNights 41 = .ok (.aload_n 0, 1) := by decide +kernel
theorem dX10_endNights_42 : decode cX10_endNights 42 = .ok (.invokevirtual 306, 3) := by decide +kernel
theorem dX10_endNights_45 : decode cX10_endNights 45 = .ok (.iconst 0, 1) := by decide +kernel
theorem dX10_endNights_46 : decode cX10_endNights 46 = .ok (.istore_n 2, 1) := by decide +kernel
theorem dX10_endNights_47 : decode cX10_endNights 47 = .ok (.iconst 0, 1) := by decide +kernel
theorem dX10_endNights_48 : decode cX10_endNights 48 = .ok (.istore_n 3, 1) := by decide +kernel
theorem dX10_endNights_49 : decode cX10_endNights 49 = .ok (.iload_n 3, 1) := by decide +kernel
theorem dX10_endNights_50 : decode cX10_endNights 50 = .ok (.iload_n 1, 1) := by decide +kernel
theorem dX10_endNights_51 : decode cX10_endNights 51 = .ok (.if_icmp .ge 19, 3) := by decide +kernel
theorem dX10_endNights_54 : decode cX10_endNights 54 = .ok (.iload_n 2, 1) := by decide +kernel
theorem dX10_endNights_55 : decode cX10_endNights 55 = .ok (.aload_n 0, 1) := by decide +kernel
theorem dX10_endNights_56 : decode cX10_endNights 56 = .ok (.getfield 7, 3) := by decide +kernel
theorem dX10_endNights_59 : decode cX10_endNights 59 = .ok (.invokestatic 300, 3) := by decide +kernel
theorem dX10_endNights_62 : decode cX10_endNights 62 = .ok (.iadd, 1) := by decide +kernel
theorem dX10_endNights_63 : decode cX10_endNights 63 = .ok (.istore_n 2, 1) := by decide +kernel
theorem dX10_endNights_64 : decode cX10_endNights 64 = .ok (.iinc 3 1, 3) := by decide +kernel
theorem dX10_endNights_67 : decode cX10_endNights 67 = .ok (.goto (-18), 3) := by decide +kernel
theorem dX10_endNights_70 : decode cX10_endNights 70 = .ok (.iload_n 2, 1) := by decide +kernel
theorem dX10_endNights_71 : decode cX10_endNights 71 = .ok (.ireturn, 1) := by decide +kernel
set_option maxRecDepth 20000 in
theorem ggX10_undo_X10_fails : GoodIn wsX10_undo wsX10_fails := goodIn_r _ [9, 1, 13, 14, 15, 16, 17, 18, 19, 20, 21, 22, 23, 24, 25, 26, 27, 28, 29, 30, 31] (by decide +kernel) (by decide +kernel)
set_option maxRecDepth 20000 in
theorem gX10_undo_X10_fails : GoodIn wsX10_undo (wsV RX10 169 RX10 yX10_fails wsX10_fails) := goodIn_app (goodIn_of _ (by decide +kernel)) ggX10_undo_X10_fails
set_option maxRecDepth 20000 in
theorem ggX10_undo_X10_layRow : GoodIn wsX10_undo wsX10_layRow := goodIn_r _ [12] (by decide +kernel) (by decide +kernel)
set_option maxRecDepth 20000 in
theorem gX10_undo_X10_layRow : GoodIn wsX10_undo (va_wsS RX10 54 yX10_layRow wsX10_layRow) := goodIn_app (goodIn_of _ (by decide +kernel)) ggX10_undo_X10_layRow
theorem dX10_undo_0 : decode cX10_undo 0 = .ok (.aload_n 0, 1) := by decide +kernel
theorem dX10_undo_1 : decode cX10_undo 1 = .ok (.iconst 0, 1) := by decide +kernel
theorem dX10_undo_2 : decode cX10_undo 2 = .ok (.putfield 51, 3) := by decide +kernel
theorem dX10_undo_5 : decode cX10_undo 5 = .ok (.aload_n 0, 1) := by decide +kernel
theorem dX10_undo_6 : decode cX10_undo 6 = .ok (.getfield 257, 3) := by decide +kernel
theorem dX10_undo_9 : decode cX10_undo 9 = .ok (.ifCond .ne 9, 3) := by decide +kernel
theorem dX10_undo_12 : decode cX10_undo 12 = .ok (.aload_n 0, 1) := by decide +kernel
theorem dX10_undo_13 : decode cX10_undo 13 = .ok (.iconst 1, 1) := by decide +kernel
theorem dX10_undo_14 : decode cX10_undo 14 = .ok (.invokevirtual 169, 3) := by decide +kernel
theorem dX10_undo_17 : decode cX10_undo 17 = .ok (.ireturn, 1) := by decide +kernel
theorem dX10_undo_18 : decode cX10_undo 18 = .ok (.aload_n 0, 1) := by decide +kernel
theorem dX10_undo_19 : decode cX10_undo 19 = .ok (.dup, 1) := by decide +kernel
theorem dX10_undo_20 : decode cX10_undo 20 = .ok (.getfield 257, 3) := by decide +kernel
theorem dX10_undo_23 : decode cX10_undo 23 = .ok (.iconst 1, 1) := by decide +kernel
theorem dX10_undo_24 : decode cX10_undo 24 = .ok (.isub, 1) := by decide +kernel
theorem dX10_undo_25 : decode cX10_undo 25 = .ok (.putfield 257, 3) := by decide +kernel
theorem dX10_undo_28 : decode cX10_undo 28 = .ok (.aload_n 0, 1) := by decide +kernel
theorem dX10_undo_29 : decode cX10_undo 29 = .ok (.getfield 19, 3) := by decide +kernel
theorem dX10_undo_32 : decode cX10_undo 32 = .ok (.sipush 202, 3) := by decide +kernel
theorem dX10_undo_35 : decode cX10_undo 35 = .ok (.aload_n 0, 1) := by decide +kernel
theorem dX10_undo_36 : decode cX10_undo 36 = .ok (.getfield 257, 3) := by decide +kernel
theorem dX10_undo_39 : decode cX10_undo 39 = .ok (.imul, 1) := by decide +kernel
theorem dX10_undo_40 : decode cX10_undo 40 = .ok (.aload_n 0, 1) := by decide +kernel
theorem dX10_undo_41 : decode cX10_undo 41 = .ok (.getfield 7, 3) := by decide +kernel
theorem dX10_undo_44 : decode cX10_undo 44 = .ok (.iconst 0, 1) := by decide +kernel
theorem dX10_undo_45 : decode cX10_undo 45 = .ok (.invokestatic 54, 3) := by decide +kernel
theorem dX10_undo_48 : decode cX10_undo 48 = .ok (.aload_n 0, 1) := by decide +kernel
theorem dX10_undo_49 : decode cX10_undo 49 = .ok (.getfield 257, 3) := by decide +kernel
theorem dX10_undo_52 : decode cX10_undo 52 = .ok (.ireturn, 1) := by decide +kernel
set_option maxRecDepth 20000 in
theorem ggX10_saveSnapshot_X10_in : GoodIn wsX10_saveSnapshot wsX10_in := goodIn_r _ [8] (by decide +kernel) (by decide +kernel)
set_option maxRecDepth 20000 in
theorem gX10_saveSnapshot_X10_in : GoodIn wsX10_saveSnapshot (va_wsS RX10 58 yX10_in wsX10_in) := goodIn_app (goodIn_of _ (by decide +kernel)) ggX10_saveSnapshot_X10_in
set_option maxRecDepth 20000 in
theorem ggX10_saveSnapshot_X10_fails : GoodIn wsX10_saveSnapshot wsX10_fails := goodIn_r _ [12, 1, 16, 17, 18, 19, 20, 21, 22, 23, 24, 25, 26, 27, 28, 29, 30, 31, 32, 33, 34] (by decide +kernel) (by decide +kernel)
set_option maxRecDepth 20000 in
theorem gX10_saveSnapshot_X10_fails : GoodIn wsX10_saveSnapshot (wsV RX10 169 RX10 yX10_fails wsX10_fails) := goodIn_app (goodIn_of _ (by decide +kernel)) ggX10_saveSnapshot_X10_fails
set_option maxRecDepth 20000 in
theorem ggX10_saveSnapshot_X10_layRow : GoodIn wsX10_saveSnapshot wsX10_layRow := goodIn_r _ [15] (by decide +kernel) (by decide +kernel)
set_option maxRecDepth 20000 in
theorem gX10_saveSnapshot_X10_layRow : GoodIn wsX10_saveSnapshot (va_wsS RX10 54 yX10_layRow wsX10_layRow) := goodIn_app (goodIn_of _ (by decide +kernel)) ggX10_saveSnapshot_X10_layRow
theorem dX10_saveSnapshot_0 : decode cX10_saveSnapshot 0 = .ok (.aload_n 0, 1) := by decide +kernel
theorem dX10_saveSnapshot_1 : decode cX10_saveSnapshot 1 = .ok (.iconst 0, 1) := by decide +kernel
theorem dX10_saveSnapshot_2 : decode cX10_saveSnapshot 2 = .ok (.putfield 51, 3) := by decide +kernel
theorem dX10_saveSnapshot_5 : decode cX10_saveSnapshot 5 = .ok (.iload_n 1, 1) := by decide +kernel
theorem dX10_saveSnapshot_6 : decode cX10_saveSnapshot 6 = .ok (.iconst 0, 1) := by decide +kernel
theorem dX10_saveSnapshot_7 : decode cX10_saveSnapshot 7 = .ok (.iconst 1, 1) := by decide +kernel
theorem dX10_saveSnapshot_8 : decode cX10_saveSnapshot 8 = .ok (.invokestatic 58, 3) := by decide +kernel
theorem dX10_saveSnapshot_11 : decode cX10_saveSnapshot 11 = .ok (.ifCond .ne 9, 3) := by decide +kernel
theorem dX10_saveSnapshot_14 : decode cX10_saveSnapshot 14 = .ok (.aload_n 0, 1) := by decide +kernel
theorem dX10_saveSnapshot_15 : decode cX10_saveSnapshot 15 = .ok (.iconst 1, 1) := by decide +kernel
theorem dX10_saveSnapshot_16 : decode cX10_saveSnapshot 16 = .ok (.invokevirtual 169, 3) := by decide +kernel
theorem dX10_saveSnapshot_19 : decode cX10_saveSnapshot 19 = .ok (.ireturn, 1) := by decide +kernel
theorem dX10_saveSnapshot_20 : decode cX10_saveSnapshot 20 = .ok (.aload_n 0, 1) := by decide +kernel
theorem dX10_saveSnapshot_21 : decode cX10_saveSnapshot 21 = .ok (.getfield 7, 3) := by decide +kernel
theorem dX10_saveSnapshot_24 : decode cX10_saveSnapshot 24 = .ok (.iconst 0, 1) := by decide +kernel
theorem dX10_saveSnapshot_25 : decode cX10_saveSnapshot 25 = .ok (.aload_n 0, 1) := by decide +kernel
theorem dX10_saveSnapshot_26 : decode cX10_saveSnapshot 26 = .ok (.getfield 22, 3) := by decide +kernel
theorem dX10_saveSnapshot_29 : decode cX10_saveSnapshot 29 = .ok (.sipush 202, 3) := by decide +kernel
theorem dX10_saveSnapshot_32 : decode cX10_saveSnapshot 32 = .ok (.iload_n 1, 1) := by decide +kernel
theorem dX10_saveSnapshot_33 : decode cX10_saveSnapshot 33 = .ok (.imul, 1) := by decide +kernel
theorem dX10_saveSnapshot_34 : decode cX10_saveSnapshot 34 = .ok (.invokestatic 54, 3) := by decide +kernel
theorem dX10_saveSnapshot_37 : decode cX10_saveSnapshot 37 = .ok (.aload_n 0, 1) := by decide +kernel
theorem dX10_saveSnapshot_38 : decode cX10_saveSnapshot 38 = .ok (.getfield 25, 3) := by decide +kernel
theorem dX10_saveSnapshot_41 : decode cX10_saveSnapshot 41 = .ok (.iload_n 1, 1) := by decide +kernel
theorem dX10_saveSnapshot_42 : decode cX10_saveSnapshot 42 = .ok (.iconst 1, 1) := by decide +kernel
theorem dX10_saveSnapshot_43 : decode cX10_saveSnapshot 43 = .ok (.bastore, 1) := by decide +kernel
theorem dX10_saveSnapshot_44 : decode cX10_saveSnapshot 44 = .ok (.aload_n 0, 1) := by decide +kernel
theorem dX10_saveSnapshot_45 : decode cX10_saveSnapshot 45 = .ok (.getfield 7, 3) := by decide +kernel
theorem dX10_saveSnapshot_48 : decode cX10_saveSnapshot 48 = .ok (.iconst 0, 1) := by decide +kernel
theorem dX10_saveSnapshot_49 : decode cX10_saveSnapshot 49 = .ok (.iaload, 1) := by decide +kernel
theorem dX10_saveSnapshot_50 : decode cX10_saveSnapshot 50 = .ok (.ireturn, 1) := by decide +kernel
set_option maxRecDepth 20000 in
theorem ggX10_restoreSnapshot_X10_in : GoodIn wsX10_restoreSnapshot wsX10_in := goodIn_r _ [8] (by decide +kernel) (by decide +kernel)
set_option maxRecDepth 20000 in
theorem gX10_restoreSnapshot_X10_in : GoodIn wsX10_restoreSnapshot (va_wsS RX10 58 yX10_in wsX10_in) := goodIn_app (goodIn_of _ (by decide +kernel)) ggX10_restoreSnapshot_X10_in
set_option maxRecDepth 20000 in
theorem ggX10_restoreSnapshot_X10_fails : GoodIn wsX10_restoreSnapshot wsX10_fails := goodIn_r _ [12, 1, 22, 23, 24, 25, 26, 27, 28, 29, 30, 31, 32, 33, 34, 35, 36, 37, 38, 39, 40] (by decide +kernel) (by decide +kernel)
set_option maxRecDepth 20000 in
theorem gX10_restoreSnapshot_X10_fails : GoodIn wsX10_restoreSnapshot (wsV RX10 169 RX10 yX10_fails wsX10_fails) := goodIn_app (goodIn_of _ (by decide +kernel)) ggX10_restoreSnapshot_X10_fails
set_option maxRecDepth 20000 in
theorem ggX10_restoreSnapshot_X10_keepsForUndo : GoodIn wsX10_restoreSnapshot wsX10_keepsForUndo := goodIn_r _ [16, 17, 18, 4, 19, 20, 7, 21, 22, 23, 24, 25, 26, 27, 28, 29, 30, 31, 32, 33, 34, 35, 36, 37, 38, 39, 40] (by decide +kernel) (by decide +kernel)
set_option maxRecDepth 20000 in
theorem gX10_restoreSnapshot_X10_keepsForUndo : GoodIn wsX10_restoreSnapshot (wsV RX10 306 RX10 yX10_keepsForUndo wsX10_keepsForUndo) := goodIn_app (goodIn_of _ (by decide +kernel)) ggX10_restoreSnapshot_X10_keepsForUndo
set_option maxRecDepth 20000 in
theorem ggX10_restoreSnapshot_X10_layRow : GoodIn wsX10_restoreSnapshot wsX10_layRow := goodIn_r _ [21] (by decide +kernel) (by decide +kernel)
set_option maxRecDepth 20000 in
theorem gX10_restoreSnapshot_X10_layRow : GoodIn wsX10_restoreSnapshot (va_wsS RX10 54 yX10_layRow wsX10_layRow) := goodIn_app (goodIn_of _ (by decide +kernel)) ggX10_restoreSnapshot_X10_layRow
theorem dX10_restoreSnapshot_0 : decode cX10_restoreSnapshot 0 = .ok (.aload_n 0, 1) := by decide +kernel
theorem dX10_restoreSnapshot_1 : decode cX10_restoreSnapshot 1 = .ok (.iconst 0, 1) := by decide +kernel
theorem dX10_restoreSnapshot_2 : decode cX10_restoreSnapshot 2 = .ok (.putfield 51, 3) := by decide +kernel
theorem dX10_restoreSnapshot_5 : decode cX10_restoreSnapshot 5 = .ok (.iload_n 1, 1) := by decide +kernel
theorem dX10_restoreSnapshot_6 : decode cX10_restoreSnapshot 6 = .ok (.iconst 0, 1) := by decide +kernel
theorem dX10_restoreSnapshot_7 : decode cX10_restoreSnapshot 7 = .ok (.iconst 1, 1) := by decide +kernel
theorem dX10_restoreSnapshot_8 : decode cX10_restoreSnapshot 8 = .ok (.invokestatic 58, 3) := by decide +kernel
theorem dX10_restoreSnapshot_11 : decode cX10_restoreSnapshot 11 = .ok (.ifCond .ne 9, 3) := by decide +kernel
theorem dX10_restoreSnapshot_14 : decode cX10_restoreSnapshot 14 = .ok (.aload_n 0, 1) := by decide +kernel
theorem dX10_restoreSnapshot_15 : decode cX10_restoreSnapshot 15 = .ok (.iconst 1, 1) := by decide +kernel
theorem dX10_restoreSnapshot_16 : decode cX10_restoreSnapshot 16 = .ok (.invokevirtual 169, 3) := by decide +kernel
theorem dX10_restoreSnapshot_19 : decode cX10_restoreSnapshot 19 = .ok (.ireturn, 1) := by decide +kernel
theorem dX10_restoreSnapshot_20 : decode cX10_restoreSnapshot 20 = .ok (.aload_n 0, 1) := by decide +kernel
theorem dX10_restoreSnapshot_21 : decode cX10_restoreSnapshot 21 = .ok (.getfield 25, 3) := by decide +kernel
theorem dX10_restoreSnapshot_24 : decode cX10_restoreSnapshot 24 = .ok (.iload_n 1, 1) := by decide +kernel
theorem dX10_restoreSnapshot_25 : decode cX10_restoreSnapshot 25 = .ok (.baload, 1) := by decide +kernel
theorem dX10_restoreSnapshot_26 : decode cX10_restoreSnapshot 26 = .ok (.ifCond .ne 9, 3) := by decide +kernel
theorem dX10_restoreSnapshot_29 : decode cX10_restoreSnapshot 29 = .ok (.aload_n 0, 1) := by decide +kernel
theorem dX10_restoreSnapshot_30 : decode cX10_restoreSnapshot 30 = .ok (.iconst 2, 1) := by decide +kernel
theorem dX10_restoreSnapshot_31 : decode cX10_restoreSnapshot 31 = .ok (.invokevirtual 169, 3) := by decide +kernel
theorem dX10_restoreSnapshot_34 : decode cX10_restoreSnapshot 34 = .ok (.ireturn, 1) := by decide +kernel
theorem dX10_restoreSnapshot_35 : decode cX10_restoreSnapshot 35 = .ok (.aload_n 0, 1) := by decide +kernel
theorem dX10_restoreSnapshot_36 : decode cX10_restoreSnapshot 36 = .ok (.invokevirtual 306, 3) := by decide +kernel
theorem dX10_restoreSnapshot_39 : decode cX10_restoreSnapshot 39 = .ok (.aload_n 0, 1) := by decide +kernel
theorem dX10_restoreSnapshot_40 : decode cX10_restoreSnapshot 40 = .ok (.getfield 22, 3) := by decide +kernel
theorem dX10_restoreSnapshot_43 : decode cX10_restoreSnapshot 43 = .ok (.sipush 202, 3) := by decide +kernel
theorem dX10_restoreSnapshot_46 : decode cX10_restoreSnapshot 46 = .ok (.iload_n 1, 1) := by decide +kernel
theorem dX10_restoreSnapshot_47 : decode cX10_restoreSnapshot 47 = .ok (.imul, 1) := by decide +kernel
theorem dX10_restoreSnapshot_48 : decode cX10_restoreSnapshot 48 = .ok (.aload_n 0, 1) := by decide +kernel
theorem dX10_restoreSnapshot_49 : decode cX10_restoreSnapshot 49 = .ok (.getfield 7, 3) := by decide +kernel
theorem dX10_restoreSnapshot_52 : decode cX10_restoreSnapshot 52 = .ok (.iconst 0, 1) := by decide +kernel
theorem dX10_restoreSnapshot_53 : decode cX10_restoreSnapshot 53 = .ok (.invokestatic 54, 3) := by decide +kernel
theorem dX10_restoreSnapshot_56 : decode cX10_restoreSnapshot 56 = .ok (.aload_n 0, 1) := by decide +kernel
theorem dX10_restoreSnapshot_57 : decode cX10_restoreSnapshot 57 = .ok (.getfield 7, 3) := by decide +kernel
theorem dX10_restoreSnapshot_60 : decode cX10_restoreSnapshot 60 = .ok (.iconst 0, 1) := by decide +kernel
theorem dX10_restoreSnapshot_61 : decode cX10_restoreSnapshot 61 = .ok (.iaload, 1) := by decide +kernel
theorem dX10_restoreSnapshot_62 : decode cX10_restoreSnapshot 62 = .ok (.ireturn, 1) := by decide +kernel
theorem dX10_writes_0 : decode cX10_writes 0 = .ok (.aload_n 0, 1) := by decide +kernel
theorem dX10_writes_1 : decode cX10_writes 1 = .ok (.getfield 36, 3) := by decide +kernel
theorem dX10_writes_4 : decode cX10_writes 4 = .ok (.aload_n 0, 1) := by decide +kernel
theorem dX10_writes_5 : decode cX10_writes 5 = .ok (.getfield 312, 3) := by decide +kernel
theorem dX10_writes_8 : decode cX10_writes 8 = .ok (.iload_n 1, 1) := by decide +kernel
theorem dX10_writes_9 : decode cX10_writes 9 = .ok (.iastore, 1) := by decide +kernel
theorem dX10_writes_10 : decode cX10_writes 10 = .ok (.aload_n 0, 1) := by decide +kernel
theorem dX10_writes_11 : decode cX10_writes 11 = .ok (.dup, 1) := by decide +kernel
theorem dX10_writes_12 : decode cX10_writes 12 = .ok (.getfield 312, 3) := by decide +kernel
theorem dX10_writes_15 : decode cX10_writes 15 = .ok (.iconst 1, 1) := by decide +kernel
theorem dX10_writes_16 : decode cX10_writes 16 = .ok (.iadd, 1) := by decide +kernel
theorem dX10_writes_17 : decode cX10_writes 17 = .ok (.putfield 312, 3) := by decide +kernel
theorem dX10_writes_20 : decode cX10_writes 20 = .ok (.return_, 1) := by decide +kernel
theorem dX10_signOf_0 : decode cX10_signOf 0 = .ok (.iload_n 0, 1) := by decide +kernel
theorem dX10_signOf_1 : decode cX10_signOf 1 = .ok (.tableswitch 36 0 2 #[27, 30, 33], 27) := by decide +kernel
theorem dX10_signOf_28 : decode cX10_signOf 28 = .ok (.bipush 119, 2) := by decide +kernel
theorem dX10_signOf_30 : decode cX10_signOf 30 = .ok (.ireturn, 1) := by decide +kernel
theorem dX10_signOf_31 : decode cX10_signOf 31 = .ok (.bipush 97, 2) := by decide +kernel
theorem dX10_signOf_33 : decode cX10_signOf 33 = .ok (.ireturn, 1) := by decide +kernel
theorem dX10_signOf_34 : decode cX10_signOf 34 = .ok (.bipush 100, 2) := by decide +kernel
theorem dX10_signOf_36 : decode cX10_signOf 36 = .ok (.ireturn, 1) := by decide +kernel
theorem dX10_signOf_37 : decode cX10_signOf 37 = .ok (.bipush 103, 2) := by decide +kernel
theorem dX10_signOf_39 : decode cX10_signOf 39 = .ok (.ireturn, 1) := by decide +kernel
set_option maxRecDepth 20000 in
theorem ggX10_writesComplaint_X10_writes : GoodIn wsX10_writesComplaint wsX10_writes := goodIn_r _ [6, 7, 8, 15, 16, 17, 18, 19, 20, 21, 22, 23, 24, 25, 26, 27, 28, 29, 30, 31, 32, 33] (by decide +kernel) (by decide +kernel)
set_option maxRecDepth 20000 in
theorem gX10_writesComplaint_X10_writes : GoodIn wsX10_writesComplaint (wsV RX10 315 RX10 yX10_writes wsX10_writes) := goodIn_app (goodIn_of _ (by decide +kernel)) ggX10_writesComplaint_X10_writes
set_option maxRecDepth 20000 in
theorem ggX10_writesComplaint_X10_complaintAt : GoodIn wsX10_writesComplaint wsX10_complaintAt := goodIn_r _ [11] (by decide +kernel) (by decide +kernel)
set_option maxRecDepth 20000 in
theorem gX10_writesComplaint_X10_complaintAt : GoodIn wsX10_writesComplaint (va_wsS RX10 90 yX10_complaintAt wsX10_complaintAt) := goodIn_app (goodIn_of _ (by decide +kernel)) ggX10_writesComplaint_X10_complaintAt
set_option maxRecDepth 20000 in
theorem ggX10_writesComplaint_X10_signOf : GoodIn wsX10_writesComplaint wsX10_signOf := goodIn_r _ [14] (by decide +kernel) (by decide +kernel)
set_option maxRecDepth 20000 in
theorem gX10_writesComplaint_X10_signOf : GoodIn wsX10_writesComplaint (va_wsS RX10 319 yX10_signOf wsX10_signOf) := goodIn_app (goodIn_of _ (by decide +kernel)) ggX10_writesComplaint_X10_signOf
theorem dX10_writesComplaint_0 : decode cX10_writesComplaint 0 = .ok (.iload_n 1, 1) := by decide +kernel
theorem dX10_writesComplaint_1 : decode cX10_writesComplaint 1 = .ok (.bipush 9, 2) := by decide +kernel
theorem dX10_writesComplaint_3 : decode cX10_writesComplaint 3 = .ok (.if_icmp .le 14, 3) := by decide +kernel
theorem dX10_writesComplaint_6 : decode cX10_writesComplaint 6 = .ok (.aload_n 0, 1) := by decide +kernel
theorem dX10_writesComplaint_7 : decode cX10_writesComplaint 7 = .ok (.bipush 48, 2) := by decide +kernel
theorem dX10_writesComplaint_9 : decode cX10_writesComplaint 9 = .ok (.iload_n 1, 1) := by decide +kernel
theorem dX10_writesComplaint_10 : decode cX10_writesComplaint 10 = .ok (.bipush 10, 2) := by decide +kernel
theorem dX10_writesComplaint_12 : decode cX10_writesComplaint 12 = .ok (.idiv, 1) := by decide +kernel
theorem dX10_writesComplaint_13 : decode cX10_writesComplaint 13 = .ok (.iadd, 1) := by decide +kernel
theorem dX10_writesComplaint_14 : decode cX10_writesComplaint 14 = .ok (.invokevirtual 315, 3) := by decide +kernel
theorem dX10_writesComplaint_17 : decode cX10_writesComplaint 17 = .ok (.aload_n 0, 1) := by decide +kernel
theorem dX10_writesComplaint_18 : decode cX10_writesComplaint 18 = .ok (.bipush 48, 2) := by decide +kernel
theorem dX10_writesComplaint_20 : decode cX10_writesComplaint 20 = .ok (.iload_n 1, 1) := by decide +kernel
theorem dX10_writesComplaint_21 : decode cX10_writesComplaint 21 = .ok (.bipush 10, 2) := by decide +kernel
theorem dX10_writesComplaint_23 : decode cX10_writesComplaint 23 = .ok (.irem, 1) := by decide +kernel
theorem dX10_writesComplaint_24 : decode cX10_writesComplaint 24 = .ok (.iadd, 1) := by decide +kernel
theorem dX10_writesComplaint_25 : decode cX10_writesComplaint 25 = .ok (.invokevirtual 315, 3) := by decide +kernel
theorem dX10_writesComplaint_28 : decode cX10_writesComplaint 28 = .ok (.aload_n 0, 1) := by decide +kernel
theorem dX10_writesComplaint_29 : decode cX10_writesComplaint 29 = .ok (.bipush 58, 2) := by decide +kernel
theorem dX10_writesComplaint_31 : decode cX10_writesComplaint 31 = .ok (.invokevirtual 315, 3) := by decide +kernel
theorem dX10_writesComplaint_34 : decode cX10_writesComplaint 34 = .ok (.aload_n 0, 1) := by decide +kernel
theorem dX10_writesComplaint_35 : decode cX10_writesComplaint 35 = .ok (.aload_n 0, 1) := by decide +kernel
theorem dX10_writesComplaint_36 : decode cX10_writesComplaint 36 = .ok (.getfield 7, 3) := by decide +kernel
theorem dX10_writesComplaint_39 : decode cX10_writesComplaint 39 = .ok (.iload_n 1, 1) := by decide +kernel
theorem dX10_writesComplaint_40 : decode cX10_writesComplaint 40 = .ok (.iconst 4, 1) := by decide +kernel
theorem dX10_writesComplaint_41 : decode cX10_writesComplaint 41 = .ok (.invokestatic 90, 3) := by decide +kernel
theorem dX10_writesComplaint_44 : decode cX10_writesComplaint 44 = .ok (.iaload, 1) := by decide +kernel
theorem dX10_writesComplaint_45 : decode cX10_writesComplaint 45 = .ok (.invokestatic 319, 3) := by decide +kernel
theorem dX10_writesComplaint_48 : decode cX10_writesComplaint 48 = .ok (.invokevirtual 315, 3) := by decide +kernel
theorem dX10_writesComplaint_51 : decode cX10_writesComplaint 51 = .ok (.aload_n 0, 1) := by decide +kernel
theorem dX10_writesComplaint_52 : decode cX10_writesComplaint 52 = .ok (.bipush 10, 2) := by decide +kernel
theorem dX10_writesComplaint_54 : decode cX10_writesComplaint 54 = .ok (.invokevirtual 315, 3) := by decide +kernel
theorem dX10_writesComplaint_57 : decode cX10_writesComplaint 57 = .ok (.return_, 1) := by decide +kernel
set_option maxRecDepth 20000 in
theorem ggX10_writeComplaints_X10_isPerson : GoodIn wsX10_writeComplaints wsX10_isPerson := goodIn_r _ [7, 8, 9, 6, 10] (by decide +kernel) (by decide +kernel)
set_option maxRecDepth 20000 in
theorem gX10_writeComplaints_X10_isPerson : GoodIn wsX10_writeComplaints (va_wsS RX10 282 yX10_isPerson wsX10_isPerson) := goodIn_app (goodIn_of _ (by decide +kernel)) ggX10_writeComplaints_X10_isPerson
set_option maxRecDepth 20000 in
theorem ggX10_writeComplaints_X10_fails : GoodIn wsX10_writeComplaints wsX10_fails := goodIn_r _ [14, 1, 33, 34, 35, 36, 37, 38, 39, 40, 41, 42, 43, 44, 45, 46, 47, 48, 49, 50, 51] (by decide +kernel) (by decide +kernel)
set_option maxRecDepth 20000 in
theorem gX10_writeComplaints_X10_fails : GoodIn wsX10_writeComplaints (wsV RX10 169 RX10 yX10_fails wsX10_fails) := goodIn_app (goodIn_of _ (by decide +kernel)) ggX10_writeComplaints_X10_fails
set_option maxRecDepth 20000 in
theorem ggX10_writeComplaints_X10_personIn : GoodIn wsX10_writeComplaints wsX10_personIn := goodIn_r _ [17, 18, 19, 6, 20] (by decide +kernel) (by decide +kernel)
set_option maxRecDepth 20000 in
theorem gX10_writeComplaints_X10_personIn : GoodIn wsX10_writeComplaints (va_wsS RX10 112 yX10_personIn wsX10_personIn) := goodIn_app (goodIn_of _ (by decide +kernel)) ggX10_writeComplaints_X10_personIn
set_option maxRecDepth 20000 in
theorem ggX10_writeComplaints_X10_writesComplaint : GoodIn wsX10_writeComplaints wsX10_writesComplaint := goodIn_r _ [24, 3, 25, 26, 27, 6, 28, 29, 2, 18, 19, 20, 30, 31, 32, 33, 34, 35, 36, 37, 38, 39, 40, 41, 42, 43, 44, 45, 46, 47, 48, 49, 50, 51] (by decide +kernel) (by decide +kernel)
set_option maxRecDepth 20000 in
theorem gX10_writeComplaints_X10_writesComplaint : GoodIn wsX10_writeComplaints (wsV RX10 322 RX10 yX10_writesComplaint wsX10_writesComplaint) := goodIn_app (goodIn_of _ (by decide +kernel)) ggX10_writeComplaints_X10_writesComplaint
theorem dX10_writeComplaints_0 : decode cX10_writeComplaints 0 = .ok (.aload_n 0, 1) := by decide +kernel
theorem dX10_writeComplaints_1 : decode cX10_writeComplaints 1 = .ok (.iconst 0, 1) := by decide +kernel
theorem dX10_writeComplaints_2 : decode cX10_writeComplaints 2 = .ok (.putfield 51, 3) := by decide +kernel
theorem dX10_writeComplaints_5 : decode cX10_writeComplaints 5 = .ok (.iload_n 1, 1) := by decide +kernel
theorem dX10_writeComplaints_6 : decode cX10_writeComplaints 6 = .ok (.invokestatic 282, 3) := by decide +kernel
theorem dX10_writeComplaints_9 : decode cX10_writeComplaints 9 = .ok (.ifCond .ne 9, 3) := by decide +kernel
theorem dX10_writeComplaints_12 : decode cX10_writeComplaints 12 = .ok (.aload_n 0, 1) := by decide +kernel
theorem dX10_writeComplaints_13 : decode cX10_writeComplaints 13 = .ok (.iconst 1, 1) := by decide +kernel
theorem dX10_writeComplaints_14 : decode cX10_writeComplaints 14 = .ok (.invokevirtual 169, 3) := by decide +kernel
theorem dX10_writeComplaints_17 : decode cX10_writeComplaints 17 = .ok (.ireturn, 1) := by decide +kernel
theorem dX10_writeComplaints_18 : decode cX10_writeComplaints 18 = .ok (.aload_n 0, 1) := by decide +kernel
theorem dX10_writeComplaints_19 : decode cX10_writeComplaints 19 = .ok (.iconst 0, 1) := by decide +kernel
theorem dX10_writeComplaints_20 : decode cX10_writeComplaints 20 = .ok (.putfield 312, 3) := by decide +kernel
theorem dX10_writeComplaints_23 : decode cX10_writeComplaints 23 = .ok (.iconst 0, 1) := by decide +kernel
theorem dX10_writeComplaints_24 : decode cX10_writeComplaints 24 = .ok (.istore_n 2, 1) := by decide +kernel
theorem dX10_writeComplaints_25 : decode cX10_writeComplaints 25 = .ok (.iload_n 2, 1) := by decide +kernel
theorem dX10_writeComplaints_26 : decode cX10_writeComplaints 26 = .ok (.aload_n 0, 1) := by decide +kernel
theorem dX10_writeComplaints_27 : decode cX10_writeComplaints 27 = .ok (.getfield 7, 3) := by decide +kernel
theorem dX10_writeComplaints_30 : decode cX10_writeComplaints 30 = .ok (.bipush 6, 2) := by decide +kernel
theorem dX10_writeComplaints_32 : decode cX10_writeComplaints 32 = .ok (.iaload, 1) := by decide +kernel
theorem dX10_writeComplaints_33 : decode cX10_writeComplaints 33 = .ok (.if_icmp .ge 26, 3) := by decide +kernel
theorem dX10_writeComplaints_36 : decode cX10_writeComplaints 36 = .ok (.aload_n 0, 1) := by decide +kernel
theorem dX10_writeComplaints_37 : decode cX10_writeComplaints 37 = .ok (.getfield 7, 3) := by decide +kernel
theorem dX10_writeComplaints_40 : decode cX10_writeComplaints 40 = .ok (.iload_n 2, 1) := by decide +kernel
theorem dX10_writeComplaints_41 : decode cX10_writeComplaints 41 = .ok (.invokestatic 112, 3) := by decide +kernel
theorem dX10_writeComplaints_44 : decode cX10_writeComplaints 44 = .ok (.iload_n 1, 1) := by decide +kernel
theorem dX10_writeComplaints_45 : decode cX10_writeComplaints 45 = .ok (.if_icmp .ne 8, 3) := by decide +kernel
theorem dX10_writeComplaints_48 : decode cX10_writeComplaints 48 = .ok (.aload_n 0, 1) := by decide +kernel
theorem dX10_writeComplaints_49 : decode cX10_writeComplaints 49 = .ok (.iload_n 2, 1) := by decide +kernel
theorem dX10_writeComplaints_50 : decode cX10_writeComplaints 50 = .ok (.invokevirtual 322, 3) := by decide +kernel
theorem dX10_writeComplaints_53 : decode cX10_writeComplaints 53 = .ok (.iinc 2 1, 3) := by decide +kernel
theorem dX10_writeComplaints_56 : decode cX10_writeComplaints 56 = .ok (.goto (-31), 3) := by decide +kernel
theorem dX10_writeComplaints_59 : decode cX10_writeComplaints 59 = .ok (.aload_n 0, 1) := by decide +kernel
theorem dX10_writeComplaints_60 : decode cX10_writeComplaints 60 = .ok (.getfield 312, 3) := by decide +kernel
theorem dX10_writeComplaints_63 : decode cX10_writeComplaints 63 = .ok (.ireturn, 1) := by decide +kernel
set_option maxRecDepth 20000 in
theorem ggX10_writtenByte_X10_in : GoodIn wsX10_writtenByte wsX10_in := goodIn_r _ [7] (by decide +kernel) (by decide +kernel)
set_option maxRecDepth 20000 in
theorem gX10_writtenByte_X10_in : GoodIn wsX10_writtenByte (va_wsS RX10 58 yX10_in wsX10_in) := goodIn_app (goodIn_of _ (by decide +kernel)) ggX10_writtenByte_X10_in
set_option maxRecDepth 20000 in
theorem ggX10_writtenByte_X10_fails : GoodIn wsX10_writtenByte wsX10_fails := goodIn_r _ [11, 1, 12, 13, 14, 15, 16, 17, 18, 19, 20, 21, 22, 23, 24, 25, 26, 27, 28, 29, 30] (by decide +kernel) (by decide +kernel)
set_option maxRecDepth 20000 in
theorem gX10_writtenByte_X10_fails : GoodIn wsX10_writtenByte (wsV RX10 169 RX10 yX10_fails wsX10_fails) := goodIn_app (goodIn_of _ (by decide +kernel)) ggX10_writtenByte_X10_fails
theorem dX10_writtenByte_0 : decode cX10_writtenByte 0 = .ok (.aload_n 0, 1) := by decide +kernel
theorem dX10_writtenByte_1 : decode cX10_writtenByte 1 = .ok (.iconst 0, 1) := by decide +kernel
theorem dX10_writtenByte_2 : decode cX10_writtenByte 2 = .ok (.putfield 51, 3) := by decide +kernel
theorem dX10_writtenByte_5 : decode cX10_writtenByte 5 = .ok (.iload_n 1, 1) := by decide +kernel
theorem dX10_writtenByte_6 : decode cX10_writtenByte 6 = .ok (.iconst 0, 1) := by decide +kernel
theorem dX10_writtenByte_7 : decode cX10_writtenByte 7 = .ok (.aload_n 0, 1) := by decide +kernel
theorem dX10_writtenByte_8 : decode cX10_writtenByte 8 = .ok (.getfield 312, 3) := by decide +kernel
theorem dX10_writtenByte_11 : decode cX10_writtenByte 11 = .ok (.iconst 1, 1) := by decide +kernel
theorem dX10_writtenByte_12 : decode cX10_writtenByte 12 = .ok (.isub, 1) := by decide +kernel
theorem dX10_writtenByte_13 : decode cX10_writtenByte 13 = .ok (.invokestatic 58, 3) := by decide +kernel
theorem dX10_writtenByte_16 : decode cX10_writtenByte 16 = .ok (.ifCond .eq 10, 3) := by decide +kernel
theorem dX10_writtenByte_19 : decode cX10_writtenByte 19 = .ok (.aload_n 0, 1) := by decide +kernel
theorem dX10_writtenByte_20 : decode cX10_writtenByte 20 = .ok (.getfield 36, 3) := by decide +kernel
theorem dX10_writtenByte_23 : decode cX10_writtenByte 23 = .ok (.iload_n 1, 1) := by decide +kernel
theorem dX10_writtenByte_24 : decode cX10_writtenByte 24 = .ok (.iaload, 1) := by decide +kernel
theorem dX10_writtenByte_25 : decode cX10_writtenByte 25 = .ok (.ireturn, 1) := by decide +kernel
theorem dX10_writtenByte_26 : decode cX10_writtenByte 26 = .ok (.aload_n 0, 1) := by decide +kernel
theorem dX10_writtenByte_27 : decode cX10_writtenByte 27 = .ok (.iconst 1, 1) := by decide +kernel
theorem dX10_writtenByte_28 : decode cX10_writtenByte 28 = .ok (.invokevirtual 169, 3) := by decide +kernel
theorem dX10_writtenByte_31 : decode cX10_writtenByte 31 = .ok (.ireturn, 1) := by decide +kernel
