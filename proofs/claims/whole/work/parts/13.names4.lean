set_option maxRecDepth 20000 in
theorem ggX7_holds_X7_holdPair : GoodIn wsX7_holds wsX7_holdPair := goodIn_r _ [11, 3, 2, 22, 23, 24, 25, 26, 27, 28, 29, 30, 31, 32, 33, 34, 35, 36, 37, 38, 39, 40, 41, 42, 43, 44, 45, 46, 47, 48, 49, 50, 51, 52, 53, 54, 55, 56] (by decide +kernel) (by decide +kernel)
set_option maxRecDepth 20000 in
theorem gX7_holds_X7_holdPair : GoodIn wsX7_holds (wsV RX7 168 RX7 yX7_holdPair wsX7_holdPair) := goodIn_app (goodIn_of _ (by decide +kernel)) ggX7_holds_X7_holdPair
set_option maxRecDepth 20000 in
theorem ggX7_holds_X7_binds : GoodIn wsX7_holds wsX7_binds := goodIn_r _ [15, 16, 17, 18, 19, 10, 20, 21, 22, 23, 24, 25, 26, 27, 28, 29, 30, 31, 32, 33, 34, 35, 36, 37, 38, 39, 40, 41, 42, 43, 44, 45, 46, 47, 48, 49, 50, 51, 52, 53, 54, 55, 56] (by decide +kernel) (by decide +kernel)
set_option maxRecDepth 20000 in
theorem gX7_holds_X7_binds : GoodIn wsX7_holds (wsV RX7 172 RX7 yX7_binds wsX7_binds) := goodIn_app (goodIn_of _ (by decide +kernel)) ggX7_holds_X7_binds
set_option maxRecDepth 20000 in
theorem ggX7_holds_X7_fails : GoodIn wsX7_holds wsX7_fails := goodIn_r _ [20, 21, 22, 23, 24, 25, 26, 27, 28, 29, 30, 31, 32, 33, 34, 35, 36, 37, 38, 39, 40, 41, 42, 43, 44, 45, 46, 47, 48, 49, 50, 51, 52, 53, 54, 55, 56] (by decide +kernel) (by decide +kernel)
set_option maxRecDepth 20000 in
theorem gX7_holds_X7_fails : GoodIn wsX7_holds (wsV RX7 162 RX7 yX7_fails wsX7_fails) := goodIn_app (goodIn_of _ (by decide +kernel)) ggX7_holds_X7_fails
theorem dX7_holds_0 : decode cX7_holds 0 = .ok (.iconst 0, 1) := by decide +kernel
theorem dX7_holds_1 : decode cX7_holds 1 = .ok (.istore_n 3, 1) := by decide +kernel
theorem dX7_holds_2 : decode cX7_holds 2 = .ok (.iload_n 3, 1) := by decide +kernel
theorem dX7_holds_3 : decode cX7_holds 3 = .ok (.sipush 6400, 3) := by decide +kernel
theorem dX7_holds_6 : decode cX7_holds 6 = .ok (.if_icmp .ge 16, 3) := by decide +kernel
theorem dX7_holds_9 : decode cX7_holds 9 = .ok (.aload_n 0, 1) := by decide +kernel
theorem dX7_holds_10 : decode cX7_holds 10 = .ok (.getfield 65, 3) := by decide +kernel
theorem dX7_holds_13 : decode cX7_holds 13 = .ok (.iload_n 3, 1) := by decide +kernel
theorem dX7_holds_14 : decode cX7_holds 14 = .ok (.iconst 0, 1) := by decide +kernel
theorem dX7_holds_15 : decode cX7_holds 15 = .ok (.bastore, 1) := by decide +kernel
theorem dX7_holds_16 : decode cX7_holds 16 = .ok (.iinc 3 1, 3) := by decide +kernel
theorem dX7_holds_19 : decode cX7_holds 19 = .ok (.goto (-17), 3) := by decide +kernel
theorem dX7_holds_22 : decode cX7_holds 22 = .ok (.aload_n 0, 1) := by decide +kernel
theorem dX7_holds_23 : decode cX7_holds 23 = .ok (.iconst 0, 1) := by decide +kernel
theorem dX7_holds_24 : decode cX7_holds 24 = .ok (.putfield 165, 3) := by decide +kernel
theorem dX7_holds_27 : decode cX7_holds 27 = .ok (.aload_n 0, 1) := by decide +kernel
theorem dX7_holds_28 : decode cX7_holds 28 = .ok (.iload_n 1, 1) := by decide +kernel
theorem dX7_holds_29 : decode cX7_holds 29 = .ok (.iload_n 2, 1) := by decide +kernel
theorem dX7_holds_30 : decode cX7_holds 30 = .ok (.invokevirtual 168, 3) := by decide +kernel
theorem dX7_holds_33 : decode cX7_holds 33 = .ok (.aload_n 0, 1) := by decide +kernel
theorem dX7_holds_34 : decode cX7_holds 34 = .ok (.getfield 165, 3) := by decide +kernel
theorem dX7_holds_37 : decode cX7_holds 37 = .ok (.ifCond .le 169, 3) := by decide +kernel
theorem dX7_holds_40 : decode cX7_holds 40 = .ok (.aload_n 0, 1) := by decide +kernel
theorem dX7_holds_41 : decode cX7_holds 41 = .ok (.dup, 1) := by decide +kernel
theorem dX7_holds_42 : decode cX7_holds 42 = .ok (.getfield 165, 3) := by decide +kernel
theorem dX7_holds_45 : decode cX7_holds 45 = .ok (.iconst 1, 1) := by decide +kernel
theorem dX7_holds_46 : decode cX7_holds 46 = .ok (.isub, 1) := by decide +kernel
theorem dX7_holds_47 : decode cX7_holds 47 = .ok (.putfield 165, 3) := by decide +kernel
theorem dX7_holds_50 : decode cX7_holds 50 = .ok (.aload_n 0, 1) := by decide +kernel
theorem dX7_holds_51 : decode cX7_holds 51 = .ok (.getfield 62, 3) := by decide +kernel
theorem dX7_holds_54 : decode cX7_holds 54 = .ok (.iconst 2, 1) := by decide +kernel
theorem dX7_holds_55 : decode cX7_holds 55 = .ok (.aload_n 0, 1) := by decide +kernel
theorem dX7_holds_56 : decode cX7_holds 56 = .ok (.getfield 165, 3) := by decide +kernel
theorem dX7_holds_59 : decode cX7_holds 59 = .ok (.imul, 1) := by decide +kernel
theorem dX7_holds_60 : decode cX7_holds 60 = .ok (.iaload, 1) := by decide +kernel
theorem dX7_holds_61 : decode cX7_holds 61 = .ok (.istore_n 3, 1) := by decide +kernel
theorem dX7_holds_62 : decode cX7_holds 62 = .ok (.aload_n 0, 1) := by decide +kernel
theorem dX7_holds_63 : decode cX7_holds 63 = .ok (.getfield 62, 3) := by decide +kernel
theorem dX7_holds_66 : decode cX7_holds 66 = .ok (.iconst 2, 1) := by decide +kernel
theorem dX7_holds_67 : decode cX7_holds 67 = .ok (.aload_n 0, 1) := by decide +kernel
theorem dX7_holds_68 : decode cX7_holds 68 = .ok (.getfield 165, 3) := by decide +kernel
theorem dX7_holds_71 : decode cX7_holds 71 = .ok (.imul, 1) := by decide +kernel
theorem dX7_holds_72 : decode cX7_holds 72 = .ok (.iconst 1, 1) := by decide +kernel
theorem dX7_holds_73 : decode cX7_holds 73 = .ok (.iadd, 1) := by decide +kernel
theorem dX7_holds_74 : decode cX7_holds 74 = .ok (.iaload, 1) := by decide +kernel
theorem dX7_holds_75 : decode cX7_holds 75 = .ok (.istore 4, 2) := by decide +kernel
theorem dX7_holds_77 : decode cX7_holds 77 = .ok (.iload_n 3, 1) := by decide +kernel
theorem dX7_holds_78 : decode cX7_holds 78 = .ok (.iconst 4, 1) := by decide +kernel
theorem dX7_holds_79 : decode cX7_holds 79 = .ok (.if_icmp .eq 8, 3) := by decide +kernel
theorem dX7_holds_82 : decode cX7_holds 82 = .ok (.iload_n 3, 1) := by decide +kernel
theorem dX7_holds_83 : decode cX7_holds 83 = .ok (.iconst 5, 1) := by decide +kernel
theorem dX7_holds_84 : decode cX7_holds 84 = .ok (.if_icmp .ne 17, 3) := by decide +kernel
theorem dX7_holds_87 : decode cX7_holds 87 = .ok (.aload_n 0, 1) := by decide +kernel
theorem dX7_holds_88 : decode cX7_holds 88 = .ok (.iload_n 3, 1) := by decide +kernel
theorem dX7_holds_89 : decode cX7_holds 89 = .ok (.iconst 4, 1) := by decide +kernel
theorem dX7_holds_90 : decode cX7_holds 90 = .ok (.isub, 1) := by decide +kernel
theorem dX7_holds_91 : decode cX7_holds 91 = .ok (.iload 4, 2) := by decide +kernel
theorem dX7_holds_93 : decode cX7_holds 93 = .ok (.invokevirtual 172, 3) := by decide +kernel
theorem dX7_holds_96 : decode cX7_holds 96 = .ok (.ifCond .ne 107, 3) := by decide +kernel
theorem dX7_holds_99 : decode cX7_holds 99 = .ok (.iconst 0, 1) := by decide +kernel
theorem dX7_holds_100 : decode cX7_holds 100 = .ok (.ireturn, 1) := by decide +kernel
theorem dX7_holds_101 : decode cX7_holds 101 = .ok (.aload_n 0, 1) := by decide +kernel
theorem dX7_holds_102 : decode cX7_holds 102 = .ok (.getfield 65, 3) := by decide +kernel
theorem dX7_holds_105 : decode cX7_holds 105 = .ok (.bipush 80, 2) := by decide +kernel
theorem dX7_holds_107 : decode cX7_holds 107 = .ok (.iload_n 3, 1) := by decide +kernel
theorem dX7_holds_108 : decode cX7_holds 108 = .ok (.imul, 1) := by decide +kernel
theorem dX7_holds_109 : decode cX7_holds 109 = .ok (.iload 4, 2) := by decide +kernel
theorem dX7_holds_111 : decode cX7_holds 111 = .ok (.iadd, 1) := by decide +kernel
theorem dX7_holds_112 : decode cX7_holds 112 = .ok (.baload, 1) := by decide +kernel
theorem dX7_holds_113 : decode cX7_holds 113 = .ok (.ifCond .ne 90, 3) := by decide +kernel
theorem dX7_holds_116 : decode cX7_holds 116 = .ok (.aload_n 0, 1) := by decide +kernel
theorem dX7_holds_117 : decode cX7_holds 117 = .ok (.getfield 65, 3) := by decide +kernel
theorem dX7_holds_120 : decode cX7_holds 120 = .ok (.bipush 80, 2) := by decide +kernel
theorem dX7_holds_122 : decode cX7_holds 122 = .ok (.iload_n 3, 1) := by decide +kernel
theorem dX7_holds_123 : decode cX7_holds 123 = .ok (.imul, 1) := by decide +kernel
theorem dX7_holds_124 : decode cX7_holds 124 = .ok (.iload 4, 2) := by decide +kernel
theorem dX7_holds_126 : decode cX7_holds 126 = .ok (.iadd, 1) := by decide +kernel
theorem dX7_holds_127 : decode cX7_holds 127 = .ok (.iconst 1, 1) := by decide +kernel
theorem dX7_holds_128 : decode cX7_holds 128 = .ok (.bastore, 1) := by decide +kernel
theorem dX7_holds_129 : decode cX7_holds 129 = .ok (.aload_n 0, 1) := by decide +kernel
theorem dX7_holds_130 : decode cX7_holds 130 = .ok (.getfield 23, 3) := by decide +kernel
theorem dX7_holds_133 : decode cX7_holds 133 = .ok (.iload_n 3, 1) := by decide +kernel
theorem dX7_holds_134 : decode cX7_holds 134 = .ok (.iaload, 1) := by decide +kernel
theorem dX7_holds_135 : decode cX7_holds 135 = .ok (.aload_n 0, 1) := by decide +kernel
theorem dX7_holds_136 : decode cX7_holds 136 = .ok (.getfield 23, 3) := by decide +kernel
theorem dX7_holds_139 : decode cX7_holds 139 = .ok (.iload 4, 2) := by decide +kernel
theorem dX7_holds_141 : decode cX7_holds 141 = .ok (.iaload, 1) := by decide +kernel
theorem dX7_holds_142 : decode cX7_holds 142 = .ok (.if_icmp .eq 9, 3) := by decide +kernel
theorem dX7_holds_145 : decode cX7_holds 145 = .ok (.aload_n 0, 1) := by decide +kernel
theorem dX7_holds_146 : decode cX7_holds 146 = .ok (.iconst 1, 1) := by decide +kernel
theorem dX7_holds_147 : decode cX7_holds 147 = .ok (.invokevirtual 162, 3) := by decide +kernel
theorem dX7_holds_150 : decode cX7_holds 150 = .ok (.ireturn, 1) := by decide +kernel
theorem dX7_holds_151 : decode cX7_holds 151 = .ok (.aload_n 0, 1) := by decide +kernel
theorem dX7_holds_152 : decode cX7_holds 152 = .ok (.getfield 29, 3) := by decide +kernel
theorem dX7_holds_155 : decode cX7_holds 155 = .ok (.iload_n 3, 1) := by decide +kernel
theorem dX7_holds_156 : decode cX7_holds 156 = .ok (.iaload, 1) := by decide +kernel
theorem dX7_holds_157 : decode cX7_holds 157 = .ok (.ifCond .lt 20, 3) := by decide +kernel
theorem dX7_holds_160 : decode cX7_holds 160 = .ok (.aload_n 0, 1) := by decide +kernel
theorem dX7_holds_161 : decode cX7_holds 161 = .ok (.aload_n 0, 1) := by decide +kernel
theorem dX7_holds_162 : decode cX7_holds 162 = .ok (.getfield 29, 3) := by decide +kernel
theorem dX7_holds_165 : decode cX7_holds 165 = .ok (.iload_n 3, 1) := by decide +kernel
theorem dX7_holds_166 : decode cX7_holds 166 = .ok (.iaload, 1) := by decide +kernel
theorem dX7_holds_167 : decode cX7_holds 167 = .ok (.aload_n 0, 1) := by decide +kernel
theorem dX7_holds_168 : decode cX7_holds 168 = .ok (.getfield 29, 3) := by decide +kernel
theorem dX7_holds_171 : decode cX7_holds 171 = .ok (.iload 4, 2) := by decide +kernel
theorem dX7_holds_173 : decode cX7_holds 173 = .ok (.iaload, 1) := by decide +kernel
theorem dX7_holds_174 : decode cX7_holds 174 = .ok (.invokevirtual 168, 3) := by decide +kernel
theorem dX7_holds_177 : decode cX7_holds 177 = .ok (.aload_n 0, 1) := by decide +kernel
theorem dX7_holds_178 : decode cX7_holds 178 = .ok (.getfield 26, 3) := by decide +kernel
theorem dX7_holds_181 : decode cX7_holds 181 = .ok (.iload_n 3, 1) := by decide +kernel
theorem dX7_holds_182 : decode cX7_holds 182 = .ok (.iaload, 1) := by decide +kernel
theorem dX7_holds_183 : decode cX7_holds 183 = .ok (.ifCond .lt 20, 3) := by decide +kernel
theorem dX7_holds_186 : decode cX7_holds 186 = .ok (.aload_n 0, 1) := by decide +kernel
theorem dX7_holds_187 : decode cX7_holds 187 = .ok (.aload_n 0, 1) := by decide +kernel
theorem dX7_holds_188 : decode cX7_holds 188 = .ok (.getfield 26, 3) := by decide +kernel
theorem dX7_holds_191 : decode cX7_holds 191 = .ok (.iload_n 3, 1) := by decide +kernel
theorem dX7_holds_192 : decode cX7_holds 192 = .ok (.iaload, 1) := by decide +kernel
theorem dX7_holds_193 : decode cX7_holds 193 = .ok (.aload_n 0, 1) := by decide +kernel
theorem dX7_holds_194 : decode cX7_holds 194 = .ok (.getfield 26, 3) := by decide +kernel
theorem dX7_holds_197 : decode cX7_holds 197 = .ok (.iload 4, 2) := by decide +kernel
theorem dX7_holds_199 : decode cX7_holds 199 = .ok (.iaload, 1) := by decide +kernel
theorem dX7_holds_200 : decode cX7_holds 200 = .ok (.invokevirtual 168, 3) := by decide +kernel
theorem dX7_holds_203 : decode cX7_holds 203 = .ok (.goto (-170), 3) := by decide +kernel
theorem dX7_holds_206 : decode cX7_holds 206 = .ok (.iconst 1, 1) := by decide +kernel
theorem dX7_holds_207 : decode cX7_holds 207 = .ok (.ireturn, 1) := by decide +kernel
set_option maxRecDepth 20000 in
theorem ggX7_takes_X7_isPrimitive : GoodIn wsX7_takes wsX7_isPrimitive := goodIn_r _ [5] (by decide +kernel) (by decide +kernel)
set_option maxRecDepth 20000 in
theorem gX7_takes_X7_isPrimitive : GoodIn wsX7_takes (va_wsS RX7 110 yX7_isPrimitive wsX7_isPrimitive) := goodIn_app (goodIn_of _ (by decide +kernel)) ggX7_takes_X7_isPrimitive
set_option maxRecDepth 20000 in
theorem ggX7_takes_X7_goesFor : GoodIn wsX7_takes wsX7_goesFor := goodIn_r _ [9, 1, 2, 3, 4, 5, 10, 11, 12, 13, 14, 15, 16, 17, 18, 19, 20, 21, 22, 23, 24, 25, 26, 27, 28, 29, 30, 31, 32, 33, 34, 35, 36, 37, 38, 39, 40, 41, 63, 64, 65, 66, 67, 68, 69, 70, 71, 72, 73, 74, 75, 76, 77, 78, 79, 80, 81, 82, 83, 84, 85, 86, 87, 88, 89, 90, 91, 92, 93, 94, 95, 96, 97] (by decide +kernel) (by decide +kernel)
set_option maxRecDepth 20000 in
theorem gX7_takes_X7_goesFor : GoodIn wsX7_takes (wsV RX7 147 RX7 yX7_goesFor wsX7_goesFor) := goodIn_app (goodIn_of _ (by decide +kernel)) ggX7_takes_X7_goesFor
set_option maxRecDepth 20000 in
theorem ggX7_takes_X7_fails : GoodIn wsX7_takes wsX7_fails := goodIn_r _ [45, 46, 63, 64, 65, 66, 67, 68, 69, 70, 71, 72, 73, 74, 75, 76, 77, 78, 79, 80, 81, 82, 83, 84, 85, 86, 87, 88, 89, 90, 91, 92, 93, 94, 95, 96, 97] (by decide +kernel) (by decide +kernel)
set_option maxRecDepth 20000 in
theorem gX7_takes_X7_fails : GoodIn wsX7_takes (wsV RX7 162 RX7 yX7_fails wsX7_fails) := goodIn_app (goodIn_of _ (by decide +kernel)) ggX7_takes_X7_fails
set_option maxRecDepth 20000 in
theorem ggX7_takes_X7_binds : GoodIn wsX7_takes wsX7_binds := goodIn_r _ [50, 51, 42, 43, 44, 4, 45, 46, 63, 64, 65, 66, 67, 68, 69, 70, 71, 72, 73, 74, 75, 76, 77, 78, 79, 80, 81, 82, 83, 84, 85, 86, 87, 88, 89, 90, 91, 92, 93, 94, 95, 96, 97] (by decide +kernel) (by decide +kernel)
set_option maxRecDepth 20000 in
theorem gX7_takes_X7_binds : GoodIn wsX7_takes (wsV RX7 172 RX7 yX7_binds wsX7_binds) := goodIn_app (goodIn_of _ (by decide +kernel)) ggX7_takes_X7_binds
set_option maxRecDepth 20000 in
theorem ggX7_takes_X7_seenAs : GoodIn wsX7_takes wsX7_seenAs := goodIn_r _ [13, 1, 14, 15, 16, 17, 18, 19, 4, 20, 21, 22, 23, 24, 25, 26, 27, 28, 29, 30, 31, 32, 33, 34, 35, 36, 37, 38, 39, 40, 41, 63, 64, 65, 66, 67, 68, 69, 70, 71, 72, 73, 74, 75, 76, 77, 78, 79, 80, 81, 82, 83, 84, 85, 86, 87, 88, 89, 90, 91, 92, 93, 94, 95, 96, 97] (by decide +kernel) (by decide +kernel)
set_option maxRecDepth 20000 in
theorem gX7_takes_X7_seenAs : GoodIn wsX7_takes (wsV RX7 140 RX7 yX7_seenAs wsX7_seenAs) := goodIn_app (goodIn_of _ (by decide +kernel)) ggX7_takes_X7_seenAs
set_option maxRecDepth 20000 in
theorem ggX7_takes_X7_holds : GoodIn wsX7_takes wsX7_holds := goodIn_r _ [55, 56, 57, 58, 1, 16, 15, 59, 60, 61, 4, 62, 47, 48, 49, 50, 51, 42, 43, 44, 45, 46, 63, 64, 65, 66, 67, 68, 69, 70, 71, 72, 73, 74, 75, 76, 77, 78, 79, 80, 81, 82, 83, 84, 85, 86, 87, 88, 89, 90, 91, 92, 93, 94, 95, 96, 97] (by decide +kernel) (by decide +kernel)
set_option maxRecDepth 20000 in
theorem gX7_takes_X7_holds : GoodIn wsX7_takes (wsV RX7 175 RX7 yX7_holds wsX7_holds) := goodIn_app (goodIn_of _ (by decide +kernel)) ggX7_takes_X7_holds
theorem dX7_takes_0 : decode cX7_takes 0 = .ok (.iload_n 1, 1) := by decide +kernel
theorem dX7_takes_1 : decode cX7_takes 1 = .ok (.invokestatic 110, 3) := by decide +kernel
theorem dX7_takes_4 : decode cX7_takes 4 = .ok (.ifCond .eq 27, 3) := by decide +kernel
theorem dX7_takes_7 : decode cX7_takes 7 = .ok (.aload_n 0, 1) := by decide +kernel
theorem dX7_takes_8 : decode cX7_takes 8 = .ok (.iload_n 2, 1) := by decide +kernel
theorem dX7_takes_9 : decode cX7_takes 9 = .ok (.iload_n 1, 1) := by decide +kernel
theorem dX7_takes_10 : decode cX7_takes 10 = .ok (.invokevirtual 147, 3) := by decide +kernel
theorem dX7_takes_13 : decode cX7_takes 13 = .ok (.iconst 1, 1) := by decide +kernel
theorem dX7_takes_14 : decode cX7_takes 14 = .ok (.if_icmp .eq 11, 3) := by decide +kernel
theorem dX7_takes_17 : decode cX7_takes 17 = .ok (.aload_n 0, 1) := by decide +kernel
theorem dX7_takes_18 : decode cX7_takes 18 = .ok (.iconst 1, 1) := by decide +kernel
theorem dX7_takes_19 : decode cX7_takes 19 = .ok (.invokevirtual 162, 3) := by decide +kernel
theorem dX7_takes_22 : decode cX7_takes 22 = .ok (.ifCond .eq 7, 3) := by decide +kernel
theorem dX7_takes_25 : decode cX7_takes 25 = .ok (.iconst 1, 1) := by decide +kernel
theorem dX7_takes_26 : decode cX7_takes 26 = .ok (.goto 4, 3) := by decide +kernel
theorem dX7_takes_29 : decode cX7_takes 29 = .ok (.iconst 0, 1) := by decide +kernel
theorem dX7_takes_30 : decode cX7_takes 30 = .ok (.ireturn, 1) := by decide +kernel
theorem dX7_takes_31 : decode cX7_takes 31 = .ok (.iload_n 2, 1) := by decide +kernel
theorem dX7_takes_32 : decode cX7_takes 32 = .ok (.invokestatic 110, 3) := by decide +kernel
theorem dX7_takes_35 : decode cX7_takes 35 = .ok (.ifCond .eq 9, 3) := by decide +kernel
theorem dX7_takes_38 : decode cX7_takes 38 = .ok (.aload_n 0, 1) := by decide +kernel
theorem dX7_takes_39 : decode cX7_takes 39 = .ok (.iconst 1, 1) := by decide +kernel
theorem dX7_takes_40 : decode cX7_takes 40 = .ok (.invokevirtual 162, 3) := by decide +kernel
theorem dX7_takes_43 : decode cX7_takes 43 = .ok (.ireturn, 1) := by decide +kernel
theorem dX7_takes_44 : decode cX7_takes 44 = .ok (.iload_n 1, 1) := by decide +kernel
theorem dX7_takes_45 : decode cX7_takes 45 = .ok (.bipush 6, 2) := by decide +kernel
theorem dX7_takes_47 : decode cX7_takes 47 = .ok (.if_icmp .ge 12, 3) := by decide +kernel
theorem dX7_takes_50 : decode cX7_takes 50 = .ok (.aload_n 0, 1) := by decide +kernel
theorem dX7_takes_51 : decode cX7_takes 51 = .ok (.iload_n 1, 1) := by decide +kernel
theorem dX7_takes_52 : decode cX7_takes 52 = .ok (.iconst 4, 1) := by decide +kernel
theorem dX7_takes_53 : decode cX7_takes 53 = .ok (.isub, 1) := by decide +kernel
theorem dX7_takes_54 : decode cX7_takes 54 = .ok (.iload_n 2, 1) := by decide +kernel
theorem dX7_takes_55 : decode cX7_takes 55 = .ok (.invokevirtual 172, 3) := by decide +kernel
theorem dX7_takes_58 : decode cX7_takes 58 = .ok (.ireturn, 1) := by decide +kernel
theorem dX7_takes_59 : decode cX7_takes 59 = .ok (.aload_n 0, 1) := by decide +kernel
theorem dX7_takes_60 : decode cX7_takes 60 = .ok (.iload_n 2, 1) := by decide +kernel
theorem dX7_takes_61 : decode cX7_takes 61 = .ok (.aload_n 0, 1) := by decide +kernel
theorem dX7_takes_62 : decode cX7_takes 62 = .ok (.getfield 23, 3) := by decide +kernel
theorem dX7_takes_65 : decode cX7_takes 65 = .ok (.iload_n 1, 1) := by decide +kernel
theorem dX7_takes_66 : decode cX7_takes 66 = .ok (.iaload, 1) := by decide +kernel
theorem dX7_takes_67 : decode cX7_takes 67 = .ok (.invokevirtual 140, 3) := by decide +kernel
theorem dX7_takes_70 : decode cX7_takes 70 = .ok (.istore_n 3, 1) := by decide +kernel
theorem dX7_takes_71 : decode cX7_takes 71 = .ok (.iload_n 3, 1) := by decide +kernel
theorem dX7_takes_72 : decode cX7_takes 72 = .ok (.ifCond .ge 20, 3) := by decide +kernel
theorem dX7_takes_75 : decode cX7_takes 75 = .ok (.aload_n 0, 1) := by decide +kernel
theorem dX7_takes_76 : decode cX7_takes 76 = .ok (.iload_n 3, 1) := by decide +kernel
theorem dX7_takes_77 : decode cX7_takes 77 = .ok (.bipush (-3), 2) := by decide +kernel
theorem dX7_takes_79 : decode cX7_takes 79 = .ok (.if_icmp .ne 8, 3) := by decide +kernel
theorem dX7_takes_82 : decode cX7_takes 82 = .ok (.bipush 8, 2) := by decide +kernel
theorem dX7_takes_84 : decode cX7_takes 84 = .ok (.goto 4, 3) := by decide +kernel
theorem dX7_takes_87 : decode cX7_takes 87 = .ok (.iconst 1, 1) := by decide +kernel
theorem dX7_takes_88 : decode cX7_takes 88 = .ok (.invokevirtual 162, 3) := by decide +kernel
theorem dX7_takes_91 : decode cX7_takes 91 = .ok (.ireturn, 1) := by decide +kernel
theorem dX7_takes_92 : decode cX7_takes 92 = .ok (.aload_n 0, 1) := by decide +kernel
theorem dX7_takes_93 : decode cX7_takes 93 = .ok (.iload_n 1, 1) := by decide +kernel
theorem dX7_takes_94 : decode cX7_takes 94 = .ok (.iload_n 3, 1) := by decide +kernel
theorem dX7_takes_95 : decode cX7_takes 95 = .ok (.invokevirtual 175, 3) := by decide +kernel
theorem dX7_takes_98 : decode cX7_takes 98 = .ok (.ireturn, 1) := by decide +kernel
set_option maxRecDepth 20000 in
theorem ggX7_putTo_X7_takes : GoodIn wsX7_putTo wsX7_takes := goodIn_r _ [12, 13, 14, 15, 11, 16, 17, 18, 19, 20, 21, 22, 23, 24, 25, 26, 27, 28, 29, 30, 31, 32, 33, 34, 35, 36, 37, 38, 6, 39, 40, 41, 42, 43, 44, 45, 46, 47, 48, 49, 50, 51, 52, 53, 54, 55, 5, 56, 57, 58, 59, 1, 60, 61, 62, 63, 64, 65, 66, 67, 68, 69, 70, 75, 76, 77, 78, 79, 80, 81, 82, 83, 84, 85, 86, 87, 88, 89, 90, 91, 92, 93, 94, 95, 96, 97, 98, 99, 100, 101, 102, 103, 104, 105, 106, 107, 108, 109] (by decide +kernel) (by decide +kernel)
set_option maxRecDepth 20000 in
theorem gX7_putTo_X7_takes : GoodIn wsX7_putTo (wsV RX7 178 RX7 yX7_takes wsX7_takes) := goodIn_app (goodIn_of _ (by decide +kernel)) ggX7_putTo_X7_takes
set_option maxRecDepth 20000 in
theorem ggX7_putTo_X7_goesFor : GoodIn wsX7_putTo wsX7_goesFor := goodIn_r _ [20, 13, 14, 15, 11, 16, 21, 22, 23, 24, 25, 26, 27, 28, 29, 30, 31, 32, 33, 34, 35, 36, 37, 38, 6, 39, 40, 41, 42, 43, 44, 45, 46, 47, 48, 49, 50, 51, 75, 76, 77, 78, 79, 80, 81, 82, 83, 84, 85, 86, 87, 88, 89, 90, 91, 92, 93, 94, 95, 96, 97, 98, 99, 100, 101, 102, 103, 104, 105, 106, 107, 108, 109] (by decide +kernel) (by decide +kernel)
set_option maxRecDepth 20000 in
theorem gX7_putTo_X7_goesFor : GoodIn wsX7_putTo (wsV RX7 147 RX7 yX7_goesFor wsX7_goesFor) := goodIn_app (goodIn_of _ (by decide +kernel)) ggX7_putTo_X7_goesFor
set_option maxRecDepth 20000 in
theorem ggX7_putTo_X7_put : GoodIn wsX7_putTo wsX7_put := goodIn_r _ [35, 36, 37, 38, 6, 26, 27, 13, 39, 40, 41, 11, 42, 43, 44, 45, 46, 47, 48, 49, 50, 51, 75, 76, 77, 78, 79, 80, 81, 82, 83, 84, 85, 86, 87, 88, 89, 90, 91, 92, 93, 94, 95, 96, 97, 98, 99, 100, 101, 102, 103, 104, 105, 106, 107, 108, 109] (by decide +kernel) (by decide +kernel)
set_option maxRecDepth 20000 in
theorem gX7_putTo_X7_put : GoodIn wsX7_putTo (wsV RX7 137 RX7 yX7_put wsX7_put) := goodIn_app (goodIn_of _ (by decide +kernel)) ggX7_putTo_X7_put
set_option maxRecDepth 20000 in
theorem ggX7_putTo_X7_orRoom : GoodIn wsX7_putTo wsX7_orRoom := goodIn_r _ [74, 5, 75, 76, 77, 78, 79, 80, 81, 82, 83, 84, 85, 86, 87, 88, 89, 90, 91, 92, 93, 94, 95, 96, 97, 98, 99, 100, 101, 102, 103, 104, 105, 106, 107, 108, 109] (by decide +kernel) (by decide +kernel)
set_option maxRecDepth 20000 in
theorem gX7_putTo_X7_orRoom : GoodIn wsX7_putTo (wsV RX7 181 RX7 yX7_orRoom wsX7_orRoom) := goodIn_app (goodIn_of _ (by decide +kernel)) ggX7_putTo_X7_orRoom
theorem dX7_putTo_0 : decode cX7_putTo 0 = .ok (.aload_n 0, 1) := by decide +kernel
theorem dX7_putTo_1 : decode cX7_putTo 1 = .ok (.getfield 59, 3) := by decide +kernel
theorem dX7_putTo_4 : decode cX7_putTo 4 = .ok (.iconst 0, 1) := by decide +kernel
theorem dX7_putTo_5 : decode cX7_putTo 5 = .ok (.iconst (-1), 1) := by decide +kernel
theorem dX7_putTo_6 : decode cX7_putTo 6 = .ok (.iastore, 1) := by decide +kernel
theorem dX7_putTo_7 : decode cX7_putTo 7 = .ok (.aload_n 0, 1) := by decide +kernel
theorem dX7_putTo_8 : decode cX7_putTo 8 = .ok (.getfield 59, 3) := by decide +kernel
theorem dX7_putTo_11 : decode cX7_putTo 11 = .ok (.iconst 1, 1) := by decide +kernel
theorem dX7_putTo_12 : decode cX7_putTo 12 = .ok (.iconst (-1), 1) := by decide +kernel
theorem dX7_putTo_13 : decode cX7_putTo 13 = .ok (.iastore, 1) := by decide +kernel
theorem dX7_putTo_14 : decode cX7_putTo 14 = .ok (.aload_n 0, 1) := by decide +kernel
theorem dX7_putTo_15 : decode cX7_putTo 15 = .ok (.aload_n 0, 1) := by decide +kernel
theorem dX7_putTo_16 : decode cX7_putTo 16 = .ok (.getfield 47, 3) := by decide +kernel
theorem dX7_putTo_19 : decode cX7_putTo 19 = .ok (.iload_n 1, 1) := by decide +kernel
theorem dX7_putTo_20 : decode cX7_putTo 20 = .ok (.iaload, 1) := by decide +kernel
theorem dX7_putTo_21 : decode cX7_putTo 21 = .ok (.iload_n 2, 1) := by decide +kernel
theorem dX7_putTo_22 : decode cX7_putTo 22 = .ok (.invokevirtual 178, 3) := by decide +kernel
theorem dX7_putTo_25 : decode cX7_putTo 25 = .ok (.ifCond .eq 27, 3) := by decide +kernel
theorem dX7_putTo_28 : decode cX7_putTo 28 = .ok (.aload_n 0, 1) := by decide +kernel
theorem dX7_putTo_29 : decode cX7_putTo 29 = .ok (.getfield 50, 3) := by decide +kernel
theorem dX7_putTo_32 : decode cX7_putTo 32 = .ok (.iload_n 1, 1) := by decide +kernel
theorem dX7_putTo_33 : decode cX7_putTo 33 = .ok (.iaload, 1) := by decide +kernel
theorem dX7_putTo_34 : decode cX7_putTo 34 = .ok (.iconst (-1), 1) := by decide +kernel
theorem dX7_putTo_35 : decode cX7_putTo 35 = .ok (.if_icmp .eq 19, 3) := by decide +kernel
theorem dX7_putTo_38 : decode cX7_putTo 38 = .ok (.aload_n 0, 1) := by decide +kernel
theorem dX7_putTo_39 : decode cX7_putTo 39 = .ok (.aload_n 0, 1) := by decide +kernel
theorem dX7_putTo_40 : decode cX7_putTo 40 = .ok (.getfield 50, 3) := by decide +kernel
theorem dX7_putTo_43 : decode cX7_putTo 43 = .ok (.iload_n 1, 1) := by decide +kernel
theorem dX7_putTo_44 : decode cX7_putTo 44 = .ok (.iaload, 1) := by decide +kernel
theorem dX7_putTo_45 : decode cX7_putTo 45 = .ok (.iload_n 3, 1) := by decide +kernel
theorem dX7_putTo_46 : decode cX7_putTo 46 = .ok (.invokevirtual 178, 3) := by decide +kernel
theorem dX7_putTo_49 : decode cX7_putTo 49 = .ok (.ifCond .ne 5, 3) := by decide +kernel
theorem dX7_putTo_52 : decode cX7_putTo 52 = .ok (.iconst (-1), 1) := by decide +kernel
theorem dX7_putTo_53 : decode cX7_putTo 53 = .ok (.ireturn, 1) := by decide +kernel
theorem dX7_putTo_54 : decode cX7_putTo 54 = .ok (.iconst 0, 1) := by decide +kernel
theorem dX7_putTo_55 : decode cX7_putTo 55 = .ok (.istore 4, 2) := by decide +kernel
theorem dX7_putTo_57 : decode cX7_putTo 57 = .ok (.iload 4, 2) := by decide +kernel
theorem dX7_putTo_59 : decode cX7_putTo 59 = .ok (.iconst 2, 1) := by decide +kernel
theorem dX7_putTo_60 : decode cX7_putTo 60 = .ok (.if_icmp .ge 84, 3) := by decide +kernel
theorem dX7_putTo_63 : decode cX7_putTo 63 = .ok (.aload_n 0, 1) := by decide +kernel
theorem dX7_putTo_64 : decode cX7_putTo 64 = .ok (.getfield 59, 3) := by decide +kernel
theorem dX7_putTo_67 : decode cX7_putTo 67 = .ok (.iload 4, 2) := by decide +kernel
theorem dX7_putTo_69 : decode cX7_putTo 69 = .ok (.iaload, 1) := by decide +kernel
theorem dX7_putTo_70 : decode cX7_putTo 70 = .ok (.iconst (-1), 1) := by decide +kernel
theorem dX7_putTo_71 : decode cX7_putTo 71 = .ok (.if_icmp .eq 67, 3) := by decide +kernel
theorem dX7_putTo_74 : decode cX7_putTo 74 = .ok (.aload_n 0, 1) := by decide +kernel
theorem dX7_putTo_75 : decode cX7_putTo 75 = .ok (.getfield 56, 3) := by decide +kernel
theorem dX7_putTo_78 : decode cX7_putTo 78 = .ok (.iconst 2, 1) := by decide +kernel
theorem dX7_putTo_79 : decode cX7_putTo 79 = .ok (.iload_n 1, 1) := by decide +kernel
theorem dX7_putTo_80 : decode cX7_putTo 80 = .ok (.imul, 1) := by decide +kernel
theorem dX7_putTo_81 : decode cX7_putTo 81 = .ok (.iload 4, 2) := by decide +kernel
theorem dX7_putTo_83 : decode cX7_putTo 83 = .ok (.iadd, 1) := by decide +kernel
theorem dX7_putTo_84 : decode cX7_putTo 84 = .ok (.iaload, 1) := by decide +kernel
theorem dX7_putTo_85 : decode cX7_putTo 85 = .ok (.iconst (-1), 1) := by decide +kernel
theorem dX7_putTo_86 : decode cX7_putTo 86 = .ok (.if_icmp .eq 52, 3) := by decide +kernel
theorem dX7_putTo_89 : decode cX7_putTo 89 = .ok (.aload_n 0, 1) := by decide +kernel
theorem dX7_putTo_90 : decode cX7_putTo 90 = .ok (.aload_n 0, 1) := by decide +kernel
theorem dX7_putTo_91 : decode cX7_putTo 91 = .ok (.getfield 59, 3) := by decide +kernel
theorem dX7_putTo_94 : decode cX7_putTo 94 = .ok (.iload 4, 2) := by decide +kernel
theorem dX7_putTo_96 : decode cX7_putTo 96 = .ok (.iaload, 1) := by decide +kernel
theorem dX7_putTo_97 : decode cX7_putTo 97 = .ok (.aload_n 0, 1) := by decide +kernel
theorem dX7_putTo_98 : decode cX7_putTo 98 = .ok (.getfield 56, 3) := by decide +kernel
theorem dX7_putTo_101 : decode cX7_putTo 101 = .ok (.iconst 2, 1) := by decide +kernel
theorem dX7_putTo_102 : decode cX7_putTo 102 = .ok (.iload_n 1, 1) := by decide +kernel
theorem dX7_putTo_103 : decode cX7_putTo 103 = .ok (.imul, 1) := by decide +kernel
theorem dX7_putTo_104 : decode cX7_putTo 104 = .ok (.iload 4, 2) := by decide +kernel
theorem dX7_putTo_106 : decode cX7_putTo 106 = .ok (.iadd, 1) := by decide +kernel
theorem dX7_putTo_107 : decode cX7_putTo 107 = .ok (.iaload, 1) := by decide +kernel
theorem dX7_putTo_108 : decode cX7_putTo 108 = .ok (.invokevirtual 147, 3) := by decide +kernel
theorem dX7_putTo_111 : decode cX7_putTo 111 = .ok (.istore 5, 2) := by decide +kernel
theorem dX7_putTo_113 : decode cX7_putTo 113 = .ok (.iload 5, 2) := by decide +kernel
theorem dX7_putTo_115 : decode cX7_putTo 115 = .ok (.iconst 1, 1) := by decide +kernel
theorem dX7_putTo_116 : decode cX7_putTo 116 = .ok (.if_icmp .eq 22, 3) := by decide +kernel
theorem dX7_putTo_119 : decode cX7_putTo 119 = .ok (.aload_n 0, 1) := by decide +kernel
theorem dX7_putTo_120 : decode cX7_putTo 120 = .ok (.iload 5, 2) := by decide +kernel
theorem dX7_putTo_122 : decode cX7_putTo 122 = .ok (.bipush (-3), 2) := by decide +kernel
theorem dX7_putTo_124 : decode cX7_putTo 124 = .ok (.if_icmp .ne 8, 3) := by decide +kernel
theorem dX7_putTo_127 : decode cX7_putTo 127 = .ok (.bipush 8, 2) := by decide +kernel
theorem dX7_putTo_129 : decode cX7_putTo 129 = .ok (.goto 4, 3) := by decide +kernel
theorem dX7_putTo_132 : decode cX7_putTo 132 = .ok (.iconst 3, 1) := by decide +kernel
theorem dX7_putTo_133 : decode cX7_putTo 133 = .ok (.putfield 159, 3) := by decide +kernel
theorem dX7_putTo_136 : decode cX7_putTo 136 = .ok (.iconst (-1), 1) := by decide +kernel
theorem dX7_putTo_137 : decode cX7_putTo 137 = .ok (.ireturn, 1) := by decide +kernel
theorem dX7_putTo_138 : decode cX7_putTo 138 = .ok (.iinc 4 1, 3) := by decide +kernel
theorem dX7_putTo_141 : decode cX7_putTo 141 = .ok (.goto (-84), 3) := by decide +kernel
theorem dX7_putTo_144 : decode cX7_putTo 144 = .ok (.iconst 0, 1) := by decide +kernel
theorem dX7_putTo_145 : decode cX7_putTo 145 = .ok (.istore 4, 2) := by decide +kernel
theorem dX7_putTo_147 : decode cX7_putTo 147 = .ok (.iload 4, 2) := by decide +kernel
theorem dX7_putTo_149 : decode cX7_putTo 149 = .ok (.iconst 2, 1) := by decide +kernel
theorem dX7_putTo_150 : decode cX7_putTo 150 = .ok (.if_icmp .ge 47, 3) := by decide +kernel
theorem dX7_putTo_153 : decode cX7_putTo 153 = .ok (.aload_n 0, 1) := by decide +kernel
theorem dX7_putTo_154 : decode cX7_putTo 154 = .ok (.getfield 32, 3) := by decide +kernel
theorem dX7_putTo_157 : decode cX7_putTo 157 = .ok (.aload_n 0, 1) := by decide +kernel
theorem dX7_putTo_158 : decode cX7_putTo 158 = .ok (.getfield 53, 3) := by decide +kernel
theorem dX7_putTo_161 : decode cX7_putTo 161 = .ok (.iload_n 1, 1) := by decide +kernel
theorem dX7_putTo_162 : decode cX7_putTo 162 = .ok (.iaload, 1) := by decide +kernel
theorem dX7_putTo_163 : decode cX7_putTo 163 = .ok (.iaload, 1) := by decide +kernel
theorem dX7_putTo_164 : decode cX7_putTo 164 = .ok (.iload 4, 2) := by decide +kernel
theorem dX7_putTo_166 : decode cX7_putTo 166 = .ok (.ishr, 1) := by decide +kernel
theorem dX7_putTo_167 : decode cX7_putTo 167 = .ok (.iconst 1, 1) := by decide +kernel
theorem dX7_putTo_168 : decode cX7_putTo 168 = .ok (.iand, 1) := by decide +kernel
theorem dX7_putTo_169 : decode cX7_putTo 169 = .ok (.iconst 1, 1) := by decide +kernel
theorem dX7_putTo_170 : decode cX7_putTo 170 = .ok (.if_icmp .ne 21, 3) := by decide +kernel
theorem dX7_putTo_173 : decode cX7_putTo 173 = .ok (.aload_n 0, 1) := by decide +kernel
theorem dX7_putTo_174 : decode cX7_putTo 174 = .ok (.getfield 59, 3) := by decide +kernel
theorem dX7_putTo_177 : decode cX7_putTo 177 = .ok (.iload 4, 2) := by decide +kernel
theorem dX7_putTo_179 : decode cX7_putTo 179 = .ok (.iaload, 1) := by decide +kernel
theorem dX7_putTo_180 : decode cX7_putTo 180 = .ok (.iconst (-1), 1) := by decide +kernel
theorem dX7_putTo_181 : decode cX7_putTo 181 = .ok (.if_icmp .ne 10, 3) := by decide +kernel
theorem dX7_putTo_184 : decode cX7_putTo 184 = .ok (.aload_n 0, 1) := by decide +kernel
theorem dX7_putTo_185 : decode cX7_putTo 185 = .ok (.iconst 4, 1) := by decide +kernel
theorem dX7_putTo_186 : decode cX7_putTo 186 = .ok (.putfield 159, 3) := by decide +kernel
theorem dX7_putTo_189 : decode cX7_putTo 189 = .ok (.iconst (-1), 1) := by decide +kernel
theorem dX7_putTo_190 : decode cX7_putTo 190 = .ok (.ireturn, 1) := by decide +kernel
theorem dX7_putTo_191 : decode cX7_putTo 191 = .ok (.iinc 4 1, 3) := by decide +kernel
theorem dX7_putTo_194 : decode cX7_putTo 194 = .ok (.goto (-47), 3) := by decide +kernel
theorem dX7_putTo_197 : decode cX7_putTo 197 = .ok (.aload_n 0, 1) := by decide +kernel
theorem dX7_putTo_198 : decode cX7_putTo 198 = .ok (.aload_n 0, 1) := by decide +kernel
theorem dX7_putTo_199 : decode cX7_putTo 199 = .ok (.aload_n 0, 1) := by decide +kernel
theorem dX7_putTo_200 : decode cX7_putTo 200 = .ok (.getfield 53, 3) := by decide +kernel
theorem dX7_putTo_203 : decode cX7_putTo 203 = .ok (.iload_n 1, 1) := by decide +kernel
theorem dX7_putTo_204 : decode cX7_putTo 204 = .ok (.iaload, 1) := by decide +kernel
theorem dX7_putTo_205 : decode cX7_putTo 205 = .ok (.aload_n 0, 1) := by decide +kernel
theorem dX7_putTo_206 : decode cX7_putTo 206 = .ok (.getfield 59, 3) := by decide +kernel
theorem dX7_putTo_209 : decode cX7_putTo 209 = .ok (.iconst 0, 1) := by decide +kernel
theorem dX7_putTo_210 : decode cX7_putTo 210 = .ok (.iaload, 1) := by decide +kernel
theorem dX7_putTo_211 : decode cX7_putTo 211 = .ok (.aload_n 0, 1) := by decide +kernel
theorem dX7_putTo_212 : decode cX7_putTo 212 = .ok (.getfield 59, 3) := by decide +kernel
theorem dX7_putTo_215 : decode cX7_putTo 215 = .ok (.iconst 1, 1) := by decide +kernel
theorem dX7_putTo_216 : decode cX7_putTo 216 = .ok (.iaload, 1) := by decide +kernel
theorem dX7_putTo_217 : decode cX7_putTo 217 = .ok (.invokevirtual 137, 3) := by decide +kernel
theorem dX7_putTo_220 : decode cX7_putTo 220 = .ok (.invokevirtual 181, 3) := by decide +kernel
theorem dX7_putTo_223 : decode cX7_putTo 223 = .ok (.ireturn, 1) := by decide +kernel
theorem dX7_orRoom_0 : decode cX7_orRoom 0 = .ok (.aload_n 0, 1) := by decide +kernel
theorem dX7_orRoom_1 : decode cX7_orRoom 1 = .ok (.iload_n 1, 1) := by decide +kernel
theorem dX7_orRoom_2 : decode cX7_orRoom 2 = .ok (.bipush (-3), 2) := by decide +kernel
theorem dX7_orRoom_4 : decode cX7_orRoom 4 = .ok (.if_icmp .ne 8, 3) := by decide +kernel
theorem dX7_orRoom_7 : decode cX7_orRoom 7 = .ok (.bipush 8, 2) := by decide +kernel
theorem dX7_orRoom_9 : decode cX7_orRoom 9 = .ok (.goto 4, 3) := by decide +kernel
theorem dX7_orRoom_12 : decode cX7_orRoom 12 = .ok (.iconst 0, 1) := by decide +kernel
theorem dX7_orRoom_13 : decode cX7_orRoom 13 = .ok (.putfield 159, 3) := by decide +kernel
theorem dX7_orRoom_16 : decode cX7_orRoom 16 = .ok (.iload_n 1, 1) := by decide +kernel
theorem dX7_orRoom_17 : decode cX7_orRoom 17 = .ok (.bipush (-3), 2) := by decide +kernel
theorem dX7_orRoom_19 : decode cX7_orRoom 19 = .ok (.if_icmp .ne 7, 3) := by decide +kernel
theorem dX7_orRoom_22 : decode cX7_orRoom 22 = .ok (.iconst (-1), 1) := by decide +kernel
theorem dX7_orRoom_23 : decode cX7_orRoom 23 = .ok (.goto 4, 3) := by decide +kernel
theorem dX7_orRoom_26 : decode cX7_orRoom 26 = .ok (.iload_n 1, 1) := by decide +kernel
theorem dX7_orRoom_27 : decode cX7_orRoom 27 = .ok (.ireturn, 1) := by decide +kernel
set_option maxRecDepth 20000 in
theorem ggX7_memberOf_X7_isPrimitive : GoodIn wsX7_memberOf wsX7_isPrimitive := goodIn_r _ [9] (by decide +kernel) (by decide +kernel)
set_option maxRecDepth 20000 in
theorem gX7_memberOf_X7_isPrimitive : GoodIn wsX7_memberOf (va_wsS RX7 110 yX7_isPrimitive wsX7_isPrimitive) := goodIn_app (goodIn_of _ (by decide +kernel)) ggX7_memberOf_X7_isPrimitive
set_option maxRecDepth 20000 in
theorem ggX7_memberOf_X7_seenAs : GoodIn wsX7_memberOf wsX7_seenAs := goodIn_r _ [13, 14, 15, 4, 5, 16, 17, 18, 8, 19, 20, 21, 22, 23, 24, 25, 26, 27, 28, 29, 30, 31, 32, 33, 34, 35, 36, 37, 38, 39, 40, 45, 46, 47, 48, 49, 50, 51, 52, 53, 54, 55, 56, 57, 58, 59, 60, 61, 62, 63, 64, 65, 66, 67, 68, 69, 70, 71, 72, 73, 74, 75, 76, 77, 78, 79] (by decide +kernel) (by decide +kernel)
set_option maxRecDepth 20000 in
theorem gX7_memberOf_X7_seenAs : GoodIn wsX7_memberOf (wsV RX7 140 RX7 yX7_seenAs wsX7_seenAs) := goodIn_app (goodIn_of _ (by decide +kernel)) ggX7_memberOf_X7_seenAs
set_option maxRecDepth 20000 in
theorem ggX7_memberOf_X7_put : GoodIn wsX7_memberOf wsX7_put := goodIn_r _ [23, 24, 25, 26, 27, 4, 5, 14, 28, 29, 30, 8, 31, 32, 33, 34, 35, 36, 37, 38, 39, 40, 45, 46, 47, 48, 49, 50, 51, 52, 53, 54, 55, 56, 57, 58, 59, 60, 61, 62, 63, 64, 65, 66, 67, 68, 69, 70, 71, 72, 73, 74, 75, 76, 77, 78, 79] (by decide +kernel) (by decide +kernel)
set_option maxRecDepth 20000 in
theorem gX7_memberOf_X7_put : GoodIn wsX7_memberOf (wsV RX7 137 RX7 yX7_put wsX7_put) := goodIn_app (goodIn_of _ (by decide +kernel)) ggX7_memberOf_X7_put
set_option maxRecDepth 20000 in
theorem ggX7_memberOf_X7_orRoom : GoodIn wsX7_memberOf wsX7_orRoom := goodIn_r _ [44, 2, 45, 46, 47, 48, 49, 50, 51, 52, 53, 54, 55, 56, 57, 58, 59, 60, 61, 62, 63, 64, 65, 66, 67, 68, 69, 70, 71, 72, 73, 74, 75, 76, 77, 78, 79] (by decide +kernel) (by decide +kernel)
set_option maxRecDepth 20000 in
theorem gX7_memberOf_X7_orRoom : GoodIn wsX7_memberOf (wsV RX7 181 RX7 yX7_orRoom wsX7_orRoom) := goodIn_app (goodIn_of _ (by decide +kernel)) ggX7_memberOf_X7_orRoom
theorem dX7_memberOf_0 : decode cX7_memberOf 0 = .ok (.iload_n 2, 1) := by decide +kernel
theorem dX7_memberOf_1 : decode cX7_memberOf 1 = .ok (.invokestatic 110, 3) := by decide +kernel
theorem dX7_memberOf_4 : decode cX7_memberOf 4 = .ok (.ifCond .eq 7, 3) := by decide +kernel
theorem dX7_memberOf_7 : decode cX7_memberOf 7 = .ok (.iconst (-1), 1) := by decide +kernel
theorem dX7_memberOf_8 : decode cX7_memberOf 8 = .ok (.goto 14, 3) := by decide +kernel
theorem dX7_memberOf_11 : decode cX7_memberOf 11 = .ok (.aload_n 0, 1) := by decide +kernel
theorem dX7_memberOf_12 : decode cX7_memberOf 12 = .ok (.iload_n 2, 1) := by decide +kernel
theorem dX7_memberOf_13 : decode cX7_memberOf 13 = .ok (.aload_n 0, 1) := by decide +kernel
theorem dX7_memberOf_14 : decode cX7_memberOf 14 = .ok (.getfield 41, 3) := by decide +kernel
theorem dX7_memberOf_17 : decode cX7_memberOf 17 = .ok (.iload_n 1, 1) := by decide +kernel
theorem dX7_memberOf_18 : decode cX7_memberOf 18 = .ok (.iaload, 1) := by decide +kernel
theorem dX7_memberOf_19 : decode cX7_memberOf 19 = .ok (.invokevirtual 140, 3) := by decide +kernel
theorem dX7_memberOf_22 : decode cX7_memberOf 22 = .ok (.istore_n 3, 1) := by decide +kernel
theorem dX7_memberOf_23 : decode cX7_memberOf 23 = .ok (.iload_n 3, 1) := by decide +kernel
theorem dX7_memberOf_24 : decode cX7_memberOf 24 = .ok (.ifCond .ge 21, 3) := by decide +kernel
theorem dX7_memberOf_27 : decode cX7_memberOf 27 = .ok (.aload_n 0, 1) := by decide +kernel
theorem dX7_memberOf_28 : decode cX7_memberOf 28 = .ok (.iload_n 3, 1) := by decide +kernel
theorem dX7_memberOf_29 : decode cX7_memberOf 29 = .ok (.bipush (-3), 2) := by decide +kernel
theorem dX7_memberOf_31 : decode cX7_memberOf 31 = .ok (.if_icmp .ne 8, 3) := by decide +kernel
theorem dX7_memberOf_34 : decode cX7_memberOf 34 = .ok (.bipush 8, 2) := by decide +kernel
theorem dX7_memberOf_36 : decode cX7_memberOf 36 = .ok (.goto 4, 3) := by decide +kernel
theorem dX7_memberOf_39 : decode cX7_memberOf 39 = .ok (.iconst 5, 1) := by decide +kernel
theorem dX7_memberOf_40 : decode cX7_memberOf 40 = .ok (.putfield 159, 3) := by decide +kernel
theorem dX7_memberOf_43 : decode cX7_memberOf 43 = .ok (.iconst (-1), 1) := by decide +kernel
theorem dX7_memberOf_44 : decode cX7_memberOf 44 = .ok (.ireturn, 1) := by decide +kernel
theorem dX7_memberOf_45 : decode cX7_memberOf 45 = .ok (.aload_n 0, 1) := by decide +kernel
theorem dX7_memberOf_46 : decode cX7_memberOf 46 = .ok (.aload_n 0, 1) := by decide +kernel
theorem dX7_memberOf_47 : decode cX7_memberOf 47 = .ok (.aload_n 0, 1) := by decide +kernel
theorem dX7_memberOf_48 : decode cX7_memberOf 48 = .ok (.getfield 44, 3) := by decide +kernel
theorem dX7_memberOf_51 : decode cX7_memberOf 51 = .ok (.iload_n 1, 1) := by decide +kernel
theorem dX7_memberOf_52 : decode cX7_memberOf 52 = .ok (.iaload, 1) := by decide +kernel
theorem dX7_memberOf_53 : decode cX7_memberOf 53 = .ok (.aload_n 0, 1) := by decide +kernel
theorem dX7_memberOf_54 : decode cX7_memberOf 54 = .ok (.getfield 26, 3) := by decide +kernel
theorem dX7_memberOf_57 : decode cX7_memberOf 57 = .ok (.iload_n 3, 1) := by decide +kernel
theorem dX7_memberOf_58 : decode cX7_memberOf 58 = .ok (.iaload, 1) := by decide +kernel
theorem dX7_memberOf_59 : decode cX7_memberOf 59 = .ok (.aload_n 0, 1) := by decide +kernel
theorem dX7_memberOf_60 : decode cX7_memberOf 60 = .ok (.getfield 29, 3) := by decide +kernel
theorem dX7_memberOf_63 : decode cX7_memberOf 63 = .ok (.iload_n 3, 1) := by decide +kernel
theorem dX7_memberOf_64 : decode cX7_memberOf 64 = .ok (.iaload, 1) := by decide +kernel
theorem dX7_memberOf_65 : decode cX7_memberOf 65 = .ok (.invokevirtual 137, 3) := by decide +kernel
theorem dX7_memberOf_68 : decode cX7_memberOf 68 = .ok (.invokevirtual 181, 3) := by decide +kernel
theorem dX7_memberOf_71 : decode cX7_memberOf 71 = .ok (.ireturn, 1) := by decide +kernel
set_option maxRecDepth 20000 in
theorem ggX7_isFunction_X7_isIn : GoodIn wsX7_isFunction wsX7_isIn := goodIn_r _ [6] (by decide +kernel) (by decide +kernel)
set_option maxRecDepth 20000 in
theorem gX7_isFunction_X7_isIn : GoodIn wsX7_isFunction (va_wsS RX7 99 yX7_isIn wsX7_isIn) := goodIn_app (goodIn_of _ (by decide +kernel)) ggX7_isFunction_X7_isIn
theorem dX7_isFunction_0 : decode cX7_isFunction 0 = .ok (.iload_n 1, 1) := by decide +kernel
theorem dX7_isFunction_1 : decode cX7_isFunction 1 = .ok (.iconst 0, 1) := by decide +kernel
theorem dX7_isFunction_2 : decode cX7_isFunction 2 = .ok (.aload_n 0, 1) := by decide +kernel
theorem dX7_isFunction_3 : decode cX7_isFunction 3 = .ok (.getfield 156, 3) := by decide +kernel
theorem dX7_isFunction_6 : decode cX7_isFunction 6 = .ok (.iconst 1, 1) := by decide +kernel
theorem dX7_isFunction_7 : decode cX7_isFunction 7 = .ok (.isub, 1) := by decide +kernel
theorem dX7_isFunction_8 : decode cX7_isFunction 8 = .ok (.invokestatic 99, 3) := by decide +kernel
theorem dX7_isFunction_11 : decode cX7_isFunction 11 = .ok (.ifCond .eq 26, 3) := by decide +kernel
theorem dX7_isFunction_14 : decode cX7_isFunction 14 = .ok (.aload_n 0, 1) := by decide +kernel
theorem dX7_isFunction_15 : decode cX7_isFunction 15 = .ok (.getfield 50, 3) := by decide +kernel
theorem dX7_isFunction_18 : decode cX7_isFunction 18 = .ok (.iload_n 1, 1) := by decide +kernel
theorem dX7_isFunction_19 : decode cX7_isFunction 19 = .ok (.iaload, 1) := by decide +kernel
theorem dX7_isFunction_20 : decode cX7_isFunction 20 = .ok (.iconst (-1), 1) := by decide +kernel
theorem dX7_isFunction_21 : decode cX7_isFunction 21 = .ok (.if_icmp .eq 7, 3) := by decide +kernel
theorem dX7_isFunction_24 : decode cX7_isFunction 24 = .ok (.iconst 1, 1) := by decide +kernel
theorem dX7_isFunction_25 : decode cX7_isFunction 25 = .ok (.goto 4, 3) := by decide +kernel
theorem dX7_isFunction_28 : decode cX7_isFunction 28 = .ok (.iconst 0, 1) := by decide +kernel
theorem dX7_isFunction_29 : decode cX7_isFunction 29 = .ok (.iload_n 2, 1) := by decide +kernel
theorem dX7_isFunction_30 : decode cX7_isFunction 30 = .ok (.if_icmp .ne 7, 3) := by decide +kernel
theorem dX7_isFunction_33 : decode cX7_isFunction 33 = .ok (.iconst 1, 1) := by decide +kernel
theorem dX7_isFunction_34 : decode cX7_isFunction 34 = .ok (.goto 4, 3) := by decide +kernel
theorem dX7_isFunction_37 : decode cX7_isFunction 37 = .ok (.iconst 0, 1) := by decide +kernel
theorem dX7_isFunction_38 : decode cX7_isFunction 38 = .ok (.ireturn, 1) := by decide +kernel
set_option maxRecDepth 20000 in
theorem ggX7_isRight_X7_isClosed : GoodIn wsX7_isRight wsX7_isClosed := goodIn_r _ [7, 8, 9, 10, 11, 6, 12, 13, 14, 15, 16, 28, 29, 30, 31, 32, 33, 34, 35, 36, 37, 38, 39, 40, 41, 42, 43, 44, 45, 46, 47, 48, 49, 50, 51, 52, 53, 54, 55, 56, 57, 58, 59, 60, 61, 62] (by decide +kernel) (by decide +kernel)
set_option maxRecDepth 20000 in
theorem gX7_isRight_X7_isClosed : GoodIn wsX7_isRight (wsV RX7 144 RX7 yX7_isClosed wsX7_isClosed) := goodIn_app (goodIn_of _ (by decide +kernel)) ggX7_isRight_X7_isClosed
set_option maxRecDepth 20000 in
theorem ggX7_isRight_X7_isFunction : GoodIn wsX7_isRight wsX7_isFunction := goodIn_r _ [20, 21, 22, 14, 15, 6, 16, 28, 29, 30, 31, 32, 33, 34, 35, 36, 37, 38, 39, 40, 41, 42, 43, 44, 45, 46, 47, 48, 49, 50, 51, 52, 53, 54, 55, 56, 57, 58, 59, 60, 61, 62] (by decide +kernel) (by decide +kernel)
set_option maxRecDepth 20000 in
theorem gX7_isRight_X7_isFunction : GoodIn wsX7_isRight (wsV RX7 185 RX7 yX7_isFunction wsX7_isFunction) := goodIn_app (goodIn_of _ (by decide +kernel)) ggX7_isRight_X7_isFunction
set_option maxRecDepth 20000 in
theorem ggX7_isRight_X7_isIn : GoodIn wsX7_isRight wsX7_isIn := goodIn_r _ [16] (by decide +kernel) (by decide +kernel)
set_option maxRecDepth 20000 in
theorem gX7_isRight_X7_isIn : GoodIn wsX7_isRight (va_wsS RX7 99 yX7_isIn wsX7_isIn) := goodIn_app (goodIn_of _ (by decide +kernel)) ggX7_isRight_X7_isIn
set_option maxRecDepth 20000 in
theorem ggX7_isRight_X7_isClass : GoodIn wsX7_isRight wsX7_isClass := goodIn_r _ [26, 27, 14, 15, 6, 16, 28, 29, 30, 31, 32, 33, 34, 35, 36, 37, 38, 39, 40, 41, 42, 43, 44, 45, 46, 47, 48, 49, 50, 51, 52, 53, 54, 55, 56, 57, 58, 59, 60, 61, 62] (by decide +kernel) (by decide +kernel)
set_option maxRecDepth 20000 in
theorem gX7_isRight_X7_isClass : GoodIn wsX7_isRight (wsV RX7 113 RX7 yX7_isClass wsX7_isClass) := goodIn_app (goodIn_of _ (by decide +kernel)) ggX7_isRight_X7_isClass
theorem dX7_isRight_0 : decode cX7_isRight 0 = .ok (.iload_n 1, 1) := by decide +kernel
theorem dX7_isRight_1 : decode cX7_isRight 1 = .ok (.tableswitch 133 0 7 #[47, 53, 53, 60, 133, 72, 79, 47], 47) := by decide +kernel
theorem dX7_isRight_48 : decode cX7_isRight 48 = .ok (.aload_n 0, 1) := by decide +kernel
theorem dX7_isRight_49 : decode cX7_isRight 49 = .ok (.iload_n 2, 1) := by decide +kernel
theorem dX7_isRight_50 : decode cX7_isRight 50 = .ok (.invokevirtual 144, 3) := by decide +kernel
theorem dX7_isRight_53 : decode cX7_isRight 53 = .ok (.ireturn, 1) := by decide +kernel
theorem dX7_isRight_54 : decode cX7_isRight 54 = .ok (.aload_n 0, 1) := by decide +kernel
theorem dX7_isRight_55 : decode cX7_isRight 55 = .ok (.iload_n 2, 1) := by decide +kernel
theorem dX7_isRight_56 : decode cX7_isRight 56 = .ok (.iconst 0, 1) := by decide +kernel
theorem dX7_isRight_57 : decode cX7_isRight 57 = .ok (.invokevirtual 185, 3) := by decide +kernel
theorem dX7_isRight_60 : decode cX7_isRight 60 = .ok (.ireturn, 1) := by decide +kernel
theorem dX7_isRight_61 : decode cX7_isRight 61 = .ok (.iload_n 2, 1) := by decide +kernel
theorem dX7_isRight_62 : decode cX7_isRight 62 = .ok (.iconst 0, 1) := by decide +kernel
theorem dX7_isRight_63 : decode cX7_isRight 63 = .ok (.aload_n 0, 1) := by decide +kernel
theorem dX7_isRight_64 : decode cX7_isRight 64 = .ok (.getfield 153, 3) := by decide +kernel
theorem dX7_isRight_67 : decode cX7_isRight 67 = .ok (.iconst 1, 1) := by decide +kernel
theorem dX7_isRight_68 : decode cX7_isRight 68 = .ok (.isub, 1) := by decide +kernel
theorem dX7_isRight_69 : decode cX7_isRight 69 = .ok (.invokestatic 99, 3) := by decide +kernel
theorem dX7_isRight_72 : decode cX7_isRight 72 = .ok (.ireturn, 1) := by decide +kernel
theorem dX7_isRight_73 : decode cX7_isRight 73 = .ok (.aload_n 0, 1) := by decide +kernel
theorem dX7_isRight_74 : decode cX7_isRight 74 = .ok (.iload_n 2, 1) := by decide +kernel
theorem dX7_isRight_75 : decode cX7_isRight 75 = .ok (.iconst 1, 1) := by decide +kernel
theorem dX7_isRight_76 : decode cX7_isRight 76 = .ok (.invokevirtual 185, 3) := by decide +kernel
theorem dX7_isRight_79 : decode cX7_isRight 79 = .ok (.ireturn, 1) := by decide +kernel
theorem dX7_isRight_80 : decode cX7_isRight 80 = .ok (.iload_n 2, 1) := by decide +kernel
theorem dX7_isRight_81 : decode cX7_isRight 81 = .ok (.iconst 0, 1) := by decide +kernel
theorem dX7_isRight_82 : decode cX7_isRight 82 = .ok (.aload_n 0, 1) := by decide +kernel
theorem dX7_isRight_83 : decode cX7_isRight 83 = .ok (.getfield 153, 3) := by decide +kernel
theorem dX7_isRight_86 : decode cX7_isRight 86 = .ok (.iconst 1, 1) := by decide +kernel
theorem dX7_isRight_87 : decode cX7_isRight 87 = .ok (.isub, 1) := by decide +kernel
theorem dX7_isRight_88 : decode cX7_isRight 88 = .ok (.invokestatic 99, 3) := by decide +kernel
theorem dX7_isRight_91 : decode cX7_isRight 91 = .ok (.ifCond .eq 41, 3) := by decide +kernel
theorem dX7_isRight_94 : decode cX7_isRight 94 = .ok (.iload_n 3, 1) := by decide +kernel
theorem dX7_isRight_95 : decode cX7_isRight 95 = .ok (.iconst 0, 1) := by decide +kernel
theorem dX7_isRight_96 : decode cX7_isRight 96 = .ok (.aload_n 0, 1) := by decide +kernel
theorem dX7_isRight_97 : decode cX7_isRight 97 = .ok (.getfield 153, 3) := by decide +kernel
theorem dX7_isRight_100 : decode cX7_isRight 100 = .ok (.iconst 1, 1) := by decide +kernel
theorem dX7_isRight_101 : decode cX7_isRight 101 = .ok (.isub, 1) := by decide +kernel
theorem dX7_isRight_102 : decode cX7_isRight 102 = .ok (.invokestatic 99, 3) := by decide +kernel
theorem dX7_isRight_105 : decode cX7_isRight 105 = .ok (.ifCond .eq 27, 3) := by decide +kernel
theorem dX7_isRight_108 : decode cX7_isRight 108 = .ok (.aload_n 0, 1) := by decide +kernel
theorem dX7_isRight_109 : decode cX7_isRight 109 = .ok (.iload 4, 2) := by decide +kernel
theorem dX7_isRight_111 : decode cX7_isRight 111 = .ok (.invokevirtual 113, 3) := by decide +kernel
theorem dX7_isRight_114 : decode cX7_isRight 114 = .ok (.ifCond .eq 18, 3) := by decide +kernel
theorem dX7_isRight_117 : decode cX7_isRight 117 = .ok (.aload_n 0, 1) := by decide +kernel
theorem dX7_isRight_118 : decode cX7_isRight 118 = .ok (.getfield 13, 3) := by decide +kernel
theorem dX7_isRight_121 : decode cX7_isRight 121 = .ok (.iload 4, 2) := by decide +kernel
theorem dX7_isRight_123 : decode cX7_isRight 123 = .ok (.iaload, 1) := by decide +kernel
theorem dX7_isRight_124 : decode cX7_isRight 124 = .ok (.iconst 2, 1) := by decide +kernel
theorem dX7_isRight_125 : decode cX7_isRight 125 = .ok (.if_icmp .ne 7, 3) := by decide +kernel
theorem dX7_isRight_128 : decode cX7_isRight 128 = .ok (.iconst 1, 1) := by decide +kernel
theorem dX7_isRight_129 : decode cX7_isRight 129 = .ok (.goto 4, 3) := by decide +kernel
theorem dX7_isRight_132 : decode cX7_isRight 132 = .ok (.iconst 0, 1) := by decide +kernel
theorem dX7_isRight_133 : decode cX7_isRight 133 = .ok (.ireturn, 1) := by decide +kernel
theorem dX7_isRight_134 : decode cX7_isRight 134 = .ok (.iconst 1, 1) := by decide +kernel
theorem dX7_isRight_135 : decode cX7_isRight 135 = .ok (.ireturn, 1) := by decide +kernel
set_option maxRecDepth 20000 in
theorem ggX7_operator_X7_isIn : GoodIn wsX7_operator wsX7_isIn := goodIn_r _ [15] (by decide +kernel) (by decide +kernel)
set_option maxRecDepth 20000 in
theorem gX7_operator_X7_isIn : GoodIn wsX7_operator (va_wsS RX7 99 yX7_isIn wsX7_isIn) := goodIn_app (goodIn_of _ (by decide +kernel)) ggX7_operator_X7_isIn
set_option maxRecDepth 20000 in
theorem ggX7_operator_X7_isRight : GoodIn wsX7_operator wsX7_isRight := goodIn_r _ [19, 20, 21, 22, 23, 24, 14, 25, 26, 27, 28, 29, 30, 31, 12, 13, 15, 32, 33, 34, 35, 36, 37, 38, 39, 40, 41, 42, 43, 44, 45, 46, 47, 48, 49, 50, 51, 52, 53, 54, 55, 56, 57, 58, 59, 60, 61, 62, 63, 64, 65, 66, 67, 68, 69, 70, 71, 72, 73, 74, 75, 76, 77] (by decide +kernel) (by decide +kernel)
set_option maxRecDepth 20000 in
theorem gX7_operator_X7_isRight : GoodIn wsX7_operator (wsV RX7 192 RX7 yX7_isRight wsX7_isRight) := goodIn_app (goodIn_of _ (by decide +kernel)) ggX7_operator_X7_isRight
theorem dX7_operator_0 : decode cX7_operator 0 = .ok (.iload_n 1, 1) := by decide +kernel
theorem dX7_operator_1 : decode cX7_operator 1 = .ok (.ifCond .eq 17, 3) := by decide +kernel
theorem dX7_operator_4 : decode cX7_operator 4 = .ok (.iload_n 2, 1) := by decide +kernel
theorem dX7_operator_5 : decode cX7_operator 5 = .ok (.iconst 0, 1) := by decide +kernel
theorem dX7_operator_6 : decode cX7_operator 6 = .ok (.aload_n 0, 1) := by decide +kernel
theorem dX7_operator_7 : decode cX7_operator 7 = .ok (.getfield 189, 3) := by decide +kernel
theorem dX7_operator_10 : decode cX7_operator 10 = .ok (.iconst 1, 1) := by decide +kernel
theorem dX7_operator_11 : decode cX7_operator 11 = .ok (.isub, 1) := by decide +kernel
theorem dX7_operator_12 : decode cX7_operator 12 = .ok (.invokestatic 99, 3) := by decide +kernel
theorem dX7_operator_15 : decode cX7_operator 15 = .ok (.ifCond .eq 7, 3) := by decide +kernel
theorem dX7_operator_18 : decode cX7_operator 18 = .ok (.iconst 1, 1) := by decide +kernel
theorem dX7_operator_19 : decode cX7_operator 19 = .ok (.goto 4, 3) := by decide +kernel
theorem dX7_operator_22 : decode cX7_operator 22 = .ok (.iconst 0, 1) := by decide +kernel
theorem dX7_operator_23 : decode cX7_operator 23 = .ok (.istore 7, 2) := by decide +kernel
theorem dX7_operator_25 : decode cX7_operator 25 = .ok (.iload_n 1, 1) := by decide +kernel
theorem dX7_operator_26 : decode cX7_operator 26 = .ok (.iconst 4, 1) := by decide +kernel
theorem dX7_operator_27 : decode cX7_operator 27 = .ok (.if_icmp .lt 23, 3) := by decide +kernel
theorem dX7_operator_30 : decode cX7_operator 30 = .ok (.iload_n 1, 1) := by decide +kernel
theorem dX7_operator_31 : decode cX7_operator 31 = .ok (.bipush 7, 2) := by decide +kernel
theorem dX7_operator_33 : decode cX7_operator 33 = .ok (.if_icmp .eq 17, 3) := by decide +kernel
theorem dX7_operator_36 : decode cX7_operator 36 = .ok (.iload_n 3, 1) := by decide +kernel
theorem dX7_operator_37 : decode cX7_operator 37 = .ok (.iconst 0, 1) := by decide +kernel
theorem dX7_operator_38 : decode cX7_operator 38 = .ok (.aload_n 0, 1) := by decide +kernel
theorem dX7_operator_39 : decode cX7_operator 39 = .ok (.getfield 189, 3) := by decide +kernel
theorem dX7_operator_42 : decode cX7_operator 42 = .ok (.iconst 1, 1) := by decide +kernel
theorem dX7_operator_43 : decode cX7_operator 43 = .ok (.isub, 1) := by decide +kernel
theorem dX7_operator_44 : decode cX7_operator 44 = .ok (.invokestatic 99, 3) := by decide +kernel
theorem dX7_operator_47 : decode cX7_operator 47 = .ok (.ifCond .eq 7, 3) := by decide +kernel
theorem dX7_operator_50 : decode cX7_operator 50 = .ok (.iconst 1, 1) := by decide +kernel
theorem dX7_operator_51 : decode cX7_operator 51 = .ok (.goto 4, 3) := by decide +kernel
theorem dX7_operator_54 : decode cX7_operator 54 = .ok (.iconst 0, 1) := by decide +kernel
theorem dX7_operator_55 : decode cX7_operator 55 = .ok (.istore 8, 2) := by decide +kernel
theorem dX7_operator_57 : decode cX7_operator 57 = .ok (.iload_n 1, 1) := by decide +kernel
theorem dX7_operator_58 : decode cX7_operator 58 = .ok (.iconst 0, 1) := by decide +kernel
theorem dX7_operator_59 : decode cX7_operator 59 = .ok (.bipush 7, 2) := by decide +kernel
theorem dX7_operator_61 : decode cX7_operator 61 = .ok (.invokestatic 99, 3) := by decide +kernel
theorem dX7_operator_64 : decode cX7_operator 64 = .ok (.ifCond .eq 27, 3) := by decide +kernel
theorem dX7_operator_67 : decode cX7_operator 67 = .ok (.iload 7, 2) := by decide +kernel
theorem dX7_operator_69 : decode cX7_operator 69 = .ok (.ifCond .eq 22, 3) := by decide +kernel
theorem dX7_operator_72 : decode cX7_operator 72 = .ok (.iload 8, 2) := by decide +kernel
theorem dX7_operator_74 : decode cX7_operator 74 = .ok (.ifCond .eq 17, 3) := by decide +kernel
theorem dX7_operator_77 : decode cX7_operator 77 = .ok (.aload_n 0, 1) := by decide +kernel
theorem dX7_operator_78 : decode cX7_operator 78 = .ok (.iload_n 1, 1) := by decide +kernel
theorem dX7_operator_79 : decode cX7_operator 79 = .ok (.iload 4, 2) := by decide +kernel
theorem dX7_operator_81 : decode cX7_operator 81 = .ok (.iload 5, 2) := by decide +kernel
theorem dX7_operator_83 : decode cX7_operator 83 = .ok (.iload 6, 2) := by decide +kernel
theorem dX7_operator_85 : decode cX7_operator 85 = .ok (.invokevirtual 192, 3) := by decide +kernel
theorem dX7_operator_88 : decode cX7_operator 88 = .ok (.ifCond .ne 6, 3) := by decide +kernel
theorem dX7_operator_91 : decode cX7_operator 91 = .ok (.bipush (-2), 2) := by decide +kernel
theorem dX7_operator_93 : decode cX7_operator 93 = .ok (.ireturn, 1) := by decide +kernel
theorem dX7_operator_94 : decode cX7_operator 94 = .ok (.aload_n 0, 1) := by decide +kernel
theorem dX7_operator_95 : decode cX7_operator 95 = .ok (.getfield 189, 3) := by decide +kernel
theorem dX7_operator_98 : decode cX7_operator 98 = .ok (.bipush 24, 2) := by decide +kernel
theorem dX7_operator_100 : decode cX7_operator 100 = .ok (.if_icmp .ne 6, 3) := by decide +kernel
theorem dX7_operator_103 : decode cX7_operator 103 = .ok (.bipush (-3), 2) := by decide +kernel
theorem dX7_operator_105 : decode cX7_operator 105 = .ok (.ireturn, 1) := by decide +kernel
theorem dX7_operator_106 : decode cX7_operator 106 = .ok (.aload_n 0, 1) := by decide +kernel
theorem dX7_operator_107 : decode cX7_operator 107 = .ok (.getfield 69, 3) := by decide +kernel
theorem dX7_operator_110 : decode cX7_operator 110 = .ok (.aload_n 0, 1) := by decide +kernel
theorem dX7_operator_111 : decode cX7_operator 111 = .ok (.getfield 189, 3) := by decide +kernel
theorem dX7_operator_114 : decode cX7_operator 114 = .ok (.iload_n 1, 1) := by decide +kernel
theorem dX7_operator_115 : decode cX7_operator 115 = .ok (.iastore, 1) := by decide +kernel
theorem dX7_operator_116 : decode cX7_operator 116 = .ok (.aload_n 0, 1) := by decide +kernel
theorem dX7_operator_117 : decode cX7_operator 117 = .ok (.getfield 72, 3) := by decide +kernel
theorem dX7_operator_120 : decode cX7_operator 120 = .ok (.aload_n 0, 1) := by decide +kernel
theorem dX7_operator_121 : decode cX7_operator 121 = .ok (.getfield 189, 3) := by decide +kernel
theorem dX7_operator_124 : decode cX7_operator 124 = .ok (.iload_n 2, 1) := by decide +kernel
theorem dX7_operator_125 : decode cX7_operator 125 = .ok (.iastore, 1) := by decide +kernel
theorem dX7_operator_126 : decode cX7_operator 126 = .ok (.aload_n 0, 1) := by decide +kernel
theorem dX7_operator_127 : decode cX7_operator 127 = .ok (.getfield 75, 3) := by decide +kernel
theorem dX7_operator_130 : decode cX7_operator 130 = .ok (.aload_n 0, 1) := by decide +kernel
theorem dX7_operator_131 : decode cX7_operator 131 = .ok (.getfield 189, 3) := by decide +kernel
theorem dX7_operator_134 : decode cX7_operator 134 = .ok (.iload_n 3, 1) := by decide +kernel
theorem dX7_operator_135 : decode cX7_operator 135 = .ok (.iastore, 1) := by decide +kernel
theorem dX7_operator_136 : decode cX7_operator 136 = .ok (.aload_n 0, 1) := by decide +kernel
theorem dX7_operator_137 : decode cX7_operator 137 = .ok (.getfield 78, 3) := by decide +kernel
theorem dX7_operator_140 : decode cX7_operator 140 = .ok (.aload_n 0, 1) := by decide +kernel
theorem dX7_operator_141 : decode cX7_operator 141 = .ok (.getfield 189, 3) := by decide +kernel
theorem dX7_operator_144 : decode cX7_operator 144 = .ok (.iload 4, 2) := by decide +kernel
theorem dX7_operator_146 : decode cX7_operator 146 = .ok (.iastore, 1) := by decide +kernel
theorem dX7_operator_147 : decode cX7_operator 147 = .ok (.aload_n 0, 1) := by decide +kernel
theorem dX7_operator_148 : decode cX7_operator 148 = .ok (.getfield 81, 3) := by decide +kernel
theorem dX7_operator_151 : decode cX7_operator 151 = .ok (.aload_n 0, 1) := by decide +kernel
theorem dX7_operator_152 : decode cX7_operator 152 = .ok (.getfield 189, 3) := by decide +kernel
theorem dX7_operator_155 : decode cX7_operator 155 = .ok (.iload 5, 2) := by decide +kernel
theorem dX7_operator_157 : decode cX7_operator 157 = .ok (.iastore, 1) := by decide +kernel
theorem dX7_operator_158 : decode cX7_operator 158 = .ok (.aload_n 0, 1) := by decide +kernel
theorem dX7_operator_159 : decode cX7_operator 159 = .ok (.getfield 84, 3) := by decide +kernel
theorem dX7_operator_162 : decode cX7_operator 162 = .ok (.aload_n 0, 1) := by decide +kernel
theorem dX7_operator_163 : decode cX7_operator 163 = .ok (.getfield 189, 3) := by decide +kernel
theorem dX7_operator_166 : decode cX7_operator 166 = .ok (.iload 6, 2) := by decide +kernel
theorem dX7_operator_168 : decode cX7_operator 168 = .ok (.iastore, 1) := by decide +kernel
theorem dX7_operator_169 : decode cX7_operator 169 = .ok (.aload_n 0, 1) := by decide +kernel
theorem dX7_operator_170 : decode cX7_operator 170 = .ok (.getfield 87, 3) := by decide +kernel
theorem dX7_operator_173 : decode cX7_operator 173 = .ok (.aload_n 0, 1) := by decide +kernel
theorem dX7_operator_174 : decode cX7_operator 174 = .ok (.getfield 189, 3) := by decide +kernel
theorem dX7_operator_177 : decode cX7_operator 177 = .ok (.iconst (-1), 1) := by decide +kernel
theorem dX7_operator_178 : decode cX7_operator 178 = .ok (.iastore, 1) := by decide +kernel
theorem dX7_operator_179 : decode cX7_operator 179 = .ok (.aload_n 0, 1) := by decide +kernel
theorem dX7_operator_180 : decode cX7_operator 180 = .ok (.getfield 90, 3) := by decide +kernel
theorem dX7_operator_183 : decode cX7_operator 183 = .ok (.aload_n 0, 1) := by decide +kernel
theorem dX7_operator_184 : decode cX7_operator 184 = .ok (.getfield 189, 3) := by decide +kernel
theorem dX7_operator_187 : decode cX7_operator 187 = .ok (.iconst 0, 1) := by decide +kernel
theorem dX7_operator_188 : decode cX7_operator 188 = .ok (.iastore, 1) := by decide +kernel
theorem dX7_operator_189 : decode cX7_operator 189 = .ok (.aload_n 0, 1) := by decide +kernel
theorem dX7_operator_190 : decode cX7_operator 190 = .ok (.getfield 93, 3) := by decide +kernel
theorem dX7_operator_193 : decode cX7_operator 193 = .ok (.aload_n 0, 1) := by decide +kernel
theorem dX7_operator_194 : decode cX7_operator 194 = .ok (.getfield 189, 3) := by decide +kernel
theorem dX7_operator_197 : decode cX7_operator 197 = .ok (.iconst 0, 1) := by decide +kernel
theorem dX7_operator_198 : decode cX7_operator 198 = .ok (.bastore, 1) := by decide +kernel
theorem dX7_operator_199 : decode cX7_operator 199 = .ok (.aload_n 0, 1) := by decide +kernel
theorem dX7_operator_200 : decode cX7_operator 200 = .ok (.getfield 96, 3) := by decide +kernel
theorem dX7_operator_203 : decode cX7_operator 203 = .ok (.iconst 2, 1) := by decide +kernel
theorem dX7_operator_204 : decode cX7_operator 204 = .ok (.aload_n 0, 1) := by decide +kernel
theorem dX7_operator_205 : decode cX7_operator 205 = .ok (.getfield 189, 3) := by decide +kernel
theorem dX7_operator_208 : decode cX7_operator 208 = .ok (.imul, 1) := by decide +kernel
theorem dX7_operator_209 : decode cX7_operator 209 = .ok (.iconst (-1), 1) := by decide +kernel
theorem dX7_operator_210 : decode cX7_operator 210 = .ok (.iastore, 1) := by decide +kernel
theorem dX7_operator_211 : decode cX7_operator 211 = .ok (.aload_n 0, 1) := by decide +kernel
theorem dX7_operator_212 : decode cX7_operator 212 = .ok (.getfield 96, 3) := by decide +kernel
theorem dX7_operator_215 : decode cX7_operator 215 = .ok (.iconst 2, 1) := by decide +kernel
theorem dX7_operator_216 : decode cX7_operator 216 = .ok (.aload_n 0, 1) := by decide +kernel
theorem dX7_operator_217 : decode cX7_operator 217 = .ok (.getfield 189, 3) := by decide +kernel
theorem dX7_operator_220 : decode cX7_operator 220 = .ok (.imul, 1) := by decide +kernel
theorem dX7_operator_221 : decode cX7_operator 221 = .ok (.iconst 1, 1) := by decide +kernel
theorem dX7_operator_222 : decode cX7_operator 222 = .ok (.iadd, 1) := by decide +kernel
theorem dX7_operator_223 : decode cX7_operator 223 = .ok (.iconst (-1), 1) := by decide +kernel
theorem dX7_operator_224 : decode cX7_operator 224 = .ok (.iastore, 1) := by decide +kernel
theorem dX7_operator_225 : decode cX7_operator 225 = .ok (.aload_n 0, 1) := by decide +kernel
theorem dX7_operator_226 : decode cX7_operator 226 = .ok (.dup, 1) := by decide +kernel
theorem dX7_operator_227 : decode cX7_operator 227 = .ok (.getfield 189, 3) := by decide +kernel
theorem dX7_operator_230 : decode cX7_operator 230 = .ok (.iconst 1, 1) := by decide +kernel
theorem dX7_operator_231 : decode cX7_operator 231 = .ok (.iadd, 1) := by decide +kernel
theorem dX7_operator_232 : decode cX7_operator 232 = .ok (.putfield 189, 3) := by decide +kernel
theorem dX7_operator_235 : decode cX7_operator 235 = .ok (.aload_n 0, 1) := by decide +kernel
theorem dX7_operator_236 : decode cX7_operator 236 = .ok (.getfield 189, 3) := by decide +kernel
theorem dX7_operator_239 : decode cX7_operator 239 = .ok (.iconst 1, 1) := by decide +kernel
theorem dX7_operator_240 : decode cX7_operator 240 = .ok (.isub, 1) := by decide +kernel
theorem dX7_operator_241 : decode cX7_operator 241 = .ok (.ireturn, 1) := by decide +kernel
theorem dX7_clear_0 : decode cX7_clear 0 = .ok (.aload_n 0, 1) := by decide +kernel
theorem dX7_clear_1 : decode cX7_clear 1 = .ok (.getfield 189, 3) := by decide +kernel
theorem dX7_clear_4 : decode cX7_clear 4 = .ok (.istore_n 1, 1) := by decide +kernel
theorem dX7_clear_5 : decode cX7_clear 5 = .ok (.aload_n 0, 1) := by decide +kernel
theorem dX7_clear_6 : decode cX7_clear 6 = .ok (.iconst 0, 1) := by decide +kernel
theorem dX7_clear_7 : decode cX7_clear 7 = .ok (.putfield 189, 3) := by decide +kernel
theorem dX7_clear_10 : decode cX7_clear 10 = .ok (.iload_n 1, 1) := by decide +kernel
theorem dX7_clear_11 : decode cX7_clear 11 = .ok (.ireturn, 1) := by decide +kernel
set_option maxRecDepth 20000 in
theorem ggX7_areKeys_X7_goesFor : GoodIn wsX7_areKeys wsX7_goesFor := goodIn_r _ [5, 6, 7, 8, 4, 9, 10, 11, 12, 13, 14, 15, 16, 17, 18, 19, 20, 21, 22, 23, 24, 25, 26, 27, 28, 29, 30, 31, 32, 33, 34, 35, 36, 37, 38, 39, 40, 41, 47, 48, 49, 50, 51, 52, 53, 54, 55, 56, 57, 58, 59, 60, 61, 62, 63, 64, 65, 66, 67, 68, 69, 70, 71, 72, 73, 74, 75, 76, 77, 78, 79, 80, 81] (by decide +kernel) (by decide +kernel)
set_option maxRecDepth 20000 in
theorem gX7_areKeys_X7_goesFor : GoodIn wsX7_areKeys (wsV RX7 147 RX7 yX7_goesFor wsX7_goesFor) := goodIn_app (goodIn_of _ (by decide +kernel)) ggX7_areKeys_X7_goesFor
set_option maxRecDepth 20000 in
theorem ggX7_areKeys_X7_fails : GoodIn wsX7_areKeys wsX7_fails := goodIn_r _ [45, 46, 47, 48, 49, 50, 51, 52, 53, 54, 55, 56, 57, 58, 59, 60, 61, 62, 63, 64, 65, 66, 67, 68, 69, 70, 71, 72, 73, 74, 75, 76, 77, 78, 79, 80, 81] (by decide +kernel) (by decide +kernel)
set_option maxRecDepth 20000 in
theorem gX7_areKeys_X7_fails : GoodIn wsX7_areKeys (wsV RX7 162 RX7 yX7_fails wsX7_fails) := goodIn_app (goodIn_of _ (by decide +kernel)) ggX7_areKeys_X7_fails
theorem dX7_areKeys_0 : decode cX7_areKeys 0 = .ok (.aload_n 0, 1) := by decide +kernel
theorem dX7_areKeys_1 : decode cX7_areKeys 1 = .ok (.iload_n 1, 1) := by decide +kernel
theorem dX7_areKeys_2 : decode cX7_areKeys 2 = .ok (.iload_n 2, 1) := by decide +kernel
theorem dX7_areKeys_3 : decode cX7_areKeys 3 = .ok (.invokevirtual 147, 3) := by decide +kernel
theorem dX7_areKeys_6 : decode cX7_areKeys 6 = .ok (.istore_n 3, 1) := by decide +kernel
theorem dX7_areKeys_7 : decode cX7_areKeys 7 = .ok (.iload_n 3, 1) := by decide +kernel
theorem dX7_areKeys_8 : decode cX7_areKeys 8 = .ok (.ifCond .ne 12, 3) := by decide +kernel
theorem dX7_areKeys_11 : decode cX7_areKeys 11 = .ok (.aload_n 0, 1) := by decide +kernel
theorem dX7_areKeys_12 : decode cX7_areKeys 12 = .ok (.iload_n 2, 1) := by decide +kernel
theorem dX7_areKeys_13 : decode cX7_areKeys 13 = .ok (.iload_n 1, 1) := by decide +kernel
theorem dX7_areKeys_14 : decode cX7_areKeys 14 = .ok (.invokevirtual 147, 3) := by decide +kernel
theorem dX7_areKeys_17 : decode cX7_areKeys 17 = .ok (.goto 4, 3) := by decide +kernel
theorem dX7_areKeys_20 : decode cX7_areKeys 20 = .ok (.iload_n 3, 1) := by decide +kernel
theorem dX7_areKeys_21 : decode cX7_areKeys 21 = .ok (.istore_n 3, 1) := by decide +kernel
theorem dX7_areKeys_22 : decode cX7_areKeys 22 = .ok (.iload_n 3, 1) := by decide +kernel
theorem dX7_areKeys_23 : decode cX7_areKeys 23 = .ok (.iconst 1, 1) := by decide +kernel
theorem dX7_areKeys_24 : decode cX7_areKeys 24 = .ok (.if_icmp .eq 23, 3) := by decide +kernel
theorem dX7_areKeys_27 : decode cX7_areKeys 27 = .ok (.aload_n 0, 1) := by decide +kernel
theorem dX7_areKeys_28 : decode cX7_areKeys 28 = .ok (.iload_n 3, 1) := by decide +kernel
theorem dX7_areKeys_29 : decode cX7_areKeys 29 = .ok (.bipush (-3), 2) := by decide +kernel
theorem dX7_areKeys_31 : decode cX7_areKeys 31 = .ok (.if_icmp .ne 8, 3) := by decide +kernel
theorem dX7_areKeys_34 : decode cX7_areKeys 34 = .ok (.bipush 8, 2) := by decide +kernel
theorem dX7_areKeys_36 : decode cX7_areKeys 36 = .ok (.goto 5, 3) := by decide +kernel
theorem dX7_areKeys_39 : decode cX7_areKeys 39 = .ok (.bipush 6, 2) := by decide +kernel
theorem dX7_areKeys_41 : decode cX7_areKeys 41 = .ok (.invokevirtual 162, 3) := by decide +kernel
theorem dX7_areKeys_44 : decode cX7_areKeys 44 = .ok (.ifCond .eq 7, 3) := by decide +kernel
theorem dX7_areKeys_47 : decode cX7_areKeys 47 = .ok (.iconst 1, 1) := by decide +kernel
theorem dX7_areKeys_48 : decode cX7_areKeys 48 = .ok (.goto 4, 3) := by decide +kernel
theorem dX7_areKeys_51 : decode cX7_areKeys 51 = .ok (.iconst 0, 1) := by decide +kernel
theorem dX7_areKeys_52 : decode cX7_areKeys 52 = .ok (.ireturn, 1) := by decide +kernel
set_option maxRecDepth 20000 in
theorem ggX7_joined_X7_memberOf : GoodIn wsX7_joined wsX7_memberOf := goodIn_r _ [8, 9, 10, 11, 12, 13, 14, 15, 7, 16, 17, 18, 19, 20, 21, 22, 23, 24, 25, 26, 27, 28, 29, 30, 31, 32, 33, 34, 35, 36, 37, 38, 39, 40, 41, 42, 43, 44, 45, 46, 47, 48, 49, 50, 51, 64, 65, 66, 67, 68, 69, 70, 71, 72, 73, 74, 75, 76, 77, 78, 79, 80, 81, 82, 83, 84, 85, 86, 87, 88, 89, 90, 91, 92, 93, 94, 95, 96, 97, 98] (by decide +kernel) (by decide +kernel)
set_option maxRecDepth 20000 in
theorem gX7_joined_X7_memberOf : GoodIn wsX7_joined (wsV RX7 196 RX7 yX7_memberOf wsX7_memberOf) := goodIn_app (goodIn_of _ (by decide +kernel)) ggX7_joined_X7_memberOf
set_option maxRecDepth 20000 in
theorem ggX7_joined_X7_areKeys : GoodIn wsX7_joined wsX7_areKeys := goodIn_r _ [55, 56, 57, 58, 7, 59, 21, 14, 15, 16, 17, 18, 19, 20, 22, 12, 13, 23, 24, 25, 26, 27, 28, 29, 30, 31, 32, 33, 34, 35, 36, 37, 38, 39, 40, 41, 42, 43, 44, 45, 46, 47, 60, 61, 62, 63, 10, 64, 65, 66, 67, 68, 69, 70, 71, 72, 73, 74, 75, 76, 77, 78, 79, 80, 81, 82, 83, 84, 85, 86, 87, 88, 89, 90, 91, 92, 93, 94, 95, 96, 97, 98] (by decide +kernel) (by decide +kernel)
set_option maxRecDepth 20000 in
theorem gX7_joined_X7_areKeys : GoodIn wsX7_joined (wsV RX7 199 RX7 yX7_areKeys wsX7_areKeys) := goodIn_app (goodIn_of _ (by decide +kernel)) ggX7_joined_X7_areKeys
set_option maxRecDepth 20000 in
theorem ggX7_joined_X7_made : GoodIn wsX7_joined wsX7_made := goodIn_r _ [46, 47, 21, 12, 13, 34, 64, 65, 66, 67, 68, 69, 70, 71, 72, 73, 74, 75, 76, 77, 78, 79, 80, 81, 82, 83, 84, 85, 86, 87, 88, 89, 90, 91, 92, 93, 94, 95, 96, 97, 98] (by decide +kernel) (by decide +kernel)
set_option maxRecDepth 20000 in
theorem gX7_joined_X7_made : GoodIn wsX7_joined (wsV RX7 119 RX7 yX7_made wsX7_made) := goodIn_app (goodIn_of _ (by decide +kernel)) ggX7_joined_X7_made
set_option maxRecDepth 20000 in
theorem ggX7_joined_X7_orRoom : GoodIn wsX7_joined wsX7_orRoom := goodIn_r _ [51, 10, 64, 65, 66, 67, 68, 69, 70, 71, 72, 73, 74, 75, 76, 77, 78, 79, 80, 81, 82, 83, 84, 85, 86, 87, 88, 89, 90, 91, 92, 93, 94, 95, 96, 97, 98] (by decide +kernel) (by decide +kernel)
set_option maxRecDepth 20000 in
theorem gX7_joined_X7_orRoom : GoodIn wsX7_joined (wsV RX7 181 RX7 yX7_orRoom wsX7_orRoom) := goodIn_app (goodIn_of _ (by decide +kernel)) ggX7_joined_X7_orRoom
theorem dX7_joined_0 : decode cX7_joined 0 = .ok (.aload_n 0, 1) := by decide +kernel
theorem dX7_joined_1 : decode cX7_joined 1 = .ok (.aload_n 0, 1) := by decide +kernel
theorem dX7_joined_2 : decode cX7_joined 2 = .ok (.getfield 78, 3) := by decide +kernel
theorem dX7_joined_5 : decode cX7_joined 5 = .ok (.iload_n 1, 1) := by decide +kernel
theorem dX7_joined_6 : decode cX7_joined 6 = .ok (.iaload, 1) := by decide +kernel
theorem dX7_joined_7 : decode cX7_joined 7 = .ok (.iload_n 2, 1) := by decide +kernel
theorem dX7_joined_8 : decode cX7_joined 8 = .ok (.invokevirtual 196, 3) := by decide +kernel
theorem dX7_joined_11 : decode cX7_joined 11 = .ok (.istore 4, 2) := by decide +kernel
theorem dX7_joined_13 : decode cX7_joined 13 = .ok (.iload 4, 2) := by decide +kernel
theorem dX7_joined_15 : decode cX7_joined 15 = .ok (.iconst (-1), 1) := by decide +kernel
theorem dX7_joined_16 : decode cX7_joined 16 = .ok (.if_icmp .ne 5, 3) := by decide +kernel
theorem dX7_joined_19 : decode cX7_joined 19 = .ok (.iconst (-1), 1) := by decide +kernel
theorem dX7_joined_20 : decode cX7_joined 20 = .ok (.ireturn, 1) := by decide +kernel
theorem dX7_joined_21 : decode cX7_joined 21 = .ok (.aload_n 0, 1) := by decide +kernel
theorem dX7_joined_22 : decode cX7_joined 22 = .ok (.aload_n 0, 1) := by decide +kernel
theorem dX7_joined_23 : decode cX7_joined 23 = .ok (.getfield 81, 3) := by decide +kernel
theorem dX7_joined_26 : decode cX7_joined 26 = .ok (.iload_n 1, 1) := by decide +kernel
theorem dX7_joined_27 : decode cX7_joined 27 = .ok (.iaload, 1) := by decide +kernel
theorem dX7_joined_28 : decode cX7_joined 28 = .ok (.iload_n 3, 1) := by decide +kernel
theorem dX7_joined_29 : decode cX7_joined 29 = .ok (.invokevirtual 196, 3) := by decide +kernel
theorem dX7_joined_32 : decode cX7_joined 32 = .ok (.istore 5, 2) := by decide +kernel
theorem dX7_joined_34 : decode cX7_joined 34 = .ok (.iload 5, 2) := by decide +kernel
theorem dX7_joined_36 : decode cX7_joined 36 = .ok (.iconst (-1), 1) := by decide +kernel
theorem dX7_joined_37 : decode cX7_joined 37 = .ok (.if_icmp .eq 14, 3) := by decide +kernel
theorem dX7_joined_40 : decode cX7_joined 40 = .ok (.aload_n 0, 1) := by decide +kernel
theorem dX7_joined_41 : decode cX7_joined 41 = .ok (.iload 4, 2) := by decide +kernel
theorem dX7_joined_43 : decode cX7_joined 43 = .ok (.iload 5, 2) := by decide +kernel
theorem dX7_joined_45 : decode cX7_joined 45 = .ok (.invokevirtual 199, 3) := by decide +kernel
theorem dX7_joined_48 : decode cX7_joined 48 = .ok (.ifCond .ne 5, 3) := by decide +kernel
theorem dX7_joined_51 : decode cX7_joined 51 = .ok (.iconst (-1), 1) := by decide +kernel
theorem dX7_joined_52 : decode cX7_joined 52 = .ok (.ireturn, 1) := by decide +kernel
theorem dX7_joined_53 : decode cX7_joined 53 = .ok (.aload_n 0, 1) := by decide +kernel
theorem dX7_joined_54 : decode cX7_joined 54 = .ok (.aload_n 0, 1) := by decide +kernel
theorem dX7_joined_55 : decode cX7_joined 55 = .ok (.aload_n 0, 1) := by decide +kernel
theorem dX7_joined_56 : decode cX7_joined 56 = .ok (.getfield 84, 3) := by decide +kernel
theorem dX7_joined_59 : decode cX7_joined 59 = .ok (.iload_n 1, 1) := by decide +kernel
theorem dX7_joined_60 : decode cX7_joined 60 = .ok (.iaload, 1) := by decide +kernel
theorem dX7_joined_61 : decode cX7_joined 61 = .ok (.iload_n 2, 1) := by decide +kernel
theorem dX7_joined_62 : decode cX7_joined 62 = .ok (.iload_n 3, 1) := by decide +kernel
theorem dX7_joined_63 : decode cX7_joined 63 = .ok (.invokevirtual 119, 3) := by decide +kernel
theorem dX7_joined_66 : decode cX7_joined 66 = .ok (.invokevirtual 181, 3) := by decide +kernel
theorem dX7_joined_69 : decode cX7_joined 69 = .ok (.ireturn, 1) := by decide +kernel
set_option maxRecDepth 20000 in
theorem ggX7_castOf_X7_goesFor : GoodIn wsX7_castOf wsX7_goesFor := goodIn_r _ [8, 9, 10, 11, 7, 12, 13, 14, 15, 16, 17, 18, 19, 20, 21, 22, 23, 24, 25, 26, 27, 28, 29, 30, 31, 32, 33, 34, 35, 36, 37, 38, 39, 40, 41, 42, 43, 44, 48, 49, 50, 51, 52, 53, 54, 55, 56, 57, 58, 59, 60, 61, 62, 63, 64, 65, 66, 67, 68, 69, 70, 71, 72, 73, 74, 75, 76, 77, 78, 79, 80, 81, 82] (by decide +kernel) (by decide +kernel)
set_option maxRecDepth 20000 in
theorem gX7_castOf_X7_goesFor : GoodIn wsX7_castOf (wsV RX7 147 RX7 yX7_goesFor wsX7_goesFor) := goodIn_app (goodIn_of _ (by decide +kernel)) ggX7_castOf_X7_goesFor
set_option maxRecDepth 20000 in
theorem ggX7_castOf_X7_isIn : GoodIn wsX7_castOf wsX7_isIn := goodIn_r _ [47] (by decide +kernel) (by decide +kernel)
set_option maxRecDepth 20000 in
theorem gX7_castOf_X7_isIn : GoodIn wsX7_castOf (va_wsS RX7 99 yX7_isIn wsX7_isIn) := goodIn_app (goodIn_of _ (by decide +kernel)) ggX7_castOf_X7_isIn
theorem dX7_castOf_0 : decode cX7_castOf 0 = .ok (.aload_n 0, 1) := by decide +kernel
theorem dX7_castOf_1 : decode cX7_castOf 1 = .ok (.getfield 78, 3) := by decide +kernel
theorem dX7_castOf_4 : decode cX7_castOf 4 = .ok (.iload_n 1, 1) := by decide +kernel
theorem dX7_castOf_5 : decode cX7_castOf 5 = .ok (.iaload, 1) := by decide +kernel
theorem dX7_castOf_6 : decode cX7_castOf 6 = .ok (.istore_n 3, 1) := by decide +kernel
theorem dX7_castOf_7 : decode cX7_castOf 7 = .ok (.aload_n 0, 1) := by decide +kernel
theorem dX7_castOf_8 : decode cX7_castOf 8 = .ok (.iload_n 2, 1) := by decide +kernel
theorem dX7_castOf_9 : decode cX7_castOf 9 = .ok (.iload_n 3, 1) := by decide +kernel
theorem dX7_castOf_10 : decode cX7_castOf 10 = .ok (.invokevirtual 147, 3) := by decide +kernel
theorem dX7_castOf_13 : decode cX7_castOf 13 = .ok (.istore 4, 2) := by decide +kernel
theorem dX7_castOf_15 : decode cX7_castOf 15 = .ok (.iload 4, 2) := by decide +kernel
theorem dX7_castOf_17 : decode cX7_castOf 17 = .ok (.ifCond .ne 59, 3) := by decide +kernel
theorem dX7_castOf_20 : decode cX7_castOf 20 = .ok (.aload_n 0, 1) := by decide +kernel
theorem dX7_castOf_21 : decode cX7_castOf 21 = .ok (.iload_n 3, 1) := by decide +kernel
theorem dX7_castOf_22 : decode cX7_castOf 22 = .ok (.iload_n 2, 1) := by decide +kernel
theorem dX7_castOf_23 : decode cX7_castOf 23 = .ok (.invokevirtual 147, 3) := by decide +kernel
theorem dX7_castOf_26 : decode cX7_castOf 26 = .ok (.istore 4, 2) := by decide +kernel
theorem dX7_castOf_28 : decode cX7_castOf 28 = .ok (.iload 4, 2) := by decide +kernel
theorem dX7_castOf_30 : decode cX7_castOf 30 = .ok (.ifCond .ne 25, 3) := by decide +kernel
theorem dX7_castOf_33 : decode cX7_castOf 33 = .ok (.iload_n 2, 1) := by decide +kernel
theorem dX7_castOf_34 : decode cX7_castOf 34 = .ok (.iconst 1, 1) := by decide +kernel
theorem dX7_castOf_35 : decode cX7_castOf 35 = .ok (.iconst 3, 1) := by decide +kernel
theorem dX7_castOf_36 : decode cX7_castOf 36 = .ok (.invokestatic 99, 3) := by decide +kernel
theorem dX7_castOf_39 : decode cX7_castOf 39 = .ok (.ifCond .eq 16, 3) := by decide +kernel
theorem dX7_castOf_42 : decode cX7_castOf 42 = .ok (.iload_n 3, 1) := by decide +kernel
theorem dX7_castOf_43 : decode cX7_castOf 43 = .ok (.iconst 1, 1) := by decide +kernel
theorem dX7_castOf_44 : decode cX7_castOf 44 = .ok (.iconst 3, 1) := by decide +kernel
theorem dX7_castOf_45 : decode cX7_castOf 45 = .ok (.invokestatic 99, 3) := by decide +kernel
theorem dX7_castOf_48 : decode cX7_castOf 48 = .ok (.ifCond .eq 7, 3) := by decide +kernel
theorem dX7_castOf_51 : decode cX7_castOf 51 = .ok (.iconst 1, 1) := by decide +kernel
theorem dX7_castOf_52 : decode cX7_castOf 52 = .ok (.goto 5, 3) := by decide +kernel
theorem dX7_castOf_55 : decode cX7_castOf 55 = .ok (.iload 4, 2) := by decide +kernel
theorem dX7_castOf_57 : decode cX7_castOf 57 = .ok (.istore 4, 2) := by decide +kernel
theorem dX7_castOf_59 : decode cX7_castOf 59 = .ok (.aload_n 0, 1) := by decide +kernel
theorem dX7_castOf_60 : decode cX7_castOf 60 = .ok (.getfield 93, 3) := by decide +kernel
theorem dX7_castOf_63 : decode cX7_castOf 63 = .ok (.iload_n 1, 1) := by decide +kernel
theorem dX7_castOf_64 : decode cX7_castOf 64 = .ok (.iload 4, 2) := by decide +kernel
theorem dX7_castOf_66 : decode cX7_castOf 66 = .ok (.iconst 1, 1) := by decide +kernel
theorem dX7_castOf_67 : decode cX7_castOf 67 = .ok (.if_icmp .ne 7, 3) := by decide +kernel
theorem dX7_castOf_70 : decode cX7_castOf 70 = .ok (.iconst 1, 1) := by decide +kernel
theorem dX7_castOf_71 : decode cX7_castOf 71 = .ok (.goto 4, 3) := by decide +kernel
theorem dX7_castOf_74 : decode cX7_castOf 74 = .ok (.iconst 0, 1) := by decide +kernel
theorem dX7_castOf_75 : decode cX7_castOf 75 = .ok (.bastore, 1) := by decide +kernel
theorem dX7_castOf_76 : decode cX7_castOf 76 = .ok (.iload 4, 2) := by decide +kernel
theorem dX7_castOf_78 : decode cX7_castOf 78 = .ok (.iconst 1, 1) := by decide +kernel
theorem dX7_castOf_79 : decode cX7_castOf 79 = .ok (.if_icmp .ne 5, 3) := by decide +kernel
theorem dX7_castOf_82 : decode cX7_castOf 82 = .ok (.iload_n 3, 1) := by decide +kernel
theorem dX7_castOf_83 : decode cX7_castOf 83 = .ok (.ireturn, 1) := by decide +kernel
theorem dX7_castOf_84 : decode cX7_castOf 84 = .ok (.aload_n 0, 1) := by decide +kernel
theorem dX7_castOf_85 : decode cX7_castOf 85 = .ok (.iload 4, 2) := by decide +kernel
theorem dX7_castOf_87 : decode cX7_castOf 87 = .ok (.bipush (-3), 2) := by decide +kernel
theorem dX7_castOf_89 : decode cX7_castOf 89 = .ok (.if_icmp .ne 8, 3) := by decide +kernel
theorem dX7_castOf_92 : decode cX7_castOf 92 = .ok (.bipush 8, 2) := by decide +kernel
theorem dX7_castOf_94 : decode cX7_castOf 94 = .ok (.goto 5, 3) := by decide +kernel
theorem dX7_castOf_97 : decode cX7_castOf 97 = .ok (.bipush 6, 2) := by decide +kernel
theorem dX7_castOf_99 : decode cX7_castOf 99 = .ok (.putfield 159, 3) := by decide +kernel
theorem dX7_castOf_102 : decode cX7_castOf 102 = .ok (.iconst (-1), 1) := by decide +kernel
theorem dX7_castOf_103 : decode cX7_castOf 103 = .ok (.ireturn, 1) := by decide +kernel
set_option maxRecDepth 20000 in
theorem ggX7_work_X7_isIn : GoodIn wsX7_work wsX7_isIn := goodIn_r _ [10] (by decide +kernel) (by decide +kernel)
set_option maxRecDepth 20000 in
theorem gX7_work_X7_isIn : GoodIn wsX7_work (va_wsS RX7 99 yX7_isIn wsX7_isIn) := goodIn_app (goodIn_of _ (by decide +kernel)) ggX7_work_X7_isIn
set_option maxRecDepth 20000 in
theorem ggX7_work_X7_putTo : GoodIn wsX7_work wsX7_putTo := goodIn_r _ [14, 15, 16, 17, 18, 5, 19, 20, 21, 22, 23, 9, 24, 25, 26, 27, 28, 29, 30, 31, 32, 33, 34, 35, 36, 37, 38, 39, 40, 41, 42, 43, 44, 45, 46, 47, 48, 49, 50, 51, 52, 53, 54, 55, 56, 57, 58, 59, 60, 61, 62, 63, 64, 65, 66, 67, 68, 69, 70, 71, 72, 73, 74, 75, 76, 77, 78, 79, 80, 81, 82, 83, 84, 85, 86, 112, 113, 114, 115, 116, 117, 118, 119, 120, 121, 122, 123, 124, 125, 126, 127, 128, 129, 130, 131, 132, 133, 134, 135, 136, 137, 138, 139, 140, 141, 142, 143, 144, 145, 146] (by decide +kernel) (by decide +kernel)
set_option maxRecDepth 20000 in
theorem gX7_work_X7_putTo : GoodIn wsX7_work (wsV RX7 202 RX7 yX7_putTo wsX7_putTo) := goodIn_app (goodIn_of _ (by decide +kernel)) ggX7_work_X7_putTo
set_option maxRecDepth 20000 in
theorem ggX7_work_X7_memberOf : GoodIn wsX7_work wsX7_memberOf := goodIn_r _ [90, 91, 5, 92, 38, 39, 26, 27, 9, 28, 33, 34, 35, 36, 25, 37, 40, 41, 42, 43, 44, 45, 46, 47, 48, 49, 50, 19, 51, 52, 53, 54, 55, 56, 57, 58, 59, 60, 61, 62, 63, 83, 84, 85, 86, 112, 113, 114, 115, 116, 117, 118, 119, 120, 121, 122, 123, 124, 125, 126, 127, 128, 129, 130, 131, 132, 133, 134, 135, 136, 137, 138, 139, 140, 141, 142, 143, 144, 145, 146] (by decide +kernel) (by decide +kernel)
set_option maxRecDepth 20000 in
theorem gX7_work_X7_memberOf : GoodIn wsX7_work (wsV RX7 196 RX7 yX7_memberOf wsX7_memberOf) := goodIn_app (goodIn_of _ (by decide +kernel)) ggX7_work_X7_memberOf
set_option maxRecDepth 20000 in
theorem ggX7_work_X7_commonOf : GoodIn wsX7_work wsX7_commonOf := goodIn_r _ [96, 25, 37, 26, 27, 9, 28, 40, 41, 42, 43, 33, 34, 35, 36, 38, 39, 44, 45, 46, 47, 48, 49, 50, 19, 51, 52, 53, 54, 55, 56, 57, 58, 59, 60, 61, 62, 63, 112, 113, 114, 115, 116, 117, 118, 119, 120, 121, 122, 123, 124, 125, 126, 127, 128, 129, 130, 131, 132, 133, 134, 135, 136, 137, 138, 139, 140, 141, 142, 143, 144, 145, 146] (by decide +kernel) (by decide +kernel)
set_option maxRecDepth 20000 in
theorem gX7_work_X7_commonOf : GoodIn wsX7_work (wsV RX7 150 RX7 yX7_commonOf wsX7_commonOf) := goodIn_app (goodIn_of _ (by decide +kernel)) ggX7_work_X7_commonOf
set_option maxRecDepth 20000 in
theorem ggX7_work_X7_joined : GoodIn wsX7_work wsX7_joined := goodIn_r _ [100, 6, 101, 102, 87, 88, 89, 9, 90, 91, 5, 92, 38, 39, 26, 27, 28, 33, 34, 35, 36, 25, 37, 40, 41, 42, 43, 44, 45, 46, 47, 48, 49, 50, 19, 51, 52, 53, 54, 55, 56, 57, 58, 59, 60, 61, 62, 63, 83, 84, 85, 86, 103, 104, 105, 106, 29, 30, 31, 32, 64, 65, 66, 67, 112, 113, 114, 115, 116, 117, 118, 119, 120, 121, 122, 123, 124, 125, 126, 127, 128, 129, 130, 131, 132, 133, 134, 135, 136, 137, 138, 139, 140, 141, 142, 143, 144, 145, 146] (by decide +kernel) (by decide +kernel)
set_option maxRecDepth 20000 in
theorem gX7_work_X7_joined : GoodIn wsX7_work (wsV RX7 205 RX7 yX7_joined wsX7_joined) := goodIn_app (goodIn_of _ (by decide +kernel)) ggX7_work_X7_joined
set_option maxRecDepth 20000 in
theorem ggX7_work_X7_castOf : GoodIn wsX7_work wsX7_castOf := goodIn_r _ [110, 6, 111, 5, 29, 30, 31, 9, 32, 25, 26, 27, 28, 33, 34, 35, 36, 37, 38, 39, 40, 41, 42, 43, 44, 45, 46, 47, 48, 49, 50, 19, 51, 52, 53, 54, 55, 56, 57, 58, 59, 60, 61, 62, 63, 7, 8, 10, 112, 113, 114, 115, 116, 117, 118, 119, 120, 121, 122, 123, 124, 125, 126, 127, 128, 129, 130, 131, 132, 133, 134, 135, 136, 137, 138, 139, 140, 141, 142, 143, 144, 145, 146] (by decide +kernel) (by decide +kernel)
set_option maxRecDepth 20000 in
theorem gX7_work_X7_castOf : GoodIn wsX7_work (wsV RX7 208 RX7 yX7_castOf wsX7_castOf) := goodIn_app (goodIn_of _ (by decide +kernel)) ggX7_work_X7_castOf
theorem dX7_work_0 : decode cX7_work 0 = .ok (.aload_n 0, 1) := by decide +kernel
theorem dX7_work_1 : decode cX7_work 1 = .ok (.getfield 69, 3) := by decide +kernel
theorem dX7_work_4 : decode cX7_work 4 = .ok (.iload_n 1, 1) := by decide +kernel
theorem dX7_work_5 : decode cX7_work 5 = .ok (.iaload, 1) := by decide +kernel
theorem dX7_work_6 : decode cX7_work 6 = .ok (.ifCond .ne 7, 3) := by decide +kernel
theorem dX7_work_9 : decode cX7_work 9 = .ok (.iconst (-1), 1) := by decide +kernel
theorem dX7_work_10 : decode cX7_work 10 = .ok (.goto 14, 3) := by decide +kernel
theorem dX7_work_13 : decode cX7_work 13 = .ok (.aload_n 0, 1) := by decide +kernel
theorem dX7_work_14 : decode cX7_work 14 = .ok (.getfield 87, 3) := by decide +kernel
theorem dX7_work_17 : decode cX7_work 17 = .ok (.aload_n 0, 1) := by decide +kernel
theorem dX7_work_18 : decode cX7_work 18 = .ok (.getfield 72, 3) := by decide +kernel
theorem dX7_work_21 : decode cX7_work 21 = .ok (.iload_n 1, 1) := by decide +kernel
theorem dX7_work_22 : decode cX7_work 22 = .ok (.iaload, 1) := by decide +kernel
theorem dX7_work_23 : decode cX7_work 23 = .ok (.iaload, 1) := by decide +kernel
theorem dX7_work_24 : decode cX7_work 24 = .ok (.istore_n 2, 1) := by decide +kernel
theorem dX7_work_25 : decode cX7_work 25 = .ok (.aload_n 0, 1) := by decide +kernel
theorem dX7_work_26 : decode cX7_work 26 = .ok (.getfield 69, 3) := by decide +kernel
theorem dX7_work_29 : decode cX7_work 29 = .ok (.iload_n 1, 1) := by decide +kernel
theorem dX7_work_30 : decode cX7_work 30 = .ok (.iaload, 1) := by decide +kernel
theorem dX7_work_31 : decode cX7_work 31 = .ok (.iconst 4, 1) := by decide +kernel
theorem dX7_work_32 : decode cX7_work 32 = .ok (.bipush 6, 2) := by decide +kernel
theorem dX7_work_34 : decode cX7_work 34 = .ok (.invokestatic 99, 3) := by decide +kernel
theorem dX7_work_37 : decode cX7_work 37 = .ok (.istore_n 3, 1) := by decide +kernel
theorem dX7_work_38 : decode cX7_work 38 = .ok (.iload_n 3, 1) := by decide +kernel
theorem dX7_work_39 : decode cX7_work 39 = .ok (.ifCond .eq 17, 3) := by decide +kernel
theorem dX7_work_42 : decode cX7_work 42 = .ok (.aload_n 0, 1) := by decide +kernel
theorem dX7_work_43 : decode cX7_work 43 = .ok (.getfield 87, 3) := by decide +kernel
theorem dX7_work_46 : decode cX7_work 46 = .ok (.aload_n 0, 1) := by decide +kernel
theorem dX7_work_47 : decode cX7_work 47 = .ok (.getfield 75, 3) := by decide +kernel
theorem dX7_work_50 : decode cX7_work 50 = .ok (.iload_n 1, 1) := by decide +kernel
theorem dX7_work_51 : decode cX7_work 51 = .ok (.iaload, 1) := by decide +kernel
theorem dX7_work_52 : decode cX7_work 52 = .ok (.iaload, 1) := by decide +kernel
theorem dX7_work_53 : decode cX7_work 53 = .ok (.goto 4, 3) := by decide +kernel
theorem dX7_work_56 : decode cX7_work 56 = .ok (.iconst (-1), 1) := by decide +kernel
theorem dX7_work_57 : decode cX7_work 57 = .ok (.istore 4, 2) := by decide +kernel
theorem dX7_work_59 : decode cX7_work 59 = .ok (.aload_n 0, 1) := by decide +kernel
theorem dX7_work_60 : decode cX7_work 60 = .ok (.getfield 69, 3) := by decide +kernel
theorem dX7_work_63 : decode cX7_work 63 = .ok (.iload_n 1, 1) := by decide +kernel
theorem dX7_work_64 : decode cX7_work 64 = .ok (.iaload, 1) := by decide +kernel
theorem dX7_work_65 : decode cX7_work 65 = .ok (.ifCond .le 8, 3) := by decide +kernel
theorem dX7_work_68 : decode cX7_work 68 = .ok (.iload_n 2, 1) := by decide +kernel
theorem dX7_work_69 : decode cX7_work 69 = .ok (.iconst (-1), 1) := by decide +kernel
theorem dX7_work_70 : decode cX7_work 70 = .ok (.if_icmp .eq 13, 3) := by decide +kernel
theorem dX7_work_73 : decode cX7_work 73 = .ok (.iload_n 3, 1) := by decide +kernel
theorem dX7_work_74 : decode cX7_work 74 = .ok (.ifCond .eq 17, 3) := by decide +kernel
theorem dX7_work_77 : decode cX7_work 77 = .ok (.iload 4, 2) := by decide +kernel
theorem dX7_work_79 : decode cX7_work 79 = .ok (.iconst (-1), 1) := by decide +kernel
theorem dX7_work_80 : decode cX7_work 80 = .ok (.if_icmp .ne 11, 3) := by decide +kernel
theorem dX7_work_83 : decode cX7_work 83 = .ok (.aload_n 0, 1) := by decide +kernel
theorem dX7_work_84 : decode cX7_work 84 = .ok (.bipush 7, 2) := by decide +kernel
theorem dX7_work_86 : decode cX7_work 86 = .ok (.putfield 159, 3) := by decide +kernel
theorem dX7_work_89 : decode cX7_work 89 = .ok (.iconst (-1), 1) := by decide +kernel
theorem dX7_work_90 : decode cX7_work 90 = .ok (.ireturn, 1) := by decide +kernel
theorem dX7_work_91 : decode cX7_work 91 = .ok (.aload_n 0, 1) := by decide +kernel
theorem dX7_work_92 : decode cX7_work 92 = .ok (.getfield 69, 3) := by decide +kernel
theorem dX7_work_95 : decode cX7_work 95 = .ok (.iload_n 1, 1) := by decide +kernel
theorem dX7_work_96 : decode cX7_work 96 = .ok (.iaload, 1) := by decide +kernel
theorem dX7_work_97 : decode cX7_work 97 = .ok (.tableswitch 178 0 6 #[43, 50, 63, 104, 116, 155, 169], 43) := by decide +kernel
theorem dX7_work_140 : decode cX7_work 140 = .ok (.aload_n 0, 1) := by decide +kernel
theorem dX7_work_141 : decode cX7_work 141 = .ok (.getfield 78, 3) := by decide +kernel
theorem dX7_work_144 : decode cX7_work 144 = .ok (.iload_n 1, 1) := by decide +kernel
theorem dX7_work_145 : decode cX7_work 145 = .ok (.iaload, 1) := by decide +kernel
theorem dX7_work_146 : decode cX7_work 146 = .ok (.ireturn, 1) := by decide +kernel
theorem dX7_work_147 : decode cX7_work 147 = .ok (.aload_n 0, 1) := by decide +kernel
theorem dX7_work_148 : decode cX7_work 148 = .ok (.aload_n 0, 1) := by decide +kernel
theorem dX7_work_149 : decode cX7_work 149 = .ok (.getfield 78, 3) := by decide +kernel
theorem dX7_work_152 : decode cX7_work 152 = .ok (.iload_n 1, 1) := by decide +kernel
theorem dX7_work_153 : decode cX7_work 153 = .ok (.iaload, 1) := by decide +kernel
theorem dX7_work_154 : decode cX7_work 154 = .ok (.iload_n 2, 1) := by decide +kernel
theorem dX7_work_155 : decode cX7_work 155 = .ok (.iconst (-1), 1) := by decide +kernel
theorem dX7_work_156 : decode cX7_work 156 = .ok (.invokevirtual 202, 3) := by decide +kernel
theorem dX7_work_159 : decode cX7_work 159 = .ok (.ireturn, 1) := by decide +kernel
theorem dX7_work_160 : decode cX7_work 160 = .ok (.aload_n 0, 1) := by decide +kernel
theorem dX7_work_161 : decode cX7_work 161 = .ok (.aload_n 0, 1) := by decide +kernel
theorem dX7_work_162 : decode cX7_work 162 = .ok (.getfield 78, 3) := by decide +kernel
theorem dX7_work_165 : decode cX7_work 165 = .ok (.iload_n 1, 1) := by decide +kernel
theorem dX7_work_166 : decode cX7_work 166 = .ok (.iaload, 1) := by decide +kernel
theorem dX7_work_167 : decode cX7_work 167 = .ok (.iload_n 2, 1) := by decide +kernel
theorem dX7_work_168 : decode cX7_work 168 = .ok (.iconst (-1), 1) := by decide +kernel
theorem dX7_work_169 : decode cX7_work 169 = .ok (.invokevirtual 202, 3) := by decide +kernel
theorem dX7_work_172 : decode cX7_work 172 = .ok (.istore 5, 2) := by decide +kernel
theorem dX7_work_174 : decode cX7_work 174 = .ok (.iload 5, 2) := by decide +kernel
theorem dX7_work_176 : decode cX7_work 176 = .ok (.iconst (-1), 1) := by decide +kernel
theorem dX7_work_177 : decode cX7_work 177 = .ok (.if_icmp .eq 13, 3) := by decide +kernel
theorem dX7_work_180 : decode cX7_work 180 = .ok (.iload 5, 2) := by decide +kernel
theorem dX7_work_182 : decode cX7_work 182 = .ok (.ifCond .eq 8, 3) := by decide +kernel
theorem dX7_work_185 : decode cX7_work 185 = .ok (.aload_n 0, 1) := by decide +kernel
theorem dX7_work_186 : decode cX7_work 186 = .ok (.iconst 1, 1) := by decide +kernel
theorem dX7_work_187 : decode cX7_work 187 = .ok (.putfield 159, 3) := by decide +kernel
theorem dX7_work_190 : decode cX7_work 190 = .ok (.iload 5, 2) := by decide +kernel
theorem dX7_work_192 : decode cX7_work 192 = .ok (.ifCond .ne 7, 3) := by decide +kernel
theorem dX7_work_195 : decode cX7_work 195 = .ok (.iload_n 2, 1) := by decide +kernel
theorem dX7_work_196 : decode cX7_work 196 = .ok (.goto 4, 3) := by decide +kernel
theorem dX7_work_199 : decode cX7_work 199 = .ok (.iconst (-1), 1) := by decide +kernel
theorem dX7_work_200 : decode cX7_work 200 = .ok (.ireturn, 1) := by decide +kernel
theorem dX7_work_201 : decode cX7_work 201 = .ok (.aload_n 0, 1) := by decide +kernel
theorem dX7_work_202 : decode cX7_work 202 = .ok (.aload_n 0, 1) := by decide +kernel
theorem dX7_work_203 : decode cX7_work 203 = .ok (.getfield 78, 3) := by decide +kernel
theorem dX7_work_206 : decode cX7_work 206 = .ok (.iload_n 1, 1) := by decide +kernel
theorem dX7_work_207 : decode cX7_work 207 = .ok (.iaload, 1) := by decide +kernel
theorem dX7_work_208 : decode cX7_work 208 = .ok (.iload_n 2, 1) := by decide +kernel
theorem dX7_work_209 : decode cX7_work 209 = .ok (.invokevirtual 196, 3) := by decide +kernel
theorem dX7_work_212 : decode cX7_work 212 = .ok (.ireturn, 1) := by decide +kernel
theorem dX7_work_213 : decode cX7_work 213 = .ok (.aload_n 0, 1) := by decide +kernel
theorem dX7_work_214 : decode cX7_work 214 = .ok (.iload_n 2, 1) := by decide +kernel
theorem dX7_work_215 : decode cX7_work 215 = .ok (.iload 4, 2) := by decide +kernel
theorem dX7_work_217 : decode cX7_work 217 = .ok (.invokevirtual 150, 3) := by decide +kernel
theorem dX7_work_220 : decode cX7_work 220 = .ok (.istore 5, 2) := by decide +kernel
theorem dX7_work_222 : decode cX7_work 222 = .ok (.aload_n 0, 1) := by decide +kernel
theorem dX7_work_223 : decode cX7_work 223 = .ok (.iload 5, 2) := by decide +kernel
theorem dX7_work_225 : decode cX7_work 225 = .ok (.bipush (-3), 2) := by decide +kernel
theorem dX7_work_227 : decode cX7_work 227 = .ok (.if_icmp .ne 8, 3) := by decide +kernel
theorem dX7_work_230 : decode cX7_work 230 = .ok (.bipush 8, 2) := by decide +kernel
theorem dX7_work_232 : decode cX7_work 232 = .ok (.goto 5, 3) := by decide +kernel
theorem dX7_work_235 : decode cX7_work 235 = .ok (.bipush 6, 2) := by decide +kernel
theorem dX7_work_237 : decode cX7_work 237 = .ok (.putfield 159, 3) := by decide +kernel
theorem dX7_work_240 : decode cX7_work 240 = .ok (.iload 5, 2) := by decide +kernel
theorem dX7_work_242 : decode cX7_work 242 = .ok (.ifCond .ge 7, 3) := by decide +kernel
theorem dX7_work_245 : decode cX7_work 245 = .ok (.iconst (-1), 1) := by decide +kernel
theorem dX7_work_246 : decode cX7_work 246 = .ok (.goto 5, 3) := by decide +kernel
theorem dX7_work_249 : decode cX7_work 249 = .ok (.iload 5, 2) := by decide +kernel
theorem dX7_work_251 : decode cX7_work 251 = .ok (.ireturn, 1) := by decide +kernel
theorem dX7_work_252 : decode cX7_work 252 = .ok (.aload_n 0, 1) := by decide +kernel
theorem dX7_work_253 : decode cX7_work 253 = .ok (.aload_n 0, 1) := by decide +kernel
theorem dX7_work_254 : decode cX7_work 254 = .ok (.getfield 78, 3) := by decide +kernel
theorem dX7_work_257 : decode cX7_work 257 = .ok (.iload_n 1, 1) := by decide +kernel
theorem dX7_work_258 : decode cX7_work 258 = .ok (.iaload, 1) := by decide +kernel
theorem dX7_work_259 : decode cX7_work 259 = .ok (.iload_n 2, 1) := by decide +kernel
theorem dX7_work_260 : decode cX7_work 260 = .ok (.iload 4, 2) := by decide +kernel
theorem dX7_work_262 : decode cX7_work 262 = .ok (.invokevirtual 202, 3) := by decide +kernel
theorem dX7_work_265 : decode cX7_work 265 = .ok (.ireturn, 1) := by decide +kernel
theorem dX7_work_266 : decode cX7_work 266 = .ok (.aload_n 0, 1) := by decide +kernel
theorem dX7_work_267 : decode cX7_work 267 = .ok (.iload_n 1, 1) := by decide +kernel
theorem dX7_work_268 : decode cX7_work 268 = .ok (.iload_n 2, 1) := by decide +kernel
theorem dX7_work_269 : decode cX7_work 269 = .ok (.iload 4, 2) := by decide +kernel
theorem dX7_work_271 : decode cX7_work 271 = .ok (.invokevirtual 205, 3) := by decide +kernel
theorem dX7_work_274 : decode cX7_work 274 = .ok (.ireturn, 1) := by decide +kernel
theorem dX7_work_275 : decode cX7_work 275 = .ok (.aload_n 0, 1) := by decide +kernel
theorem dX7_work_276 : decode cX7_work 276 = .ok (.iload_n 1, 1) := by decide +kernel
theorem dX7_work_277 : decode cX7_work 277 = .ok (.iload_n 2, 1) := by decide +kernel
theorem dX7_work_278 : decode cX7_work 278 = .ok (.invokevirtual 208, 3) := by decide +kernel
theorem dX7_work_281 : decode cX7_work 281 = .ok (.ireturn, 1) := by decide +kernel
set_option maxRecDepth 20000 in
theorem ggX7_flow_X7_work : GoodIn wsX7_flow wsX7_work := goodIn_r _ [13, 6, 4, 14, 15, 3, 16, 17, 18, 12, 19, 20, 21, 22, 23, 8, 24, 25, 26, 27, 28, 29, 30, 31, 32, 33, 34, 35, 36, 37, 38, 39, 40, 41, 42, 43, 44, 45, 46, 47, 48, 49, 50, 51, 52, 53, 54, 55, 56, 57, 58, 59, 60, 61, 62, 63, 64, 65, 66, 67, 68, 69, 70, 71, 72, 73, 74, 75, 76, 77, 78, 79, 80, 81, 82, 83, 84, 85, 86, 87, 88, 89, 90, 91, 92, 93, 94, 95, 96, 97, 98, 99, 100, 101, 102, 103, 104, 105, 106, 107, 108, 109, 110, 111, 112, 113, 114, 115, 116, 117, 118, 2, 119, 120, 121, 122, 123, 124, 125, 126, 127, 128, 129, 130, 131, 132, 133, 134, 135, 136, 137, 138, 139, 140, 141, 142, 143, 144, 145, 146, 147, 148, 149, 150, 151, 152, 153] (by decide +kernel) (by decide +kernel)
set_option maxRecDepth 20000 in
theorem gX7_flow_X7_work : GoodIn wsX7_flow (wsV RX7 211 RX7 yX7_work wsX7_work) := goodIn_app (goodIn_of _ (by decide +kernel)) ggX7_flow_X7_work
theorem dX7_flow_0 : decode cX7_flow 0 = .ok (.iconst 0, 1) := by decide +kernel
theorem dX7_flow_1 : decode cX7_flow 1 = .ok (.istore_n 1, 1) := by decide +kernel
theorem dX7_flow_2 : decode cX7_flow 2 = .ok (.iconst 0, 1) := by decide +kernel
theorem dX7_flow_3 : decode cX7_flow 3 = .ok (.istore_n 2, 1) := by decide +kernel
theorem dX7_flow_4 : decode cX7_flow 4 = .ok (.iload_n 2, 1) := by decide +kernel
theorem dX7_flow_5 : decode cX7_flow 5 = .ok (.aload_n 0, 1) := by decide +kernel
theorem dX7_flow_6 : decode cX7_flow 6 = .ok (.getfield 189, 3) := by decide +kernel
theorem dX7_flow_9 : decode cX7_flow 9 = .ok (.if_icmp .ge 150, 3) := by decide +kernel
theorem dX7_flow_12 : decode cX7_flow 12 = .ok (.aload_n 0, 1) := by decide +kernel
theorem dX7_flow_13 : decode cX7_flow 13 = .ok (.getfield 93, 3) := by decide +kernel
theorem dX7_flow_16 : decode cX7_flow 16 = .ok (.iload_n 2, 1) := by decide +kernel
theorem dX7_flow_17 : decode cX7_flow 17 = .ok (.iconst 0, 1) := by decide +kernel
theorem dX7_flow_18 : decode cX7_flow 18 = .ok (.bastore, 1) := by decide +kernel
theorem dX7_flow_19 : decode cX7_flow 19 = .ok (.aload_n 0, 1) := by decide +kernel
theorem dX7_flow_20 : decode cX7_flow 20 = .ok (.iconst 0, 1) := by decide +kernel
theorem dX7_flow_21 : decode cX7_flow 21 = .ok (.putfield 159, 3) := by decide +kernel
theorem dX7_flow_24 : decode cX7_flow 24 = .ok (.aload_n 0, 1) := by decide +kernel
theorem dX7_flow_25 : decode cX7_flow 25 = .ok (.iload_n 2, 1) := by decide +kernel
theorem dX7_flow_26 : decode cX7_flow 26 = .ok (.invokevirtual 211, 3) := by decide +kernel
theorem dX7_flow_29 : decode cX7_flow 29 = .ok (.istore_n 3, 1) := by decide +kernel
theorem dX7_flow_30 : decode cX7_flow 30 = .ok (.aload_n 0, 1) := by decide +kernel
theorem dX7_flow_31 : decode cX7_flow 31 = .ok (.getfield 87, 3) := by decide +kernel
theorem dX7_flow_34 : decode cX7_flow 34 = .ok (.iload_n 2, 1) := by decide +kernel
theorem dX7_flow_35 : decode cX7_flow 35 = .ok (.iload_n 3, 1) := by decide +kernel
theorem dX7_flow_36 : decode cX7_flow 36 = .ok (.iastore, 1) := by decide +kernel
theorem dX7_flow_37 : decode cX7_flow 37 = .ok (.aload_n 0, 1) := by decide +kernel
theorem dX7_flow_38 : decode cX7_flow 38 = .ok (.getfield 90, 3) := by decide +kernel
theorem dX7_flow_41 : decode cX7_flow 41 = .ok (.iload_n 2, 1) := by decide +kernel
theorem dX7_flow_42 : decode cX7_flow 42 = .ok (.iload_n 3, 1) := by decide +kernel
theorem dX7_flow_43 : decode cX7_flow 43 = .ok (.iconst (-1), 1) := by decide +kernel
theorem dX7_flow_44 : decode cX7_flow 44 = .ok (.if_icmp .ne 10, 3) := by decide +kernel
theorem dX7_flow_47 : decode cX7_flow 47 = .ok (.aload_n 0, 1) := by decide +kernel
theorem dX7_flow_48 : decode cX7_flow 48 = .ok (.getfield 159, 3) := by decide +kernel
theorem dX7_flow_51 : decode cX7_flow 51 = .ok (.goto 4, 3) := by decide +kernel
theorem dX7_flow_54 : decode cX7_flow 54 = .ok (.iconst 0, 1) := by decide +kernel
theorem dX7_flow_55 : decode cX7_flow 55 = .ok (.iastore, 1) := by decide +kernel
theorem dX7_flow_56 : decode cX7_flow 56 = .ok (.iload_n 3, 1) := by decide +kernel
theorem dX7_flow_57 : decode cX7_flow 57 = .ok (.iconst (-1), 1) := by decide +kernel
theorem dX7_flow_58 : decode cX7_flow 58 = .ok (.if_icmp .eq 37, 3) := by decide +kernel
theorem dX7_flow_61 : decode cX7_flow 61 = .ok (.aload_n 0, 1) := by decide +kernel
theorem dX7_flow_62 : decode cX7_flow 62 = .ok (.getfield 69, 3) := by decide +kernel
theorem dX7_flow_65 : decode cX7_flow 65 = .ok (.iload_n 2, 1) := by decide +kernel
theorem dX7_flow_66 : decode cX7_flow 66 = .ok (.iaload, 1) := by decide +kernel
theorem dX7_flow_67 : decode cX7_flow 67 = .ok (.iconst 1, 1) := by decide +kernel
theorem dX7_flow_68 : decode cX7_flow 68 = .ok (.if_icmp .eq 23, 3) := by decide +kernel
theorem dX7_flow_71 : decode cX7_flow 71 = .ok (.aload_n 0, 1) := by decide +kernel
theorem dX7_flow_72 : decode cX7_flow 72 = .ok (.getfield 69, 3) := by decide +kernel
theorem dX7_flow_75 : decode cX7_flow 75 = .ok (.iload_n 2, 1) := by decide +kernel
theorem dX7_flow_76 : decode cX7_flow 76 = .ok (.iaload, 1) := by decide +kernel
theorem dX7_flow_77 : decode cX7_flow 77 = .ok (.iconst 2, 1) := by decide +kernel
theorem dX7_flow_78 : decode cX7_flow 78 = .ok (.if_icmp .eq 13, 3) := by decide +kernel
theorem dX7_flow_81 : decode cX7_flow 81 = .ok (.aload_n 0, 1) := by decide +kernel
theorem dX7_flow_82 : decode cX7_flow 82 = .ok (.getfield 69, 3) := by decide +kernel
theorem dX7_flow_85 : decode cX7_flow 85 = .ok (.iload_n 2, 1) := by decide +kernel
theorem dX7_flow_86 : decode cX7_flow 86 = .ok (.iaload, 1) := by decide +kernel
theorem dX7_flow_87 : decode cX7_flow 87 = .ok (.iconst 5, 1) := by decide +kernel
theorem dX7_flow_88 : decode cX7_flow 88 = .ok (.if_icmp .ne 7, 3) := by decide +kernel
theorem dX7_flow_91 : decode cX7_flow 91 = .ok (.iconst 1, 1) := by decide +kernel
theorem dX7_flow_92 : decode cX7_flow 92 = .ok (.goto 4, 3) := by decide +kernel
theorem dX7_flow_95 : decode cX7_flow 95 = .ok (.iconst 0, 1) := by decide +kernel
theorem dX7_flow_96 : decode cX7_flow 96 = .ok (.istore 4, 2) := by decide +kernel
theorem dX7_flow_98 : decode cX7_flow 98 = .ok (.iconst 0, 1) := by decide +kernel
theorem dX7_flow_99 : decode cX7_flow 99 = .ok (.istore 5, 2) := by decide +kernel
theorem dX7_flow_101 : decode cX7_flow 101 = .ok (.iload 5, 2) := by decide +kernel
theorem dX7_flow_103 : decode cX7_flow 103 = .ok (.iconst 2, 1) := by decide +kernel
theorem dX7_flow_104 : decode cX7_flow 104 = .ok (.if_icmp .ge 36, 3) := by decide +kernel
theorem dX7_flow_107 : decode cX7_flow 107 = .ok (.aload_n 0, 1) := by decide +kernel
theorem dX7_flow_108 : decode cX7_flow 108 = .ok (.getfield 96, 3) := by decide +kernel
theorem dX7_flow_111 : decode cX7_flow 111 = .ok (.iconst 2, 1) := by decide +kernel
theorem dX7_flow_112 : decode cX7_flow 112 = .ok (.iload_n 2, 1) := by decide +kernel
theorem dX7_flow_113 : decode cX7_flow 113 = .ok (.imul, 1) := by decide +kernel
theorem dX7_flow_114 : decode cX7_flow 114 = .ok (.iload 5, 2) := by decide +kernel
theorem dX7_flow_116 : decode cX7_flow 116 = .ok (.iadd, 1) := by decide +kernel
theorem dX7_flow_117 : decode cX7_flow 117 = .ok (.iload 4, 2) := by decide +kernel
theorem dX7_flow_119 : decode cX7_flow 119 = .ok (.ifCond .eq 13, 3) := by decide +kernel
theorem dX7_flow_122 : decode cX7_flow 122 = .ok (.aload_n 0, 1) := by decide +kernel
theorem dX7_flow_123 : decode cX7_flow 123 = .ok (.getfield 59, 3) := by decide +kernel
theorem dX7_flow_126 : decode cX7_flow 126 = .ok (.iload 5, 2) := by decide +kernel
theorem dX7_flow_128 : decode cX7_flow 128 = .ok (.iaload, 1) := by decide +kernel
theorem dX7_flow_129 : decode cX7_flow 129 = .ok (.goto 4, 3) := by decide +kernel
theorem dX7_flow_132 : decode cX7_flow 132 = .ok (.iconst (-1), 1) := by decide +kernel
theorem dX7_flow_133 : decode cX7_flow 133 = .ok (.iastore, 1) := by decide +kernel
theorem dX7_flow_134 : decode cX7_flow 134 = .ok (.iinc 5 1, 3) := by decide +kernel
theorem dX7_flow_137 : decode cX7_flow 137 = .ok (.goto (-36), 3) := by decide +kernel
theorem dX7_flow_140 : decode cX7_flow 140 = .ok (.iload_n 1, 1) := by decide +kernel
theorem dX7_flow_141 : decode cX7_flow 141 = .ok (.iload_n 3, 1) := by decide +kernel
theorem dX7_flow_142 : decode cX7_flow 142 = .ok (.iconst (-1), 1) := by decide +kernel
theorem dX7_flow_143 : decode cX7_flow 143 = .ok (.if_icmp .ne 7, 3) := by decide +kernel
theorem dX7_flow_146 : decode cX7_flow 146 = .ok (.iconst 0, 1) := by decide +kernel
theorem dX7_flow_147 : decode cX7_flow 147 = .ok (.goto 4, 3) := by decide +kernel
theorem dX7_flow_150 : decode cX7_flow 150 = .ok (.iconst 1, 1) := by decide +kernel
theorem dX7_flow_151 : decode cX7_flow 151 = .ok (.iadd, 1) := by decide +kernel
theorem dX7_flow_152 : decode cX7_flow 152 = .ok (.istore_n 1, 1) := by decide +kernel
theorem dX7_flow_153 : decode cX7_flow 153 = .ok (.iinc 2 1, 3) := by decide +kernel
theorem dX7_flow_156 : decode cX7_flow 156 = .ok (.goto (-152), 3) := by decide +kernel
theorem dX7_flow_159 : decode cX7_flow 159 = .ok (.iload_n 1, 1) := by decide +kernel
theorem dX7_flow_160 : decode cX7_flow 160 = .ok (.ireturn, 1) := by decide +kernel
set_option maxRecDepth 20000 in
theorem ggX7_isOperator_X7_isIn : GoodIn wsX7_isOperator wsX7_isIn := goodIn_r _ [5] (by decide +kernel) (by decide +kernel)
set_option maxRecDepth 20000 in
theorem gX7_isOperator_X7_isIn : GoodIn wsX7_isOperator (va_wsS RX7 99 yX7_isIn wsX7_isIn) := goodIn_app (goodIn_of _ (by decide +kernel)) ggX7_isOperator_X7_isIn
theorem dX7_isOperator_0 : decode cX7_isOperator 0 = .ok (.iload_n 1, 1) := by decide +kernel
theorem dX7_isOperator_1 : decode cX7_isOperator 1 = .ok (.iconst 0, 1) := by decide +kernel
theorem dX7_isOperator_2 : decode cX7_isOperator 2 = .ok (.aload_n 0, 1) := by decide +kernel
theorem dX7_isOperator_3 : decode cX7_isOperator 3 = .ok (.getfield 189, 3) := by decide +kernel
theorem dX7_isOperator_6 : decode cX7_isOperator 6 = .ok (.iconst 1, 1) := by decide +kernel
theorem dX7_isOperator_7 : decode cX7_isOperator 7 = .ok (.isub, 1) := by decide +kernel
theorem dX7_isOperator_8 : decode cX7_isOperator 8 = .ok (.invokestatic 99, 3) := by decide +kernel
theorem dX7_isOperator_11 : decode cX7_isOperator 11 = .ok (.ireturn, 1) := by decide +kernel
set_option maxRecDepth 20000 in
theorem ggX7_comes_X7_isOperator : GoodIn wsX7_comes wsX7_isOperator := goodIn_r _ [6, 7, 8, 9, 5, 10, 11, 12, 13, 14, 15, 16, 17, 18, 19, 20, 21, 22, 23, 24, 25, 26, 27, 28, 29, 30, 31, 32, 33, 34, 35, 36, 37, 38, 39, 40, 41, 42, 43, 44, 45] (by decide +kernel) (by decide +kernel)
set_option maxRecDepth 20000 in
theorem gX7_comes_X7_isOperator : GoodIn wsX7_comes (wsV RX7 214 RX7 yX7_isOperator wsX7_isOperator) := goodIn_app (goodIn_of _ (by decide +kernel)) ggX7_comes_X7_isOperator
theorem dX7_comes_0 : decode cX7_comes 0 = .ok (.aload_n 0, 1) := by decide +kernel
theorem dX7_comes_1 : decode cX7_comes 1 = .ok (.iload_n 1, 1) := by decide +kernel
theorem dX7_comes_2 : decode cX7_comes 2 = .ok (.invokevirtual 214, 3) := by decide +kernel
theorem dX7_comes_5 : decode cX7_comes 5 = .ok (.ifCond .eq 12, 3) := by decide +kernel
theorem dX7_comes_8 : decode cX7_comes 8 = .ok (.aload_n 0, 1) := by decide +kernel
theorem dX7_comes_9 : decode cX7_comes 9 = .ok (.getfield 87, 3) := by decide +kernel
theorem dX7_comes_12 : decode cX7_comes 12 = .ok (.iload_n 1, 1) := by decide +kernel
theorem dX7_comes_13 : decode cX7_comes 13 = .ok (.iaload, 1) := by decide +kernel
theorem dX7_comes_14 : decode cX7_comes 14 = .ok (.goto 5, 3) := by decide +kernel
theorem dX7_comes_17 : decode cX7_comes 17 = .ok (.bipush (-2), 2) := by decide +kernel
theorem dX7_comes_19 : decode cX7_comes 19 = .ok (.ireturn, 1) := by decide +kernel
set_option maxRecDepth 20000 in
theorem ggX7_reason_X7_isOperator : GoodIn wsX7_reason wsX7_isOperator := goodIn_r _ [6, 7, 8, 9, 5, 10, 11, 12, 13, 14, 15, 16, 17, 18, 19, 20, 21, 22, 23, 24, 25, 26, 27, 28, 29, 30, 31, 32, 33, 34, 35, 36, 37, 38, 39, 40, 41, 42, 43, 44, 45] (by decide +kernel) (by decide +kernel)
set_option maxRecDepth 20000 in
theorem gX7_reason_X7_isOperator : GoodIn wsX7_reason (wsV RX7 214 RX7 yX7_isOperator wsX7_isOperator) := goodIn_app (goodIn_of _ (by decide +kernel)) ggX7_reason_X7_isOperator
theorem dX7_reason_0 : decode cX7_reason 0 = .ok (.aload_n 0, 1) := by decide +kernel
theorem dX7_reason_1 : decode cX7_reason 1 = .ok (.iload_n 1, 1) := by decide +kernel
theorem dX7_reason_2 : decode cX7_reason 2 = .ok (.invokevirtual 214, 3) := by decide +kernel
theorem dX7_reason_5 : decode cX7_reason 5 = .ok (.ifCond .eq 12, 3) := by decide +kernel
theorem dX7_reason_8 : decode cX7_reason 8 = .ok (.aload_n 0, 1) := by decide +kernel
theorem dX7_reason_9 : decode cX7_reason 9 = .ok (.getfield 90, 3) := by decide +kernel
theorem dX7_reason_12 : decode cX7_reason 12 = .ok (.iload_n 1, 1) := by decide +kernel
theorem dX7_reason_13 : decode cX7_reason 13 = .ok (.iaload, 1) := by decide +kernel
theorem dX7_reason_14 : decode cX7_reason 14 = .ok (.goto 5, 3) := by decide +kernel
theorem dX7_reason_17 : decode cX7_reason 17 = .ok (.bipush (-2), 2) := by decide +kernel
theorem dX7_reason_19 : decode cX7_reason 19 = .ok (.ireturn, 1) := by decide +kernel
set_option maxRecDepth 20000 in
theorem ggX7_mayFail_X7_isOperator : GoodIn wsX7_mayFail wsX7_isOperator := goodIn_r _ [6, 7, 8, 9, 5, 10, 11, 12, 13, 14, 15, 16, 17, 18, 19, 20, 21, 22, 23, 24, 25, 26, 27, 28, 29, 30, 31, 32, 33, 34, 35, 36, 37, 38, 39, 40, 41, 42, 43, 44, 45] (by decide +kernel) (by decide +kernel)
set_option maxRecDepth 20000 in
theorem gX7_mayFail_X7_isOperator : GoodIn wsX7_mayFail (wsV RX7 214 RX7 yX7_isOperator wsX7_isOperator) := goodIn_app (goodIn_of _ (by decide +kernel)) ggX7_mayFail_X7_isOperator
theorem dX7_mayFail_0 : decode cX7_mayFail 0 = .ok (.aload_n 0, 1) := by decide +kernel
theorem dX7_mayFail_1 : decode cX7_mayFail 1 = .ok (.iload_n 1, 1) := by decide +kernel
theorem dX7_mayFail_2 : decode cX7_mayFail 2 = .ok (.invokevirtual 214, 3) := by decide +kernel
theorem dX7_mayFail_5 : decode cX7_mayFail 5 = .ok (.ifCond .ne 8, 3) := by decide +kernel
theorem dX7_mayFail_8 : decode cX7_mayFail 8 = .ok (.bipush (-2), 2) := by decide +kernel
theorem dX7_mayFail_10 : decode cX7_mayFail 10 = .ok (.goto 17, 3) := by decide +kernel
theorem dX7_mayFail_13 : decode cX7_mayFail 13 = .ok (.aload_n 0, 1) := by decide +kernel
theorem dX7_mayFail_14 : decode cX7_mayFail 14 = .ok (.getfield 93, 3) := by decide +kernel
theorem dX7_mayFail_17 : decode cX7_mayFail 17 = .ok (.iload_n 1, 1) := by decide +kernel
theorem dX7_mayFail_18 : decode cX7_mayFail 18 = .ok (.baload, 1) := by decide +kernel
theorem dX7_mayFail_19 : decode cX7_mayFail 19 = .ok (.ifCond .eq 7, 3) := by decide +kernel
theorem dX7_mayFail_22 : decode cX7_mayFail 22 = .ok (.iconst 1, 1) := by decide +kernel
theorem dX7_mayFail_23 : decode cX7_mayFail 23 = .ok (.goto 4, 3) := by decide +kernel
theorem dX7_mayFail_26 : decode cX7_mayFail 26 = .ok (.iconst 0, 1) := by decide +kernel
theorem dX7_mayFail_27 : decode cX7_mayFail 27 = .ok (.ireturn, 1) := by decide +kernel
theorem dX7_cast_0 : decode cX7_cast 0 = .ok (.iload_n 1, 1) := by decide +kernel
theorem dX7_cast_1 : decode cX7_cast 1 = .ok (.istore_n 2, 1) := by decide +kernel
theorem dX7_cast_2 : decode cX7_cast 2 = .ok (.iconst 0, 1) := by decide +kernel
theorem dX7_cast_3 : decode cX7_cast 3 = .ok (.istore_n 3, 1) := by decide +kernel
theorem dX7_cast_4 : decode cX7_cast 4 = .ok (.iload_n 3, 1) := by decide +kernel
theorem dX7_cast_5 : decode cX7_cast 5 = .ok (.aload_n 0, 1) := by decide +kernel
theorem dX7_cast_6 : decode cX7_cast 6 = .ok (.getfield 189, 3) := by decide +kernel
theorem dX7_cast_9 : decode cX7_cast 9 = .ok (.if_icmp .ge 31, 3) := by decide +kernel
theorem dX7_cast_12 : decode cX7_cast 12 = .ok (.iload_n 2, 1) := by decide +kernel
theorem dX7_cast_13 : decode cX7_cast 13 = .ok (.ifCond .lt 27, 3) := by decide +kernel
theorem dX7_cast_16 : decode cX7_cast 16 = .ok (.aload_n 0, 1) := by decide +kernel
theorem dX7_cast_17 : decode cX7_cast 17 = .ok (.getfield 93, 3) := by decide +kernel
theorem dX7_cast_20 : decode cX7_cast 20 = .ok (.iload_n 3, 1) := by decide +kernel
theorem dX7_cast_21 : decode cX7_cast 21 = .ok (.baload, 1) := by decide +kernel
theorem dX7_cast_22 : decode cX7_cast 22 = .ok (.ifCond .eq 12, 3) := by decide +kernel
theorem dX7_cast_25 : decode cX7_cast 25 = .ok (.iload_n 2, 1) := by decide +kernel
theorem dX7_cast_26 : decode cX7_cast 26 = .ok (.ifCond .ne 5, 3) := by decide +kernel
theorem dX7_cast_29 : decode cX7_cast 29 = .ok (.iload_n 3, 1) := by decide +kernel
theorem dX7_cast_30 : decode cX7_cast 30 = .ok (.ireturn, 1) := by decide +kernel
theorem dX7_cast_31 : decode cX7_cast 31 = .ok (.iinc 2 (-1), 3) := by decide +kernel
theorem dX7_cast_34 : decode cX7_cast 34 = .ok (.iinc 3 1, 3) := by decide +kernel
theorem dX7_cast_37 : decode cX7_cast 37 = .ok (.goto (-33), 3) := by decide +kernel
theorem dX7_cast_40 : decode cX7_cast 40 = .ok (.iconst (-1), 1) := by decide +kernel
theorem dX7_cast_41 : decode cX7_cast 41 = .ok (.ireturn, 1) := by decide +kernel
set_option maxRecDepth 20000 in
theorem ggX7_boundTo_X7_isOperator : GoodIn wsX7_boundTo wsX7_isOperator := goodIn_r _ [6, 7, 8, 9, 5, 10, 11, 12, 13, 14, 15, 16, 17, 18, 19, 20, 21, 22, 23, 24, 25, 26, 27, 28, 29, 30, 31, 32, 33, 34, 35, 36, 37, 38, 39, 40, 41, 42, 43, 44, 45] (by decide +kernel) (by decide +kernel)
set_option maxRecDepth 20000 in
theorem gX7_boundTo_X7_isOperator : GoodIn wsX7_boundTo (wsV RX7 214 RX7 yX7_isOperator wsX7_isOperator) := goodIn_app (goodIn_of _ (by decide +kernel)) ggX7_boundTo_X7_isOperator
set_option maxRecDepth 20000 in
theorem ggX7_boundTo_X7_isIn : GoodIn wsX7_boundTo wsX7_isIn := goodIn_r _ [10] (by decide +kernel) (by decide +kernel)
set_option maxRecDepth 20000 in
theorem gX7_boundTo_X7_isIn : GoodIn wsX7_boundTo (va_wsS RX7 99 yX7_isIn wsX7_isIn) := goodIn_app (goodIn_of _ (by decide +kernel)) ggX7_boundTo_X7_isIn
theorem dX7_boundTo_0 : decode cX7_boundTo 0 = .ok (.aload_n 0, 1) := by decide +kernel
theorem dX7_boundTo_1 : decode cX7_boundTo 1 = .ok (.iload_n 1, 1) := by decide +kernel
theorem dX7_boundTo_2 : decode cX7_boundTo 2 = .ok (.invokevirtual 214, 3) := by decide +kernel
theorem dX7_boundTo_5 : decode cX7_boundTo 5 = .ok (.ifCond .eq 25, 3) := by decide +kernel
theorem dX7_boundTo_8 : decode cX7_boundTo 8 = .ok (.iload_n 2, 1) := by decide +kernel
theorem dX7_boundTo_9 : decode cX7_boundTo 9 = .ok (.iconst 0, 1) := by decide +kernel
theorem dX7_boundTo_10 : decode cX7_boundTo 10 = .ok (.iconst 1, 1) := by decide +kernel
theorem dX7_boundTo_11 : decode cX7_boundTo 11 = .ok (.invokestatic 99, 3) := by decide +kernel
theorem dX7_boundTo_14 : decode cX7_boundTo 14 = .ok (.ifCond .eq 16, 3) := by decide +kernel
theorem dX7_boundTo_17 : decode cX7_boundTo 17 = .ok (.aload_n 0, 1) := by decide +kernel
theorem dX7_boundTo_18 : decode cX7_boundTo 18 = .ok (.getfield 96, 3) := by decide +kernel
theorem dX7_boundTo_21 : decode cX7_boundTo 21 = .ok (.iconst 2, 1) := by decide +kernel
theorem dX7_boundTo_22 : decode cX7_boundTo 22 = .ok (.iload_n 1, 1) := by decide +kernel
theorem dX7_boundTo_23 : decode cX7_boundTo 23 = .ok (.imul, 1) := by decide +kernel
theorem dX7_boundTo_24 : decode cX7_boundTo 24 = .ok (.iload_n 2, 1) := by decide +kernel
theorem dX7_boundTo_25 : decode cX7_boundTo 25 = .ok (.iadd, 1) := by decide +kernel
theorem dX7_boundTo_26 : decode cX7_boundTo 26 = .ok (.iaload, 1) := by decide +kernel
theorem dX7_boundTo_27 : decode cX7_boundTo 27 = .ok (.goto 5, 3) := by decide +kernel
theorem dX7_boundTo_30 : decode cX7_boundTo 30 = .ok (.bipush (-2), 2) := by decide +kernel
theorem dX7_boundTo_32 : decode cX7_boundTo 32 = .ok (.ireturn, 1) := by decide +kernel
theorem dX7_count_0 : decode cX7_count 0 = .ok (.iconst 0, 1) := by decide +kernel
theorem dX7_count_1 : decode cX7_count 1 = .ok (.istore_n 2, 1) := by decide +kernel
theorem dX7_count_2 : decode cX7_count 2 = .ok (.iconst 0, 1) := by decide +kernel
theorem dX7_count_3 : decode cX7_count 3 = .ok (.istore_n 3, 1) := by decide +kernel
theorem dX7_count_4 : decode cX7_count 4 = .ok (.iload_n 3, 1) := by decide +kernel
theorem dX7_count_5 : decode cX7_count 5 = .ok (.aload_n 0, 1) := by decide +kernel
theorem dX7_count_6 : decode cX7_count 6 = .ok (.getfield 189, 3) := by decide +kernel
theorem dX7_count_9 : decode cX7_count 9 = .ok (.if_icmp .ge 26, 3) := by decide +kernel
theorem dX7_count_12 : decode cX7_count 12 = .ok (.iload_n 2, 1) := by decide +kernel
theorem dX7_count_13 : decode cX7_count 13 = .ok (.aload_n 0, 1) := by decide +kernel
theorem dX7_count_14 : decode cX7_count 14 = .ok (.getfield 93, 3) := by decide +kernel
theorem dX7_count_17 : decode cX7_count 17 = .ok (.iload_n 3, 1) := by decide +kernel
theorem dX7_count_18 : decode cX7_count 18 = .ok (.baload, 1) := by decide +kernel
theorem dX7_count_19 : decode cX7_count 19 = .ok (.ifCond .eq 7, 3) := by decide +kernel
theorem dX7_count_22 : decode cX7_count 22 = .ok (.iconst 1, 1) := by decide +kernel
theorem dX7_count_23 : decode cX7_count 23 = .ok (.goto 4, 3) := by decide +kernel
theorem dX7_count_26 : decode cX7_count 26 = .ok (.iconst 0, 1) := by decide +kernel
theorem dX7_count_27 : decode cX7_count 27 = .ok (.iadd, 1) := by decide +kernel
theorem dX7_count_28 : decode cX7_count 28 = .ok (.istore_n 2, 1) := by decide +kernel
theorem dX7_count_29 : decode cX7_count 29 = .ok (.iinc 3 1, 3) := by decide +kernel
theorem dX7_count_32 : decode cX7_count 32 = .ok (.goto (-28), 3) := by decide +kernel
theorem dX7_count_35 : decode cX7_count 35 = .ok (.iload_n 1, 1) := by decide +kernel
theorem dX7_count_36 : decode cX7_count 36 = .ok (.ifCond .ne 10, 3) := by decide +kernel
theorem dX7_count_39 : decode cX7_count 39 = .ok (.aload_n 0, 1) := by decide +kernel
theorem dX7_count_40 : decode cX7_count 40 = .ok (.getfield 7, 3) := by decide +kernel
theorem dX7_count_43 : decode cX7_count 43 = .ok (.goto 62, 3) := by decide +kernel
theorem dX7_count_46 : decode cX7_count 46 = .ok (.iload_n 1, 1) := by decide +kernel
theorem dX7_count_47 : decode cX7_count 47 = .ok (.iconst 1, 1) := by decide +kernel
theorem dX7_count_48 : decode cX7_count 48 = .ok (.if_icmp .ne 10, 3) := by decide +kernel
theorem dX7_count_51 : decode cX7_count 51 = .ok (.aload_n 0, 1) := by decide +kernel
theorem dX7_count_52 : decode cX7_count 52 = .ok (.getfield 20, 3) := by decide +kernel
theorem dX7_count_55 : decode cX7_count 55 = .ok (.goto 50, 3) := by decide +kernel
theorem dX7_count_58 : decode cX7_count 58 = .ok (.iload_n 1, 1) := by decide +kernel
theorem dX7_count_59 : decode cX7_count 59 = .ok (.iconst 2, 1) := by decide +kernel
theorem dX7_count_60 : decode cX7_count 60 = .ok (.if_icmp .ne 10, 3) := by decide +kernel
theorem dX7_count_63 : decode cX7_count 63 = .ok (.aload_n 0, 1) := by decide +kernel
theorem dX7_count_64 : decode cX7_count 64 = .ok (.getfield 153, 3) := by decide +kernel
theorem dX7_count_67 : decode cX7_count 67 = .ok (.goto 38, 3) := by decide +kernel
theorem dX7_count_70 : decode cX7_count 70 = .ok (.iload_n 1, 1) := by decide +kernel
theorem dX7_count_71 : decode cX7_count 71 = .ok (.iconst 3, 1) := by decide +kernel
theorem dX7_count_72 : decode cX7_count 72 = .ok (.if_icmp .ne 10, 3) := by decide +kernel
theorem dX7_count_75 : decode cX7_count 75 = .ok (.aload_n 0, 1) := by decide +kernel
theorem dX7_count_76 : decode cX7_count 76 = .ok (.getfield 156, 3) := by decide +kernel
theorem dX7_count_79 : decode cX7_count 79 = .ok (.goto 26, 3) := by decide +kernel
theorem dX7_count_82 : decode cX7_count 82 = .ok (.iload_n 1, 1) := by decide +kernel
theorem dX7_count_83 : decode cX7_count 83 = .ok (.iconst 4, 1) := by decide +kernel
theorem dX7_count_84 : decode cX7_count 84 = .ok (.if_icmp .ne 10, 3) := by decide +kernel
theorem dX7_count_87 : decode cX7_count 87 = .ok (.aload_n 0, 1) := by decide +kernel
theorem dX7_count_88 : decode cX7_count 88 = .ok (.getfield 189, 3) := by decide +kernel
theorem dX7_count_91 : decode cX7_count 91 = .ok (.goto 14, 3) := by decide +kernel
theorem dX7_count_94 : decode cX7_count 94 = .ok (.iload_n 1, 1) := by decide +kernel
theorem dX7_count_95 : decode cX7_count 95 = .ok (.iconst 5, 1) := by decide +kernel
theorem dX7_count_96 : decode cX7_count 96 = .ok (.if_icmp .ne 7, 3) := by decide +kernel
theorem dX7_count_99 : decode cX7_count 99 = .ok (.iload_n 2, 1) := by decide +kernel
theorem dX7_count_100 : decode cX7_count 100 = .ok (.goto 5, 3) := by decide +kernel
theorem dX7_count_103 : decode cX7_count 103 = .ok (.bipush (-2), 2) := by decide +kernel
theorem dX7_count_105 : decode cX7_count 105 = .ok (.ireturn, 1) := by decide +kernel
