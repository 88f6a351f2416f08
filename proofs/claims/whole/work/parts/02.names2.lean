set_option maxRecDepth 20000 in
theorem ggX5_init_X3_init : GoodIn wsX5_init wsX3_init := goodIn_r _ [15, 16, 2, 3, 17, 18, 19, 20, 21, 22, 23, 24, 31, 32, 33, 34, 35, 36, 37] (by decide +kernel) (by decide +kernel)
set_option maxRecDepth 20000 in
theorem gX5_init_X3_init : GoodIn wsX5_init (wsX3_init) := ggX5_init_X3_init
theorem dX5_init_0 : decode cX5_init 0 = .ok (.aload_n 0, 1) := by decide +kernel
theorem dX5_init_1 : decode cX5_init 1 = .ok (.invokespecial 3, 3) := by decide +kernel
theorem dX5_init_4 : decode cX5_init 4 = .ok (.aload_n 0, 1) := by decide +kernel
theorem dX5_init_5 : decode cX5_init 5 = .ok (.iconst 0, 1) := by decide +kernel
theorem dX5_init_6 : decode cX5_init 6 = .ok (.putfield 9, 3) := by decide +kernel
theorem dX5_init_9 : decode cX5_init 9 = .ok (.aload_n 0, 1) := by decide +kernel
theorem dX5_init_10 : decode cX5_init 10 = .ok (.iconst 0, 1) := by decide +kernel
theorem dX5_init_11 : decode cX5_init 11 = .ok (.putfield 15, 3) := by decide +kernel
theorem dX5_init_14 : decode cX5_init 14 = .ok (.aload_n 0, 1) := by decide +kernel
theorem dX5_init_15 : decode cX5_init 15 = .ok (.aload_n 1, 1) := by decide +kernel
theorem dX5_init_16 : decode cX5_init 16 = .ok (.putfield 19, 3) := by decide +kernel
theorem dX5_init_19 : decode cX5_init 19 = .ok (.aload_n 0, 1) := by decide +kernel
theorem dX5_init_20 : decode cX5_init 20 = .ok (.aload_n 2, 1) := by decide +kernel
theorem dX5_init_21 : decode cX5_init 21 = .ok (.putfield 23, 3) := by decide +kernel
theorem dX5_init_24 : decode cX5_init 24 = .ok (.aload_n 0, 1) := by decide +kernel
theorem dX5_init_25 : decode cX5_init 25 = .ok (.aload 4, 2) := by decide +kernel
theorem dX5_init_27 : decode cX5_init 27 = .ok (.putfield 27, 3) := by decide +kernel
theorem dX5_init_30 : decode cX5_init 30 = .ok (.aload_n 0, 1) := by decide +kernel
theorem dX5_init_31 : decode cX5_init 31 = .ok (.new 31, 3) := by decide +kernel
theorem dX5_init_34 : decode cX5_init 34 = .ok (.dup, 1) := by decide +kernel
theorem dX5_init_35 : decode cX5_init 35 = .ok (.aload_n 1, 1) := by decide +kernel
theorem dX5_init_36 : decode cX5_init 36 = .ok (.aload_n 3, 1) := by decide +kernel
theorem dX5_init_37 : decode cX5_init 37 = .ok (.invokespecial 33, 3) := by decide +kernel
theorem dX5_init_40 : decode cX5_init 40 = .ok (.putfield 36, 3) := by decide +kernel
theorem dX5_init_43 : decode cX5_init 43 = .ok (.return_, 1) := by decide +kernel
set_option maxRecDepth 20000 in
theorem ggX5_whatComes_X2_hasTwoInputs : GoodIn wsX5_whatComes wsX2_hasTwoInputs := goodIn_r _ [16, 17, 165, 166, 167, 168, 169, 170, 171, 172, 173, 174, 175] (by decide +kernel) (by decide +kernel)
set_option maxRecDepth 20000 in
theorem gX5_whatComes_X2_hasTwoInputs : GoodIn wsX5_whatComes (wsV RX5 55 RX2 yX2_hasTwoInputs wsX2_hasTwoInputs) := goodIn_app (goodIn_of _ (by decide +kernel)) ggX5_whatComes_X2_hasTwoInputs
set_option maxRecDepth 20000 in
theorem ggX5_whatComes_X5_none : GoodIn wsX5_whatComes wsX5_none := goodIn_r _ [22, 1, 159, 160, 161, 162, 163, 164] (by decide +kernel) (by decide +kernel)
set_option maxRecDepth 20000 in
theorem gX5_whatComes_X5_none : GoodIn wsX5_whatComes (wsV RX5 62 RX5 yX5_none wsX5_none) := goodIn_app (goodIn_of _ (by decide +kernel)) ggX5_whatComes_X5_none
set_option maxRecDepth 20000 in
theorem ggX5_whatComes_X3_putTo : GoodIn wsX5_whatComes wsX3_putTo := goodIn_r _ [27, 28, 29, 30, 31, 32, 33, 34, 35, 36, 37, 38, 39, 40, 41, 42, 26, 43, 44, 45, 46, 47, 48, 49, 50, 51, 52, 53, 54, 55, 56, 57, 58, 59, 60, 61, 62, 63, 64, 65, 66, 67, 68, 69, 70, 71, 72, 73, 74, 75, 76, 77, 78, 79, 80, 81, 82, 83, 84, 85, 86, 87, 88, 89, 90, 91, 92, 93, 94, 95, 96, 97, 98, 99, 100, 101, 102, 103, 104, 105, 106, 107, 108, 109, 110, 111, 112, 113, 114, 115, 116, 117, 118, 119, 120, 176, 177, 178, 179, 180, 181, 182, 183, 184, 185, 186, 187, 188, 189, 190, 191, 192, 193, 194, 195, 196, 197] (by decide +kernel) (by decide +kernel)
set_option maxRecDepth 20000 in
theorem gX5_whatComes_X3_putTo : GoodIn wsX5_whatComes (wsV RX5 66 RX3 yX3_putTo wsX3_putTo) := goodIn_app (goodIn_of _ (by decide +kernel)) ggX5_whatComes_X3_putTo
set_option maxRecDepth 20000 in
theorem ggX5_whatComes_X5_orFault : GoodIn wsX5_whatComes wsX5_orFault := goodIn_r _ [124, 18, 19, 20, 21, 22, 1, 159, 160, 161, 162, 163, 164] (by decide +kernel) (by decide +kernel)
set_option maxRecDepth 20000 in
theorem gX5_whatComes_X5_orFault : GoodIn wsX5_whatComes (wsV RX5 71 RX5 yX5_orFault wsX5_orFault) := goodIn_app (goodIn_of _ (by decide +kernel)) ggX5_whatComes_X5_orFault
set_option maxRecDepth 20000 in
theorem ggX5_whatComes_X5_filtered : GoodIn wsX5_whatComes wsX5_filtered := goodIn_r _ [128, 18, 19, 20, 21, 22, 1, 159, 160, 161, 162, 163, 164] (by decide +kernel) (by decide +kernel)
set_option maxRecDepth 20000 in
theorem gX5_whatComes_X5_filtered : GoodIn wsX5_whatComes (wsV RX5 75 RX5 yX5_filtered wsX5_filtered) := goodIn_app (goodIn_of _ (by decide +kernel)) ggX5_whatComes_X5_filtered
set_option maxRecDepth 20000 in
theorem ggX5_whatComes_X5_memberOf : GoodIn wsX5_whatComes wsX5_memberOf := goodIn_r _ [132, 11, 133, 134, 135, 136, 137, 45, 46, 47, 18, 19, 20, 21, 22, 1, 138, 57, 58, 59, 60, 61, 62, 63, 64, 65, 66, 67, 68, 69, 70, 71, 72, 73, 74, 75, 76, 77, 78, 79, 80, 81, 82, 83, 84, 85, 86, 87, 88, 89, 90, 91, 92, 121, 122, 123, 124, 139, 159, 160, 161, 162, 163, 164, 198, 199, 200, 188, 189, 190, 191, 192, 193, 194, 195, 196, 197] (by decide +kernel) (by decide +kernel)
set_option maxRecDepth 20000 in
theorem gX5_whatComes_X5_memberOf : GoodIn wsX5_whatComes (wsV RX5 78 RX5 yX5_memberOf wsX5_memberOf) := goodIn_app (goodIn_of _ (by decide +kernel)) ggX5_whatComes_X5_memberOf
set_option maxRecDepth 20000 in
theorem ggX5_whatComes_X4_commonOf : GoodIn wsX5_whatComes wsX4_commonOf := goodIn_r _ [143, 61, 48, 46, 49, 45, 47, 65, 66, 67, 59, 68, 69, 70, 71, 72, 62, 114, 57, 58, 60, 63, 64, 73, 74, 75, 76, 77, 78, 79, 80, 81, 82, 83, 84, 85, 86, 87, 88, 89, 90, 91, 92, 188, 189, 190, 191, 192, 193, 194, 195, 196, 197] (by decide +kernel) (by decide +kernel)
set_option maxRecDepth 20000 in
theorem gX5_whatComes_X4_commonOf : GoodIn wsX5_whatComes (wsV RX5 81 RX4 yX4_commonOf wsX4_commonOf) := goodIn_app (goodIn_of _ (by decide +kernel)) ggX5_whatComes_X4_commonOf
set_option maxRecDepth 20000 in
theorem ggX5_whatComes_X5_joined : GoodIn wsX5_whatComes wsX5_joined := goodIn_r _ [147, 3, 4, 148, 11, 149, 129, 130, 131, 21, 132, 133, 134, 135, 136, 137, 45, 46, 47, 18, 19, 20, 22, 1, 138, 57, 58, 59, 60, 61, 62, 63, 64, 65, 66, 67, 68, 69, 70, 71, 72, 73, 74, 75, 76, 77, 78, 79, 80, 81, 82, 83, 84, 85, 86, 87, 88, 89, 90, 91, 92, 121, 122, 123, 124, 139, 150, 111, 112, 113, 48, 49, 114, 151, 159, 160, 161, 162, 163, 164, 165, 166, 167, 168, 169, 170, 171, 172, 173, 174, 175, 198, 199, 200, 188, 189, 190, 191, 192, 193, 194, 195, 196, 197] (by decide +kernel) (by decide +kernel)
set_option maxRecDepth 20000 in
theorem gX5_whatComes_X5_joined : GoodIn wsX5_whatComes (wsV RX5 86 RX5 yX5_joined wsX5_joined) := goodIn_app (goodIn_of _ (by decide +kernel)) ggX5_whatComes_X5_joined
set_option maxRecDepth 20000 in
theorem ggX5_whatComes_X5_castTo : GoodIn wsX5_whatComes wsX5_castTo := goodIn_r _ [155, 11, 2, 150, 111, 112, 59, 113, 61, 48, 46, 49, 45, 47, 114, 57, 58, 60, 62, 63, 64, 65, 66, 67, 68, 69, 70, 71, 72, 73, 74, 75, 76, 77, 78, 79, 80, 81, 82, 83, 84, 85, 86, 87, 88, 89, 90, 91, 92, 156, 157, 21, 158, 18, 19, 20, 22, 1, 159, 160, 161, 162, 163, 164, 188, 189, 190, 191, 192, 193, 194, 195, 196, 197] (by decide +kernel) (by decide +kernel)
set_option maxRecDepth 20000 in
theorem gX5_whatComes_X5_castTo : GoodIn wsX5_whatComes (wsV RX5 89 RX5 yX5_castTo wsX5_castTo) := goodIn_app (goodIn_of _ (by decide +kernel)) ggX5_whatComes_X5_castTo
theorem dX5_whatComes_0 : decode cX5_whatComes 0 = .ok (.aload_n 0, 1) := by decide +kernel
theorem dX5_whatComes_1 : decode cX5_whatComes 1 = .ok (.iconst 0, 1) := by decide +kernel
theorem dX5_whatComes_2 : decode cX5_whatComes 2 = .ok (.putfield 9, 3) := by decide +kernel
theorem dX5_whatComes_5 : decode cX5_whatComes 5 = .ok (.aload_n 0, 1) := by decide +kernel
theorem dX5_whatComes_6 : decode cX5_whatComes 6 = .ok (.iconst 0, 1) := by decide +kernel
theorem dX5_whatComes_7 : decode cX5_whatComes 7 = .ok (.putfield 15, 3) := by decide +kernel
theorem dX5_whatComes_10 : decode cX5_whatComes 10 = .ok (.aload_n 0, 1) := by decide +kernel
theorem dX5_whatComes_11 : decode cX5_whatComes 11 = .ok (.getfield 27, 3) := by decide +kernel
theorem dX5_whatComes_14 : decode cX5_whatComes 14 = .ok (.getfield 40, 3) := by decide +kernel
theorem dX5_whatComes_17 : decode cX5_whatComes 17 = .ok (.iload_n 1, 1) := by decide +kernel
theorem dX5_whatComes_18 : decode cX5_whatComes 18 = .ok (.iaload, 1) := by decide +kernel
theorem dX5_whatComes_19 : decode cX5_whatComes 19 = .ok (.istore_n 2, 1) := by decide +kernel
theorem dX5_whatComes_20 : decode cX5_whatComes 20 = .ok (.aload_n 0, 1) := by decide +kernel
theorem dX5_whatComes_21 : decode cX5_whatComes 21 = .ok (.getfield 27, 3) := by decide +kernel
theorem dX5_whatComes_24 : decode cX5_whatComes 24 = .ok (.getfield 46, 3) := by decide +kernel
theorem dX5_whatComes_27 : decode cX5_whatComes 27 = .ok (.iload_n 1, 1) := by decide +kernel
theorem dX5_whatComes_28 : decode cX5_whatComes 28 = .ok (.iaload, 1) := by decide +kernel
theorem dX5_whatComes_29 : decode cX5_whatComes 29 = .ok (.ifCond .ne 5, 3) := by decide +kernel
theorem dX5_whatComes_32 : decode cX5_whatComes 32 = .ok (.iload_n 2, 1) := by decide +kernel
theorem dX5_whatComes_33 : decode cX5_whatComes 33 = .ok (.ireturn, 1) := by decide +kernel
theorem dX5_whatComes_34 : decode cX5_whatComes 34 = .ok (.aload_n 0, 1) := by decide +kernel
theorem dX5_whatComes_35 : decode cX5_whatComes 35 = .ok (.getfield 27, 3) := by decide +kernel
theorem dX5_whatComes_38 : decode cX5_whatComes 38 = .ok (.getfield 49, 3) := by decide +kernel
theorem dX5_whatComes_41 : decode cX5_whatComes 41 = .ok (.aload_n 0, 1) := by decide +kernel
theorem dX5_whatComes_42 : decode cX5_whatComes 42 = .ok (.getfield 27, 3) := by decide +kernel
theorem dX5_whatComes_45 : decode cX5_whatComes 45 = .ok (.getfield 52, 3) := by decide +kernel
theorem dX5_whatComes_48 : decode cX5_whatComes 48 = .ok (.iload_n 1, 1) := by decide +kernel
theorem dX5_whatComes_49 : decode cX5_whatComes 49 = .ok (.iaload, 1) := by decide +kernel
theorem dX5_whatComes_50 : decode cX5_whatComes 50 = .ok (.iaload, 1) := by decide +kernel
theorem dX5_whatComes_51 : decode cX5_whatComes 51 = .ok (.istore_n 3, 1) := by decide +kernel
theorem dX5_whatComes_52 : decode cX5_whatComes 52 = .ok (.aload_n 0, 1) := by decide +kernel
theorem dX5_whatComes_53 : decode cX5_whatComes 53 = .ok (.getfield 27, 3) := by decide +kernel
theorem dX5_whatComes_56 : decode cX5_whatComes 56 = .ok (.iload_n 1, 1) := by decide +kernel
theorem dX5_whatComes_57 : decode cX5_whatComes 57 = .ok (.invokevirtual 55, 3) := by decide +kernel
theorem dX5_whatComes_60 : decode cX5_whatComes 60 = .ok (.istore 4, 2) := by decide +kernel
theorem dX5_whatComes_62 : decode cX5_whatComes 62 = .ok (.iload 4, 2) := by decide +kernel
theorem dX5_whatComes_64 : decode cX5_whatComes 64 = .ok (.ifCond .eq 23, 3) := by decide +kernel
theorem dX5_whatComes_67 : decode cX5_whatComes 67 = .ok (.aload_n 0, 1) := by decide +kernel
theorem dX5_whatComes_68 : decode cX5_whatComes 68 = .ok (.getfield 27, 3) := by decide +kernel
theorem dX5_whatComes_71 : decode cX5_whatComes 71 = .ok (.getfield 49, 3) := by decide +kernel
theorem dX5_whatComes_74 : decode cX5_whatComes 74 = .ok (.aload_n 0, 1) := by decide +kernel
theorem dX5_whatComes_75 : decode cX5_whatComes 75 = .ok (.getfield 27, 3) := by decide +kernel
theorem dX5_whatComes_78 : decode cX5_whatComes 78 = .ok (.getfield 59, 3) := by decide +kernel
theorem dX5_whatComes_81 : decode cX5_whatComes 81 = .ok (.iload_n 1, 1) := by decide +kernel
theorem dX5_whatComes_82 : decode cX5_whatComes 82 = .ok (.iaload, 1) := by decide +kernel
theorem dX5_whatComes_83 : decode cX5_whatComes 83 = .ok (.iaload, 1) := by decide +kernel
theorem dX5_whatComes_84 : decode cX5_whatComes 84 = .ok (.goto 4, 3) := by decide +kernel
theorem dX5_whatComes_87 : decode cX5_whatComes 87 = .ok (.iconst (-1), 1) := by decide +kernel
theorem dX5_whatComes_88 : decode cX5_whatComes 88 = .ok (.istore 5, 2) := by decide +kernel
theorem dX5_whatComes_90 : decode cX5_whatComes 90 = .ok (.iload_n 3, 1) := by decide +kernel
theorem dX5_whatComes_91 : decode cX5_whatComes 91 = .ok (.iconst (-1), 1) := by decide +kernel
theorem dX5_whatComes_92 : decode cX5_whatComes 92 = .ok (.if_icmp .eq 14, 3) := by decide +kernel
theorem dX5_whatComes_95 : decode cX5_whatComes 95 = .ok (.iload 4, 2) := by decide +kernel
theorem dX5_whatComes_97 : decode cX5_whatComes 97 = .ok (.ifCond .eq 16, 3) := by decide +kernel
theorem dX5_whatComes_100 : decode cX5_whatComes 100 = .ok (.iload 5, 2) := by decide +kernel
theorem dX5_whatComes_102 : decode cX5_whatComes 102 = .ok (.iconst (-1), 1) := by decide +kernel
theorem dX5_whatComes_103 : decode cX5_whatComes 103 = .ok (.if_icmp .ne 10, 3) := by decide +kernel
theorem dX5_whatComes_106 : decode cX5_whatComes 106 = .ok (.aload_n 0, 1) := by decide +kernel
theorem dX5_whatComes_107 : decode cX5_whatComes 107 = .ok (.bipush 7, 2) := by decide +kernel
theorem dX5_whatComes_109 : decode cX5_whatComes 109 = .ok (.invokevirtual 62, 3) := by decide +kernel
theorem dX5_whatComes_112 : decode cX5_whatComes 112 = .ok (.ireturn, 1) := by decide +kernel
theorem dX5_whatComes_113 : decode cX5_whatComes 113 = .ok (.aload_n 0, 1) := by decide +kernel
theorem dX5_whatComes_114 : decode cX5_whatComes 114 = .ok (.getfield 27, 3) := by decide +kernel
theorem dX5_whatComes_117 : decode cX5_whatComes 117 = .ok (.getfield 46, 3) := by decide +kernel
theorem dX5_whatComes_120 : decode cX5_whatComes 120 = .ok (.iload_n 1, 1) := by decide +kernel
theorem dX5_whatComes_121 : decode cX5_whatComes 121 = .ok (.iaload, 1) := by decide +kernel
theorem dX5_whatComes_122 : decode cX5_whatComes 122 = .ok (.tableswitch 121 1 6 #[38, 61, 88, 95, 38, 112], 38) := by decide +kernel
theorem dX5_whatComes_160 : decode cX5_whatComes 160 = .ok (.aload_n 0, 1) := by decide +kernel
theorem dX5_whatComes_161 : decode cX5_whatComes 161 = .ok (.aload_n 0, 1) := by decide +kernel
theorem dX5_whatComes_162 : decode cX5_whatComes 162 = .ok (.getfield 36, 3) := by decide +kernel
theorem dX5_whatComes_165 : decode cX5_whatComes 165 = .ok (.iload_n 2, 1) := by decide +kernel
theorem dX5_whatComes_166 : decode cX5_whatComes 166 = .ok (.iload_n 3, 1) := by decide +kernel
theorem dX5_whatComes_167 : decode cX5_whatComes 167 = .ok (.iload 5, 2) := by decide +kernel
theorem dX5_whatComes_169 : decode cX5_whatComes 169 = .ok (.invokevirtual 66, 3) := by decide +kernel
theorem dX5_whatComes_172 : decode cX5_whatComes 172 = .ok (.aload_n 0, 1) := by decide +kernel
theorem dX5_whatComes_173 : decode cX5_whatComes 173 = .ok (.getfield 36, 3) := by decide +kernel
theorem dX5_whatComes_176 : decode cX5_whatComes 176 = .ok (.getfield 70, 3) := by decide +kernel
theorem dX5_whatComes_179 : decode cX5_whatComes 179 = .ok (.invokevirtual 71, 3) := by decide +kernel
theorem dX5_whatComes_182 : decode cX5_whatComes 182 = .ok (.ireturn, 1) := by decide +kernel
theorem dX5_whatComes_183 : decode cX5_whatComes 183 = .ok (.aload_n 0, 1) := by decide +kernel
theorem dX5_whatComes_184 : decode cX5_whatComes 184 = .ok (.iload_n 3, 1) := by decide +kernel
theorem dX5_whatComes_185 : decode cX5_whatComes 185 = .ok (.aload_n 0, 1) := by decide +kernel
theorem dX5_whatComes_186 : decode cX5_whatComes 186 = .ok (.aload_n 0, 1) := by decide +kernel
theorem dX5_whatComes_187 : decode cX5_whatComes 187 = .ok (.getfield 36, 3) := by decide +kernel
theorem dX5_whatComes_190 : decode cX5_whatComes 190 = .ok (.iload_n 2, 1) := by decide +kernel
theorem dX5_whatComes_191 : decode cX5_whatComes 191 = .ok (.iload_n 3, 1) := by decide +kernel
theorem dX5_whatComes_192 : decode cX5_whatComes 192 = .ok (.iconst (-1), 1) := by decide +kernel
theorem dX5_whatComes_193 : decode cX5_whatComes 193 = .ok (.invokevirtual 66, 3) := by decide +kernel
theorem dX5_whatComes_196 : decode cX5_whatComes 196 = .ok (.aload_n 0, 1) := by decide +kernel
theorem dX5_whatComes_197 : decode cX5_whatComes 197 = .ok (.getfield 36, 3) := by decide +kernel
theorem dX5_whatComes_200 : decode cX5_whatComes 200 = .ok (.getfield 70, 3) := by decide +kernel
theorem dX5_whatComes_203 : decode cX5_whatComes 203 = .ok (.invokevirtual 71, 3) := by decide +kernel
theorem dX5_whatComes_206 : decode cX5_whatComes 206 = .ok (.invokevirtual 75, 3) := by decide +kernel
theorem dX5_whatComes_209 : decode cX5_whatComes 209 = .ok (.ireturn, 1) := by decide +kernel
theorem dX5_whatComes_210 : decode cX5_whatComes 210 = .ok (.aload_n 0, 1) := by decide +kernel
theorem dX5_whatComes_211 : decode cX5_whatComes 211 = .ok (.iload_n 3, 1) := by decide +kernel
theorem dX5_whatComes_212 : decode cX5_whatComes 212 = .ok (.iload_n 2, 1) := by decide +kernel
theorem dX5_whatComes_213 : decode cX5_whatComes 213 = .ok (.invokevirtual 78, 3) := by decide +kernel
theorem dX5_whatComes_216 : decode cX5_whatComes 216 = .ok (.ireturn, 1) := by decide +kernel
theorem dX5_whatComes_217 : decode cX5_whatComes 217 = .ok (.aload_n 0, 1) := by decide +kernel
theorem dX5_whatComes_218 : decode cX5_whatComes 218 = .ok (.aload_n 0, 1) := by decide +kernel
theorem dX5_whatComes_219 : decode cX5_whatComes 219 = .ok (.getfield 19, 3) := by decide +kernel
theorem dX5_whatComes_222 : decode cX5_whatComes 222 = .ok (.iload_n 3, 1) := by decide +kernel
theorem dX5_whatComes_223 : decode cX5_whatComes 223 = .ok (.iload 5, 2) := by decide +kernel
theorem dX5_whatComes_225 : decode cX5_whatComes 225 = .ok (.invokevirtual 81, 3) := by decide +kernel
theorem dX5_whatComes_228 : decode cX5_whatComes 228 = .ok (.bipush 6, 2) := by decide +kernel
theorem dX5_whatComes_230 : decode cX5_whatComes 230 = .ok (.invokevirtual 71, 3) := by decide +kernel
theorem dX5_whatComes_233 : decode cX5_whatComes 233 = .ok (.ireturn, 1) := by decide +kernel
theorem dX5_whatComes_234 : decode cX5_whatComes 234 = .ok (.aload_n 0, 1) := by decide +kernel
theorem dX5_whatComes_235 : decode cX5_whatComes 235 = .ok (.iload_n 1, 1) := by decide +kernel
theorem dX5_whatComes_236 : decode cX5_whatComes 236 = .ok (.iload_n 3, 1) := by decide +kernel
theorem dX5_whatComes_237 : decode cX5_whatComes 237 = .ok (.iload 5, 2) := by decide +kernel
theorem dX5_whatComes_239 : decode cX5_whatComes 239 = .ok (.invokevirtual 86, 3) := by decide +kernel
theorem dX5_whatComes_242 : decode cX5_whatComes 242 = .ok (.ireturn, 1) := by decide +kernel
theorem dX5_whatComes_243 : decode cX5_whatComes 243 = .ok (.aload_n 0, 1) := by decide +kernel
theorem dX5_whatComes_244 : decode cX5_whatComes 244 = .ok (.iload_n 3, 1) := by decide +kernel
theorem dX5_whatComes_245 : decode cX5_whatComes 245 = .ok (.iload_n 2, 1) := by decide +kernel
theorem dX5_whatComes_246 : decode cX5_whatComes 246 = .ok (.invokevirtual 89, 3) := by decide +kernel
theorem dX5_whatComes_249 : decode cX5_whatComes 249 = .ok (.ireturn, 1) := by decide +kernel
set_option maxRecDepth 20000 in
theorem ggX5_keep_X2_tell : GoodIn wsX5_keep wsX2_tell := goodIn_r _ [11, 12, 13, 14, 26, 27, 28, 29, 30, 31, 32, 33, 34, 35, 36] (by decide +kernel) (by decide +kernel)
set_option maxRecDepth 20000 in
theorem gX5_keep_X2_tell : GoodIn wsX5_keep (wsV RX5 92 RX2 yX2_tell wsX2_tell) := goodIn_app (goodIn_of _ (by decide +kernel)) ggX5_keep_X2_tell
set_option maxRecDepth 20000 in
theorem ggX5_keep_X2_bind : GoodIn wsX5_keep wsX2_bind := goodIn_r _ [18, 19, 26, 27, 28, 29, 30, 31, 32, 33, 34, 35, 36] (by decide +kernel) (by decide +kernel)
set_option maxRecDepth 20000 in
theorem gX5_keep_X2_bind : GoodIn wsX5_keep (wsV RX5 99 RX2 yX2_bind wsX2_bind) := goodIn_app (goodIn_of _ (by decide +kernel)) ggX5_keep_X2_bind
theorem dX5_keep_0 : decode cX5_keep 0 = .ok (.aload_n 0, 1) := by decide +kernel
theorem dX5_keep_1 : decode cX5_keep 1 = .ok (.getfield 27, 3) := by decide +kernel
theorem dX5_keep_4 : decode cX5_keep 4 = .ok (.iload_n 1, 1) := by decide +kernel
theorem dX5_keep_5 : decode cX5_keep 5 = .ok (.iload_n 2, 1) := by decide +kernel
theorem dX5_keep_6 : decode cX5_keep 6 = .ok (.aload_n 0, 1) := by decide +kernel
theorem dX5_keep_7 : decode cX5_keep 7 = .ok (.getfield 9, 3) := by decide +kernel
theorem dX5_keep_10 : decode cX5_keep 10 = .ok (.aload_n 0, 1) := by decide +kernel
theorem dX5_keep_11 : decode cX5_keep 11 = .ok (.getfield 15, 3) := by decide +kernel
theorem dX5_keep_14 : decode cX5_keep 14 = .ok (.invokevirtual 92, 3) := by decide +kernel
theorem dX5_keep_17 : decode cX5_keep 17 = .ok (.aload_n 0, 1) := by decide +kernel
theorem dX5_keep_18 : decode cX5_keep 18 = .ok (.getfield 27, 3) := by decide +kernel
theorem dX5_keep_21 : decode cX5_keep 21 = .ok (.getfield 46, 3) := by decide +kernel
theorem dX5_keep_24 : decode cX5_keep 24 = .ok (.iload_n 1, 1) := by decide +kernel
theorem dX5_keep_25 : decode cX5_keep 25 = .ok (.iaload, 1) := by decide +kernel
theorem dX5_keep_26 : decode cX5_keep 26 = .ok (.istore_n 3, 1) := by decide +kernel
theorem dX5_keep_27 : decode cX5_keep 27 = .ok (.iload_n 2, 1) := by decide +kernel
theorem dX5_keep_28 : decode cX5_keep 28 = .ok (.iconst (-1), 1) := by decide +kernel
theorem dX5_keep_29 : decode cX5_keep 29 = .ok (.if_icmp .eq 47, 3) := by decide +kernel
theorem dX5_keep_32 : decode cX5_keep 32 = .ok (.iload_n 3, 1) := by decide +kernel
theorem dX5_keep_33 : decode cX5_keep 33 = .ok (.iconst 1, 1) := by decide +kernel
theorem dX5_keep_34 : decode cX5_keep 34 = .ok (.if_icmp .eq 13, 3) := by decide +kernel
theorem dX5_keep_37 : decode cX5_keep 37 = .ok (.iload_n 3, 1) := by decide +kernel
theorem dX5_keep_38 : decode cX5_keep 38 = .ok (.iconst 2, 1) := by decide +kernel
theorem dX5_keep_39 : decode cX5_keep 39 = .ok (.if_icmp .eq 8, 3) := by decide +kernel
theorem dX5_keep_42 : decode cX5_keep 42 = .ok (.iload_n 3, 1) := by decide +kernel
theorem dX5_keep_43 : decode cX5_keep 43 = .ok (.iconst 5, 1) := by decide +kernel
theorem dX5_keep_44 : decode cX5_keep 44 = .ok (.if_icmp .ne 32, 3) := by decide +kernel
theorem dX5_keep_47 : decode cX5_keep 47 = .ok (.aload_n 0, 1) := by decide +kernel
theorem dX5_keep_48 : decode cX5_keep 48 = .ok (.getfield 27, 3) := by decide +kernel
theorem dX5_keep_51 : decode cX5_keep 51 = .ok (.iload_n 1, 1) := by decide +kernel
theorem dX5_keep_52 : decode cX5_keep 52 = .ok (.aload_n 0, 1) := by decide +kernel
theorem dX5_keep_53 : decode cX5_keep 53 = .ok (.getfield 36, 3) := by decide +kernel
theorem dX5_keep_56 : decode cX5_keep 56 = .ok (.getfield 96, 3) := by decide +kernel
theorem dX5_keep_59 : decode cX5_keep 59 = .ok (.iconst 0, 1) := by decide +kernel
theorem dX5_keep_60 : decode cX5_keep 60 = .ok (.iaload, 1) := by decide +kernel
theorem dX5_keep_61 : decode cX5_keep 61 = .ok (.aload_n 0, 1) := by decide +kernel
theorem dX5_keep_62 : decode cX5_keep 62 = .ok (.getfield 36, 3) := by decide +kernel
theorem dX5_keep_65 : decode cX5_keep 65 = .ok (.getfield 96, 3) := by decide +kernel
theorem dX5_keep_68 : decode cX5_keep 68 = .ok (.iconst 1, 1) := by decide +kernel
theorem dX5_keep_69 : decode cX5_keep 69 = .ok (.iaload, 1) := by decide +kernel
theorem dX5_keep_70 : decode cX5_keep 70 = .ok (.invokevirtual 99, 3) := by decide +kernel
theorem dX5_keep_73 : decode cX5_keep 73 = .ok (.goto 13, 3) := by decide +kernel
theorem dX5_keep_76 : decode cX5_keep 76 = .ok (.aload_n 0, 1) := by decide +kernel
theorem dX5_keep_77 : decode cX5_keep 77 = .ok (.getfield 27, 3) := by decide +kernel
theorem dX5_keep_80 : decode cX5_keep 80 = .ok (.iload_n 1, 1) := by decide +kernel
theorem dX5_keep_81 : decode cX5_keep 81 = .ok (.iconst (-1), 1) := by decide +kernel
theorem dX5_keep_82 : decode cX5_keep 82 = .ok (.iconst (-1), 1) := by decide +kernel
theorem dX5_keep_83 : decode cX5_keep 83 = .ok (.invokevirtual 99, 3) := by decide +kernel
theorem dX5_keep_86 : decode cX5_keep 86 = .ok (.return_, 1) := by decide +kernel
theorem dX5_none_0 : decode cX5_none 0 = .ok (.aload_n 0, 1) := by decide +kernel
theorem dX5_none_1 : decode cX5_none 1 = .ok (.iload_n 1, 1) := by decide +kernel
theorem dX5_none_2 : decode cX5_none 2 = .ok (.putfield 9, 3) := by decide +kernel
theorem dX5_none_5 : decode cX5_none 5 = .ok (.iconst (-1), 1) := by decide +kernel
theorem dX5_none_6 : decode cX5_none 6 = .ok (.ireturn, 1) := by decide +kernel
set_option maxRecDepth 20000 in
theorem ggX5_orFault_X5_none : GoodIn wsX5_orFault wsX5_none := goodIn_r _ [5, 6, 7, 8, 9, 10, 11, 12] (by decide +kernel) (by decide +kernel)
set_option maxRecDepth 20000 in
theorem gX5_orFault_X5_none : GoodIn wsX5_orFault (wsV RX5 62 RX5 yX5_none wsX5_none) := goodIn_app (goodIn_of _ (by decide +kernel)) ggX5_orFault_X5_none
theorem dX5_orFault_0 : decode cX5_orFault 0 = .ok (.iload_n 1, 1) := by decide +kernel
theorem dX5_orFault_1 : decode cX5_orFault 1 = .ok (.ifCond .lt 5, 3) := by decide +kernel
theorem dX5_orFault_4 : decode cX5_orFault 4 = .ok (.iload_n 1, 1) := by decide +kernel
theorem dX5_orFault_5 : decode cX5_orFault 5 = .ok (.ireturn, 1) := by decide +kernel
theorem dX5_orFault_6 : decode cX5_orFault 6 = .ok (.aload_n 0, 1) := by decide +kernel
theorem dX5_orFault_7 : decode cX5_orFault 7 = .ok (.iload_n 1, 1) := by decide +kernel
theorem dX5_orFault_8 : decode cX5_orFault 8 = .ok (.bipush (-3), 2) := by decide +kernel
theorem dX5_orFault_10 : decode cX5_orFault 10 = .ok (.if_icmp .ne 8, 3) := by decide +kernel
theorem dX5_orFault_13 : decode cX5_orFault 13 = .ok (.bipush 8, 2) := by decide +kernel
theorem dX5_orFault_15 : decode cX5_orFault 15 = .ok (.goto 4, 3) := by decide +kernel
theorem dX5_orFault_18 : decode cX5_orFault 18 = .ok (.iload_n 2, 1) := by decide +kernel
theorem dX5_orFault_19 : decode cX5_orFault 19 = .ok (.invokevirtual 62, 3) := by decide +kernel
theorem dX5_orFault_22 : decode cX5_orFault 22 = .ok (.ireturn, 1) := by decide +kernel
set_option maxRecDepth 20000 in
theorem ggX5_filtered_X5_none : GoodIn wsX5_filtered wsX5_none := goodIn_r _ [5, 6, 7, 8, 9, 10, 11, 12] (by decide +kernel) (by decide +kernel)
set_option maxRecDepth 20000 in
theorem gX5_filtered_X5_none : GoodIn wsX5_filtered (wsV RX5 62 RX5 yX5_none wsX5_none) := goodIn_app (goodIn_of _ (by decide +kernel)) ggX5_filtered_X5_none
theorem dX5_filtered_0 : decode cX5_filtered 0 = .ok (.iload_n 2, 1) := by decide +kernel
theorem dX5_filtered_1 : decode cX5_filtered 1 = .ok (.iconst (-1), 1) := by decide +kernel
theorem dX5_filtered_2 : decode cX5_filtered 2 = .ok (.if_icmp .ne 5, 3) := by decide +kernel
theorem dX5_filtered_5 : decode cX5_filtered 5 = .ok (.iconst (-1), 1) := by decide +kernel
theorem dX5_filtered_6 : decode cX5_filtered 6 = .ok (.ireturn, 1) := by decide +kernel
theorem dX5_filtered_7 : decode cX5_filtered 7 = .ok (.iload_n 2, 1) := by decide +kernel
theorem dX5_filtered_8 : decode cX5_filtered 8 = .ok (.ifCond .ne 7, 3) := by decide +kernel
theorem dX5_filtered_11 : decode cX5_filtered 11 = .ok (.iload_n 1, 1) := by decide +kernel
theorem dX5_filtered_12 : decode cX5_filtered 12 = .ok (.goto 8, 3) := by decide +kernel
theorem dX5_filtered_15 : decode cX5_filtered 15 = .ok (.aload_n 0, 1) := by decide +kernel
theorem dX5_filtered_16 : decode cX5_filtered 16 = .ok (.iconst 1, 1) := by decide +kernel
theorem dX5_filtered_17 : decode cX5_filtered 17 = .ok (.invokevirtual 62, 3) := by decide +kernel
theorem dX5_filtered_20 : decode cX5_filtered 20 = .ok (.ireturn, 1) := by decide +kernel
set_option maxRecDepth 20000 in
theorem ggX5_memberOf_X6_isPrimitive : GoodIn wsX5_memberOf wsX6_isPrimitive := goodIn_r _ [9] (by decide +kernel) (by decide +kernel)
set_option maxRecDepth 20000 in
theorem gX5_memberOf_X6_isPrimitive_n103 : GoodIn wsX5_memberOf (wsX6_isPrimitive) := ggX5_memberOf_X6_isPrimitive
set_option maxRecDepth 20000 in
theorem ggX5_memberOf_X5_none : GoodIn wsX5_memberOf wsX5_none := goodIn_r _ [14, 15, 58, 59, 60, 61, 62, 63] (by decide +kernel) (by decide +kernel)
set_option maxRecDepth 20000 in
theorem gX5_memberOf_X5_none : GoodIn wsX5_memberOf (wsV RX5 62 RX5 yX5_none wsX5_none) := goodIn_app (goodIn_of _ (by decide +kernel)) ggX5_memberOf_X5_none
set_option maxRecDepth 20000 in
theorem ggX5_memberOf_X4_seenAs : GoodIn wsX5_memberOf wsX4_seenAs := goodIn_r _ [20, 21, 22, 23, 24, 25, 26, 27, 19, 28, 29, 30, 31, 32, 33, 34, 35, 36, 37, 38, 39, 40, 41, 42, 43, 44, 45, 46, 47, 48, 49, 50, 51, 52, 67, 68, 69, 70, 71, 72, 73, 74, 75, 76] (by decide +kernel) (by decide +kernel)
set_option maxRecDepth 20000 in
theorem gX5_memberOf_X4_seenAs : GoodIn wsX5_memberOf (wsV RX5 111 RX4 yX4_seenAs wsX4_seenAs) := goodIn_app (goodIn_of _ (by decide +kernel)) ggX5_memberOf_X4_seenAs
set_option maxRecDepth 20000 in
theorem ggX5_memberOf_X5_orFault : GoodIn wsX5_memberOf wsX5_orFault := goodIn_r _ [56, 10, 11, 12, 13, 14, 15, 58, 59, 60, 61, 62, 63] (by decide +kernel) (by decide +kernel)
set_option maxRecDepth 20000 in
theorem gX5_memberOf_X5_orFault : GoodIn wsX5_memberOf (wsV RX5 71 RX5 yX5_orFault wsX5_orFault) := goodIn_app (goodIn_of _ (by decide +kernel)) ggX5_memberOf_X5_orFault
set_option maxRecDepth 20000 in
theorem ggX5_memberOf_X4_putIn : GoodIn wsX5_memberOf wsX4_putIn := goodIn_r _ [36, 37, 38, 39, 40, 21, 23, 24, 41, 42, 43, 19, 44, 45, 46, 47, 48, 49, 50, 51, 52, 67, 68, 69, 70, 71, 72, 73, 74, 75, 76] (by decide +kernel) (by decide +kernel)
set_option maxRecDepth 20000 in
theorem gX5_memberOf_X4_putIn : GoodIn wsX5_memberOf (wsV RX5 121 RX4 yX4_putIn wsX4_putIn) := goodIn_app (goodIn_of _ (by decide +kernel)) ggX5_memberOf_X4_putIn
theorem dX5_memberOf_0 : decode cX5_memberOf 0 = .ok (.iload_n 1, 1) := by decide +kernel
theorem dX5_memberOf_1 : decode cX5_memberOf 1 = .ok (.invokestatic 103, 3) := by decide +kernel
theorem dX5_memberOf_4 : decode cX5_memberOf 4 = .ok (.ifCond .eq 9, 3) := by decide +kernel
theorem dX5_memberOf_7 : decode cX5_memberOf 7 = .ok (.aload_n 0, 1) := by decide +kernel
theorem dX5_memberOf_8 : decode cX5_memberOf 8 = .ok (.iconst 5, 1) := by decide +kernel
theorem dX5_memberOf_9 : decode cX5_memberOf 9 = .ok (.invokevirtual 62, 3) := by decide +kernel
theorem dX5_memberOf_12 : decode cX5_memberOf 12 = .ok (.ireturn, 1) := by decide +kernel
theorem dX5_memberOf_13 : decode cX5_memberOf 13 = .ok (.aload_n 0, 1) := by decide +kernel
theorem dX5_memberOf_14 : decode cX5_memberOf 14 = .ok (.aload_n 0, 1) := by decide +kernel
theorem dX5_memberOf_15 : decode cX5_memberOf 15 = .ok (.getfield 19, 3) := by decide +kernel
theorem dX5_memberOf_18 : decode cX5_memberOf 18 = .ok (.iload_n 1, 1) := by decide +kernel
theorem dX5_memberOf_19 : decode cX5_memberOf 19 = .ok (.aload_n 0, 1) := by decide +kernel
theorem dX5_memberOf_20 : decode cX5_memberOf 20 = .ok (.getfield 23, 3) := by decide +kernel
theorem dX5_memberOf_23 : decode cX5_memberOf 23 = .ok (.getfield 106, 3) := by decide +kernel
theorem dX5_memberOf_26 : decode cX5_memberOf 26 = .ok (.iload_n 2, 1) := by decide +kernel
theorem dX5_memberOf_27 : decode cX5_memberOf 27 = .ok (.iaload, 1) := by decide +kernel
theorem dX5_memberOf_28 : decode cX5_memberOf 28 = .ok (.invokevirtual 111, 3) := by decide +kernel
theorem dX5_memberOf_31 : decode cX5_memberOf 31 = .ok (.iconst 5, 1) := by decide +kernel
theorem dX5_memberOf_32 : decode cX5_memberOf 32 = .ok (.invokevirtual 71, 3) := by decide +kernel
theorem dX5_memberOf_35 : decode cX5_memberOf 35 = .ok (.istore_n 3, 1) := by decide +kernel
theorem dX5_memberOf_36 : decode cX5_memberOf 36 = .ok (.iload_n 3, 1) := by decide +kernel
theorem dX5_memberOf_37 : decode cX5_memberOf 37 = .ok (.iconst (-1), 1) := by decide +kernel
theorem dX5_memberOf_38 : decode cX5_memberOf 38 = .ok (.if_icmp .ne 5, 3) := by decide +kernel
theorem dX5_memberOf_41 : decode cX5_memberOf 41 = .ok (.iconst (-1), 1) := by decide +kernel
theorem dX5_memberOf_42 : decode cX5_memberOf 42 = .ok (.ireturn, 1) := by decide +kernel
theorem dX5_memberOf_43 : decode cX5_memberOf 43 = .ok (.aload_n 0, 1) := by decide +kernel
theorem dX5_memberOf_44 : decode cX5_memberOf 44 = .ok (.getfield 23, 3) := by decide +kernel
theorem dX5_memberOf_47 : decode cX5_memberOf 47 = .ok (.getfield 114, 3) := by decide +kernel
theorem dX5_memberOf_50 : decode cX5_memberOf 50 = .ok (.iload_n 2, 1) := by decide +kernel
theorem dX5_memberOf_51 : decode cX5_memberOf 51 = .ok (.iaload, 1) := by decide +kernel
theorem dX5_memberOf_52 : decode cX5_memberOf 52 = .ok (.istore 4, 2) := by decide +kernel
theorem dX5_memberOf_54 : decode cX5_memberOf 54 = .ok (.aload_n 0, 1) := by decide +kernel
theorem dX5_memberOf_55 : decode cX5_memberOf 55 = .ok (.aload_n 0, 1) := by decide +kernel
theorem dX5_memberOf_56 : decode cX5_memberOf 56 = .ok (.getfield 19, 3) := by decide +kernel
theorem dX5_memberOf_59 : decode cX5_memberOf 59 = .ok (.iload 4, 2) := by decide +kernel
theorem dX5_memberOf_61 : decode cX5_memberOf 61 = .ok (.aload_n 0, 1) := by decide +kernel
theorem dX5_memberOf_62 : decode cX5_memberOf 62 = .ok (.getfield 19, 3) := by decide +kernel
theorem dX5_memberOf_65 : decode cX5_memberOf 65 = .ok (.getfield 115, 3) := by decide +kernel
theorem dX5_memberOf_68 : decode cX5_memberOf 68 = .ok (.iload_n 3, 1) := by decide +kernel
theorem dX5_memberOf_69 : decode cX5_memberOf 69 = .ok (.iaload, 1) := by decide +kernel
theorem dX5_memberOf_70 : decode cX5_memberOf 70 = .ok (.aload_n 0, 1) := by decide +kernel
theorem dX5_memberOf_71 : decode cX5_memberOf 71 = .ok (.getfield 19, 3) := by decide +kernel
theorem dX5_memberOf_74 : decode cX5_memberOf 74 = .ok (.getfield 118, 3) := by decide +kernel
theorem dX5_memberOf_77 : decode cX5_memberOf 77 = .ok (.iload_n 3, 1) := by decide +kernel
theorem dX5_memberOf_78 : decode cX5_memberOf 78 = .ok (.iaload, 1) := by decide +kernel
theorem dX5_memberOf_79 : decode cX5_memberOf 79 = .ok (.invokevirtual 121, 3) := by decide +kernel
theorem dX5_memberOf_82 : decode cX5_memberOf 82 = .ok (.bipush 8, 2) := by decide +kernel
theorem dX5_memberOf_84 : decode cX5_memberOf 84 = .ok (.invokevirtual 71, 3) := by decide +kernel
theorem dX5_memberOf_87 : decode cX5_memberOf 87 = .ok (.ireturn, 1) := by decide +kernel
set_option maxRecDepth 20000 in
theorem ggX5_joined_X5_memberOf : GoodIn wsX5_joined wsX5_memberOf := goodIn_r _ [10, 4, 11, 12, 13, 14, 15, 16, 17, 18, 19, 20, 21, 9, 22, 23, 24, 25, 26, 27, 28, 29, 30, 31, 32, 33, 34, 35, 36, 37, 38, 39, 40, 41, 42, 43, 44, 45, 46, 47, 48, 49, 50, 51, 52, 53, 54, 55, 56, 57, 58, 59, 60, 61, 62, 63, 64, 65, 74, 75, 76, 77, 78, 79, 91, 92, 93, 94, 95, 96, 97, 98, 99, 100, 101, 102, 103] (by decide +kernel) (by decide +kernel)
set_option maxRecDepth 20000 in
theorem gX5_joined_X5_memberOf : GoodIn wsX5_joined (wsV RX5 78 RX5 yX5_memberOf wsX5_memberOf) := goodIn_app (goodIn_of _ (by decide +kernel)) ggX5_joined_X5_memberOf
set_option maxRecDepth 20000 in
theorem ggX5_joined_X4_goesFor : GoodIn wsX5_joined wsX4_goesFor := goodIn_r _ [69, 29, 70, 17, 71, 16, 18, 72, 25, 26, 27, 28, 30, 31, 32, 33, 34, 35, 36, 37, 38, 39, 40, 41, 42, 43, 44, 45, 46, 47, 48, 49, 50, 51, 52, 53, 54, 55, 56, 57, 58, 59, 60, 94, 95, 96, 97, 98, 99, 100, 101, 102, 103] (by decide +kernel) (by decide +kernel)
set_option maxRecDepth 20000 in
theorem gX5_joined_X4_goesFor : GoodIn wsX5_joined (wsV RX5 127 RX4 yX4_goesFor wsX4_goesFor) := goodIn_app (goodIn_of _ (by decide +kernel)) ggX5_joined_X4_goesFor
set_option maxRecDepth 20000 in
theorem ggX5_joined_X5_none : GoodIn wsX5_joined wsX5_none := goodIn_r _ [22, 23, 74, 75, 76, 77, 78, 79] (by decide +kernel) (by decide +kernel)
set_option maxRecDepth 20000 in
theorem gX5_joined_X5_none : GoodIn wsX5_joined (wsV RX5 62 RX5 yX5_none wsX5_none) := goodIn_app (goodIn_of _ (by decide +kernel)) ggX5_joined_X5_none
set_option maxRecDepth 20000 in
theorem ggX5_joined_X4_make : GoodIn wsX5_joined wsX4_make := goodIn_r _ [60, 45, 29, 31, 32, 47, 94, 95, 96, 97, 98, 99, 100, 101, 102, 103] (by decide +kernel) (by decide +kernel)
set_option maxRecDepth 20000 in
theorem gX5_joined_X4_make : GoodIn wsX5_joined (wsV RX5 133 RX4 yX4_make wsX4_make) := goodIn_app (goodIn_of _ (by decide +kernel)) ggX5_joined_X4_make
set_option maxRecDepth 20000 in
theorem ggX5_joined_X5_orFault : GoodIn wsX5_joined wsX5_orFault := goodIn_r _ [64, 19, 20, 21, 9, 22, 23, 74, 75, 76, 77, 78, 79] (by decide +kernel) (by decide +kernel)
set_option maxRecDepth 20000 in
theorem gX5_joined_X5_orFault : GoodIn wsX5_joined (wsV RX5 71 RX5 yX5_orFault wsX5_orFault) := goodIn_app (goodIn_of _ (by decide +kernel)) ggX5_joined_X5_orFault
theorem dX5_joined_0 : decode cX5_joined 0 = .ok (.aload_n 0, 1) := by decide +kernel
theorem dX5_joined_1 : decode cX5_joined 1 = .ok (.iload_n 2, 1) := by decide +kernel
theorem dX5_joined_2 : decode cX5_joined 2 = .ok (.aload_n 0, 1) := by decide +kernel
theorem dX5_joined_3 : decode cX5_joined 3 = .ok (.getfield 27, 3) := by decide +kernel
theorem dX5_joined_6 : decode cX5_joined 6 = .ok (.getfield 40, 3) := by decide +kernel
theorem dX5_joined_9 : decode cX5_joined 9 = .ok (.iload_n 1, 1) := by decide +kernel
theorem dX5_joined_10 : decode cX5_joined 10 = .ok (.iaload, 1) := by decide +kernel
theorem dX5_joined_11 : decode cX5_joined 11 = .ok (.invokevirtual 78, 3) := by decide +kernel
theorem dX5_joined_14 : decode cX5_joined 14 = .ok (.istore 4, 2) := by decide +kernel
theorem dX5_joined_16 : decode cX5_joined 16 = .ok (.iload 4, 2) := by decide +kernel
theorem dX5_joined_18 : decode cX5_joined 18 = .ok (.iconst (-1), 1) := by decide +kernel
theorem dX5_joined_19 : decode cX5_joined 19 = .ok (.if_icmp .ne 5, 3) := by decide +kernel
theorem dX5_joined_22 : decode cX5_joined 22 = .ok (.iconst (-1), 1) := by decide +kernel
theorem dX5_joined_23 : decode cX5_joined 23 = .ok (.ireturn, 1) := by decide +kernel
theorem dX5_joined_24 : decode cX5_joined 24 = .ok (.aload_n 0, 1) := by decide +kernel
theorem dX5_joined_25 : decode cX5_joined 25 = .ok (.iload_n 3, 1) := by decide +kernel
theorem dX5_joined_26 : decode cX5_joined 26 = .ok (.aload_n 0, 1) := by decide +kernel
theorem dX5_joined_27 : decode cX5_joined 27 = .ok (.getfield 27, 3) := by decide +kernel
theorem dX5_joined_30 : decode cX5_joined 30 = .ok (.getfield 124, 3) := by decide +kernel
theorem dX5_joined_33 : decode cX5_joined 33 = .ok (.iload_n 1, 1) := by decide +kernel
theorem dX5_joined_34 : decode cX5_joined 34 = .ok (.iaload, 1) := by decide +kernel
theorem dX5_joined_35 : decode cX5_joined 35 = .ok (.invokevirtual 78, 3) := by decide +kernel
theorem dX5_joined_38 : decode cX5_joined 38 = .ok (.istore 5, 2) := by decide +kernel
theorem dX5_joined_40 : decode cX5_joined 40 = .ok (.iload 5, 2) := by decide +kernel
theorem dX5_joined_42 : decode cX5_joined 42 = .ok (.iconst (-1), 1) := by decide +kernel
theorem dX5_joined_43 : decode cX5_joined 43 = .ok (.if_icmp .ne 5, 3) := by decide +kernel
theorem dX5_joined_46 : decode cX5_joined 46 = .ok (.iconst (-1), 1) := by decide +kernel
theorem dX5_joined_47 : decode cX5_joined 47 = .ok (.ireturn, 1) := by decide +kernel
theorem dX5_joined_48 : decode cX5_joined 48 = .ok (.aload_n 0, 1) := by decide +kernel
theorem dX5_joined_49 : decode cX5_joined 49 = .ok (.getfield 19, 3) := by decide +kernel
theorem dX5_joined_52 : decode cX5_joined 52 = .ok (.iload 4, 2) := by decide +kernel
theorem dX5_joined_54 : decode cX5_joined 54 = .ok (.iload 5, 2) := by decide +kernel
theorem dX5_joined_56 : decode cX5_joined 56 = .ok (.invokevirtual 127, 3) := by decide +kernel
theorem dX5_joined_59 : decode cX5_joined 59 = .ok (.istore 6, 2) := by decide +kernel
theorem dX5_joined_61 : decode cX5_joined 61 = .ok (.iload 6, 2) := by decide +kernel
theorem dX5_joined_63 : decode cX5_joined 63 = .ok (.ifCond .ne 16, 3) := by decide +kernel
theorem dX5_joined_66 : decode cX5_joined 66 = .ok (.aload_n 0, 1) := by decide +kernel
theorem dX5_joined_67 : decode cX5_joined 67 = .ok (.getfield 19, 3) := by decide +kernel
theorem dX5_joined_70 : decode cX5_joined 70 = .ok (.iload 5, 2) := by decide +kernel
theorem dX5_joined_72 : decode cX5_joined 72 = .ok (.iload 4, 2) := by decide +kernel
theorem dX5_joined_74 : decode cX5_joined 74 = .ok (.invokevirtual 127, 3) := by decide +kernel
theorem dX5_joined_77 : decode cX5_joined 77 = .ok (.istore 6, 2) := by decide +kernel
theorem dX5_joined_79 : decode cX5_joined 79 = .ok (.iload 6, 2) := by decide +kernel
theorem dX5_joined_81 : decode cX5_joined 81 = .ok (.iconst 1, 1) := by decide +kernel
theorem dX5_joined_82 : decode cX5_joined 82 = .ok (.if_icmp .eq 22, 3) := by decide +kernel
theorem dX5_joined_85 : decode cX5_joined 85 = .ok (.aload_n 0, 1) := by decide +kernel
theorem dX5_joined_86 : decode cX5_joined 86 = .ok (.iload 6, 2) := by decide +kernel
theorem dX5_joined_88 : decode cX5_joined 88 = .ok (.bipush (-3), 2) := by decide +kernel
theorem dX5_joined_90 : decode cX5_joined 90 = .ok (.if_icmp .ne 8, 3) := by decide +kernel
theorem dX5_joined_93 : decode cX5_joined 93 = .ok (.bipush 8, 2) := by decide +kernel
theorem dX5_joined_95 : decode cX5_joined 95 = .ok (.goto 5, 3) := by decide +kernel
theorem dX5_joined_98 : decode cX5_joined 98 = .ok (.bipush 6, 2) := by decide +kernel
theorem dX5_joined_100 : decode cX5_joined 100 = .ok (.invokevirtual 62, 3) := by decide +kernel
theorem dX5_joined_103 : decode cX5_joined 103 = .ok (.ireturn, 1) := by decide +kernel
theorem dX5_joined_104 : decode cX5_joined 104 = .ok (.aload_n 0, 1) := by decide +kernel
theorem dX5_joined_105 : decode cX5_joined 105 = .ok (.aload_n 0, 1) := by decide +kernel
theorem dX5_joined_106 : decode cX5_joined 106 = .ok (.getfield 19, 3) := by decide +kernel
theorem dX5_joined_109 : decode cX5_joined 109 = .ok (.aload_n 0, 1) := by decide +kernel
theorem dX5_joined_110 : decode cX5_joined 110 = .ok (.getfield 27, 3) := by decide +kernel
theorem dX5_joined_113 : decode cX5_joined 113 = .ok (.getfield 130, 3) := by decide +kernel
theorem dX5_joined_116 : decode cX5_joined 116 = .ok (.iload_n 1, 1) := by decide +kernel
theorem dX5_joined_117 : decode cX5_joined 117 = .ok (.iaload, 1) := by decide +kernel
theorem dX5_joined_118 : decode cX5_joined 118 = .ok (.iload_n 2, 1) := by decide +kernel
theorem dX5_joined_119 : decode cX5_joined 119 = .ok (.iload_n 3, 1) := by decide +kernel
theorem dX5_joined_120 : decode cX5_joined 120 = .ok (.invokevirtual 133, 3) := by decide +kernel
theorem dX5_joined_123 : decode cX5_joined 123 = .ok (.bipush 8, 2) := by decide +kernel
theorem dX5_joined_125 : decode cX5_joined 125 = .ok (.invokevirtual 71, 3) := by decide +kernel
theorem dX5_joined_128 : decode cX5_joined 128 = .ok (.ireturn, 1) := by decide +kernel
set_option maxRecDepth 20000 in
theorem ggX5_castTo_X4_goesFor : GoodIn wsX5_castTo wsX4_goesFor := goodIn_r _ [7, 8, 9, 10, 11, 12, 13, 14, 15, 16, 6, 17, 18, 19, 20, 21, 22, 23, 24, 25, 26, 27, 28, 29, 30, 31, 32, 33, 34, 35, 36, 37, 38, 39, 40, 41, 42, 43, 44, 45, 46, 47, 48, 64, 65, 66, 67, 68, 69, 70, 71, 72, 73] (by decide +kernel) (by decide +kernel)
set_option maxRecDepth 20000 in
theorem gX5_castTo_X4_goesFor : GoodIn wsX5_castTo (wsV RX5 127 RX4 yX4_goesFor wsX4_goesFor) := goodIn_app (goodIn_of _ (by decide +kernel)) ggX5_castTo_X4_goesFor
set_option maxRecDepth 20000 in
theorem ggX5_castTo_X5_isNumber : GoodIn wsX5_castTo wsX5_isNumber := goodIn_r _ [52, 12, 10, 13] (by decide +kernel) (by decide +kernel)
set_option maxRecDepth 20000 in
theorem gX5_castTo_X5_isNumber : GoodIn wsX5_castTo (va_wsS RX5 136 yX5_isNumber wsX5_isNumber) := goodIn_app (goodIn_of _ (by decide +kernel)) ggX5_castTo_X5_isNumber
set_option maxRecDepth 20000 in
theorem ggX5_castTo_X5_none : GoodIn wsX5_castTo wsX5_none := goodIn_r _ [56, 57, 58, 59, 60, 61, 62, 63] (by decide +kernel) (by decide +kernel)
set_option maxRecDepth 20000 in
theorem gX5_castTo_X5_none : GoodIn wsX5_castTo (wsV RX5 62 RX5 yX5_none wsX5_none) := goodIn_app (goodIn_of _ (by decide +kernel)) ggX5_castTo_X5_none
theorem dX5_castTo_0 : decode cX5_castTo 0 = .ok (.aload_n 0, 1) := by decide +kernel
theorem dX5_castTo_1 : decode cX5_castTo 1 = .ok (.getfield 19, 3) := by decide +kernel
theorem dX5_castTo_4 : decode cX5_castTo 4 = .ok (.iload_n 1, 1) := by decide +kernel
theorem dX5_castTo_5 : decode cX5_castTo 5 = .ok (.iload_n 2, 1) := by decide +kernel
theorem dX5_castTo_6 : decode cX5_castTo 6 = .ok (.invokevirtual 127, 3) := by decide +kernel
theorem dX5_castTo_9 : decode cX5_castTo 9 = .ok (.istore_n 3, 1) := by decide +kernel
theorem dX5_castTo_10 : decode cX5_castTo 10 = .ok (.iload_n 3, 1) := by decide +kernel
theorem dX5_castTo_11 : decode cX5_castTo 11 = .ok (.ifCond .ne 41, 3) := by decide +kernel
theorem dX5_castTo_14 : decode cX5_castTo 14 = .ok (.aload_n 0, 1) := by decide +kernel
theorem dX5_castTo_15 : decode cX5_castTo 15 = .ok (.getfield 19, 3) := by decide +kernel
theorem dX5_castTo_18 : decode cX5_castTo 18 = .ok (.iload_n 2, 1) := by decide +kernel
theorem dX5_castTo_19 : decode cX5_castTo 19 = .ok (.iload_n 1, 1) := by decide +kernel
theorem dX5_castTo_20 : decode cX5_castTo 20 = .ok (.invokevirtual 127, 3) := by decide +kernel
theorem dX5_castTo_23 : decode cX5_castTo 23 = .ok (.istore_n 3, 1) := by decide +kernel
theorem dX5_castTo_24 : decode cX5_castTo 24 = .ok (.aload_n 0, 1) := by decide +kernel
theorem dX5_castTo_25 : decode cX5_castTo 25 = .ok (.iload_n 3, 1) := by decide +kernel
theorem dX5_castTo_26 : decode cX5_castTo 26 = .ok (.iconst 1, 1) := by decide +kernel
theorem dX5_castTo_27 : decode cX5_castTo 27 = .ok (.if_icmp .eq 17, 3) := by decide +kernel
theorem dX5_castTo_30 : decode cX5_castTo 30 = .ok (.iload_n 1, 1) := by decide +kernel
theorem dX5_castTo_31 : decode cX5_castTo 31 = .ok (.invokestatic 136, 3) := by decide +kernel
theorem dX5_castTo_34 : decode cX5_castTo 34 = .ok (.ifCond .eq 14, 3) := by decide +kernel
theorem dX5_castTo_37 : decode cX5_castTo 37 = .ok (.iload_n 2, 1) := by decide +kernel
theorem dX5_castTo_38 : decode cX5_castTo 38 = .ok (.invokestatic 136, 3) := by decide +kernel
theorem dX5_castTo_41 : decode cX5_castTo 41 = .ok (.ifCond .eq 7, 3) := by decide +kernel
theorem dX5_castTo_44 : decode cX5_castTo 44 = .ok (.iconst 1, 1) := by decide +kernel
theorem dX5_castTo_45 : decode cX5_castTo 45 = .ok (.goto 4, 3) := by decide +kernel
theorem dX5_castTo_48 : decode cX5_castTo 48 = .ok (.iconst 0, 1) := by decide +kernel
theorem dX5_castTo_49 : decode cX5_castTo 49 = .ok (.putfield 15, 3) := by decide +kernel
theorem dX5_castTo_52 : decode cX5_castTo 52 = .ok (.iload_n 3, 1) := by decide +kernel
theorem dX5_castTo_53 : decode cX5_castTo 53 = .ok (.bipush (-3), 2) := by decide +kernel
theorem dX5_castTo_55 : decode cX5_castTo 55 = .ok (.if_icmp .ne 10, 3) := by decide +kernel
theorem dX5_castTo_58 : decode cX5_castTo 58 = .ok (.aload_n 0, 1) := by decide +kernel
theorem dX5_castTo_59 : decode cX5_castTo 59 = .ok (.bipush 8, 2) := by decide +kernel
theorem dX5_castTo_61 : decode cX5_castTo 61 = .ok (.invokevirtual 62, 3) := by decide +kernel
theorem dX5_castTo_64 : decode cX5_castTo 64 = .ok (.ireturn, 1) := by decide +kernel
theorem dX5_castTo_65 : decode cX5_castTo 65 = .ok (.iload_n 3, 1) := by decide +kernel
theorem dX5_castTo_66 : decode cX5_castTo 66 = .ok (.iconst 1, 1) := by decide +kernel
theorem dX5_castTo_67 : decode cX5_castTo 67 = .ok (.if_icmp .eq 10, 3) := by decide +kernel
theorem dX5_castTo_70 : decode cX5_castTo 70 = .ok (.aload_n 0, 1) := by decide +kernel
theorem dX5_castTo_71 : decode cX5_castTo 71 = .ok (.getfield 15, 3) := by decide +kernel
theorem dX5_castTo_74 : decode cX5_castTo 74 = .ok (.ifCond .eq 7, 3) := by decide +kernel
theorem dX5_castTo_77 : decode cX5_castTo 77 = .ok (.iload_n 2, 1) := by decide +kernel
theorem dX5_castTo_78 : decode cX5_castTo 78 = .ok (.goto 9, 3) := by decide +kernel
theorem dX5_castTo_81 : decode cX5_castTo 81 = .ok (.aload_n 0, 1) := by decide +kernel
theorem dX5_castTo_82 : decode cX5_castTo 82 = .ok (.bipush 6, 2) := by decide +kernel
theorem dX5_castTo_84 : decode cX5_castTo 84 = .ok (.invokevirtual 62, 3) := by decide +kernel
theorem dX5_castTo_87 : decode cX5_castTo 87 = .ok (.ireturn, 1) := by decide +kernel
set_option maxRecDepth 20000 in
theorem ggX5_isNumber_X6_isPrimitive : GoodIn wsX5_isNumber wsX6_isPrimitive := goodIn_r _ [3] (by decide +kernel) (by decide +kernel)
set_option maxRecDepth 20000 in
theorem gX5_isNumber_X6_isPrimitive_n103 : GoodIn wsX5_isNumber (wsX6_isPrimitive) := ggX5_isNumber_X6_isPrimitive
theorem dX5_isNumber_0 : decode cX5_isNumber 0 = .ok (.iload_n 0, 1) := by decide +kernel
theorem dX5_isNumber_1 : decode cX5_isNumber 1 = .ok (.invokestatic 103, 3) := by decide +kernel
theorem dX5_isNumber_4 : decode cX5_isNumber 4 = .ok (.ifCond .eq 11, 3) := by decide +kernel
theorem dX5_isNumber_7 : decode cX5_isNumber 7 = .ok (.iload_n 0, 1) := by decide +kernel
theorem dX5_isNumber_8 : decode cX5_isNumber 8 = .ok (.ifCond .eq 7, 3) := by decide +kernel
theorem dX5_isNumber_11 : decode cX5_isNumber 11 = .ok (.iconst 1, 1) := by decide +kernel
theorem dX5_isNumber_12 : decode cX5_isNumber 12 = .ok (.goto 4, 3) := by decide +kernel
theorem dX5_isNumber_15 : decode cX5_isNumber 15 = .ok (.iconst 0, 1) := by decide +kernel
theorem dX5_isNumber_16 : decode cX5_isNumber 16 = .ok (.ireturn, 1) := by decide +kernel
set_option maxRecDepth 20000 in
theorem ggX6_init_X4_init : GoodIn wsX6_init wsX4_init := goodIn_r _ [26, 27, 2, 3, 28, 29, 30, 31, 32, 33, 34, 35, 36, 37, 38, 39, 40, 41, 6, 42, 43, 44, 45, 46, 47, 48, 49, 50, 104, 105, 106, 107, 108, 109, 110, 111, 112, 113] (by decide +kernel) (by decide +kernel)
set_option maxRecDepth 20000 in
theorem gX6_init_X4_init : GoodIn wsX6_init (wsX4_init) := ggX6_init_X4_init
set_option maxRecDepth 20000 in
theorem ggX6_init_X1_init : GoodIn wsX6_init wsX1_init := goodIn_r _ [52, 53, 2, 3, 54, 29, 55, 56, 119, 120, 121] (by decide +kernel) (by decide +kernel)
set_option maxRecDepth 20000 in
theorem gX6_init_X1_init_n18 : GoodIn wsX6_init (wsX1_init) := ggX6_init_X1_init
set_option maxRecDepth 20000 in
theorem ggX6_init_X0_init : GoodIn wsX6_init wsX0_init := goodIn_r _ [58, 59, 2, 3, 60, 29, 61, 62, 63, 64, 122, 123, 124, 125, 126] (by decide +kernel) (by decide +kernel)
set_option maxRecDepth 20000 in
theorem gX6_init_X0_init_n25 : GoodIn wsX6_init (wsX0_init) := ggX6_init_X0_init
set_option maxRecDepth 20000 in
theorem ggX6_init_X2_init : GoodIn wsX6_init wsX2_init := goodIn_r _ [66, 67, 2, 3, 68, 29, 69, 70, 71, 72, 73, 74, 75, 76, 77, 78, 79, 127, 128, 129, 130, 131, 132, 133, 134, 135, 136, 137] (by decide +kernel) (by decide +kernel)
set_option maxRecDepth 20000 in
theorem gX6_init_X2_init_n32 : GoodIn wsX6_init (wsX2_init) := ggX6_init_X2_init
set_option maxRecDepth 20000 in
theorem ggX6_init_X5_init : GoodIn wsX6_init wsX5_init := goodIn_r _ [82, 83, 2, 3, 84, 85, 86, 87, 88, 89, 90, 91, 92, 93, 94, 95, 96, 29, 97, 98, 99, 100, 101, 102, 103, 138, 139, 140, 141, 142, 143, 144, 145, 146, 147, 148, 149, 150] (by decide +kernel) (by decide +kernel)
set_option maxRecDepth 20000 in
theorem gX6_init_X5_init : GoodIn wsX6_init (wsX5_init) := ggX6_init_X5_init
theorem dX6_init_0 : decode cX6_init 0 = .ok (.aload_n 0, 1) := by decide +kernel
theorem dX6_init_1 : decode cX6_init 1 = .ok (.invokespecial 1, 3) := by decide +kernel
theorem dX6_init_4 : decode cX6_init 4 = .ok (.aload_n 0, 1) := by decide +kernel
theorem dX6_init_5 : decode cX6_init 5 = .ok (.new 7, 3) := by decide +kernel
theorem dX6_init_8 : decode cX6_init 8 = .ok (.dup, 1) := by decide +kernel
theorem dX6_init_9 : decode cX6_init 9 = .ok (.invokespecial 9, 3) := by decide +kernel
theorem dX6_init_12 : decode cX6_init 12 = .ok (.putfield 10, 3) := by decide +kernel
theorem dX6_init_15 : decode cX6_init 15 = .ok (.aload_n 0, 1) := by decide +kernel
theorem dX6_init_16 : decode cX6_init 16 = .ok (.new 16, 3) := by decide +kernel
theorem dX6_init_19 : decode cX6_init 19 = .ok (.dup, 1) := by decide +kernel
theorem dX6_init_20 : decode cX6_init 20 = .ok (.invokespecial 18, 3) := by decide +kernel
theorem dX6_init_23 : decode cX6_init 23 = .ok (.putfield 19, 3) := by decide +kernel
theorem dX6_init_26 : decode cX6_init 26 = .ok (.aload_n 0, 1) := by decide +kernel
theorem dX6_init_27 : decode cX6_init 27 = .ok (.new 23, 3) := by decide +kernel
theorem dX6_init_30 : decode cX6_init 30 = .ok (.dup, 1) := by decide +kernel
theorem dX6_init_31 : decode cX6_init 31 = .ok (.invokespecial 25, 3) := by decide +kernel
theorem dX6_init_34 : decode cX6_init 34 = .ok (.putfield 26, 3) := by decide +kernel
theorem dX6_init_37 : decode cX6_init 37 = .ok (.aload_n 0, 1) := by decide +kernel
theorem dX6_init_38 : decode cX6_init 38 = .ok (.new 30, 3) := by decide +kernel
theorem dX6_init_41 : decode cX6_init 41 = .ok (.dup, 1) := by decide +kernel
theorem dX6_init_42 : decode cX6_init 42 = .ok (.invokespecial 32, 3) := by decide +kernel
theorem dX6_init_45 : decode cX6_init 45 = .ok (.putfield 33, 3) := by decide +kernel
theorem dX6_init_48 : decode cX6_init 48 = .ok (.aload_n 0, 1) := by decide +kernel
theorem dX6_init_49 : decode cX6_init 49 = .ok (.new 37, 3) := by decide +kernel
theorem dX6_init_52 : decode cX6_init 52 = .ok (.dup, 1) := by decide +kernel
theorem dX6_init_53 : decode cX6_init 53 = .ok (.aload_n 0, 1) := by decide +kernel
theorem dX6_init_54 : decode cX6_init 54 = .ok (.getfield 10, 3) := by decide +kernel
theorem dX6_init_57 : decode cX6_init 57 = .ok (.aload_n 0, 1) := by decide +kernel
theorem dX6_init_58 : decode cX6_init 58 = .ok (.getfield 19, 3) := by decide +kernel
theorem dX6_init_61 : decode cX6_init 61 = .ok (.aload_n 0, 1) := by decide +kernel
theorem dX6_init_62 : decode cX6_init 62 = .ok (.getfield 26, 3) := by decide +kernel
theorem dX6_init_65 : decode cX6_init 65 = .ok (.aload_n 0, 1) := by decide +kernel
theorem dX6_init_66 : decode cX6_init 66 = .ok (.getfield 33, 3) := by decide +kernel
theorem dX6_init_69 : decode cX6_init 69 = .ok (.invokespecial 39, 3) := by decide +kernel
theorem dX6_init_72 : decode cX6_init 72 = .ok (.putfield 42, 3) := by decide +kernel
theorem dX6_init_75 : decode cX6_init 75 = .ok (.return_, 1) := by decide +kernel
set_option maxRecDepth 20000 in
theorem ggX6_classOf_X4_isClassType : GoodIn wsX6_classOf wsX4_isClassType := goodIn_r _ [6, 7, 25, 26, 27, 28, 29, 30, 31, 32, 33, 34] (by decide +kernel) (by decide +kernel)
set_option maxRecDepth 20000 in
theorem gX6_classOf_X4_isClassType : GoodIn wsX6_classOf (wsV RX6 46 RX4 yX4_isClassType wsX4_isClassType) := goodIn_app (goodIn_of _ (by decide +kernel)) ggX6_classOf_X4_isClassType
set_option maxRecDepth 20000 in
theorem ggX6_classOf_X4_hasOnly : GoodIn wsX6_classOf wsX4_hasOnly := goodIn_r _ [11, 12, 25, 26, 27, 28, 29, 30, 31, 32, 33, 34] (by decide +kernel) (by decide +kernel)
set_option maxRecDepth 20000 in
theorem gX6_classOf_X4_hasOnly : GoodIn wsX6_classOf (wsV RX6 50 RX4 yX4_hasOnly wsX4_hasOnly) := goodIn_app (goodIn_of _ (by decide +kernel)) ggX6_classOf_X4_hasOnly
set_option maxRecDepth 20000 in
theorem ggX6_classOf_X4_addClass : GoodIn wsX6_classOf wsX4_addClass := goodIn_r _ [16, 17, 18, 19, 25, 26, 27, 28, 29, 30, 31, 32, 33, 34] (by decide +kernel) (by decide +kernel)
set_option maxRecDepth 20000 in
theorem gX6_classOf_X4_addClass : GoodIn wsX6_classOf (wsV RX6 54 RX4 yX4_addClass wsX4_addClass) := goodIn_app (goodIn_of _ (by decide +kernel)) ggX6_classOf_X4_addClass
theorem dX6_classOf_0 : decode cX6_classOf 0 = .ok (.iload_n 1, 1) := by decide +kernel
theorem dX6_classOf_1 : decode cX6_classOf 1 = .ok (.ifCond .lt 8, 3) := by decide +kernel
theorem dX6_classOf_4 : decode cX6_classOf 4 = .ok (.iload_n 1, 1) := by decide +kernel
theorem dX6_classOf_5 : decode cX6_classOf 5 = .ok (.iconst 2, 1) := by decide +kernel
theorem dX6_classOf_6 : decode cX6_classOf 6 = .ok (.if_icmp .le 6, 3) := by decide +kernel
theorem dX6_classOf_9 : decode cX6_classOf 9 = .ok (.bipush (-2), 2) := by decide +kernel
theorem dX6_classOf_11 : decode cX6_classOf 11 = .ok (.ireturn, 1) := by decide +kernel
theorem dX6_classOf_12 : decode cX6_classOf 12 = .ok (.aload_n 0, 1) := by decide +kernel
theorem dX6_classOf_13 : decode cX6_classOf 13 = .ok (.getfield 10, 3) := by decide +kernel
theorem dX6_classOf_16 : decode cX6_classOf 16 = .ok (.iload_n 2, 1) := by decide +kernel
theorem dX6_classOf_17 : decode cX6_classOf 17 = .ok (.invokevirtual 46, 3) := by decide +kernel
theorem dX6_classOf_20 : decode cX6_classOf 20 = .ok (.ifCond .eq 15, 3) := by decide +kernel
theorem dX6_classOf_23 : decode cX6_classOf 23 = .ok (.aload_n 0, 1) := by decide +kernel
theorem dX6_classOf_24 : decode cX6_classOf 24 = .ok (.getfield 10, 3) := by decide +kernel
theorem dX6_classOf_27 : decode cX6_classOf 27 = .ok (.iload_n 2, 1) := by decide +kernel
theorem dX6_classOf_28 : decode cX6_classOf 28 = .ok (.iload_n 1, 1) := by decide +kernel
theorem dX6_classOf_29 : decode cX6_classOf 29 = .ok (.invokevirtual 50, 3) := by decide +kernel
theorem dX6_classOf_32 : decode cX6_classOf 32 = .ok (.ifCond .ne 6, 3) := by decide +kernel
theorem dX6_classOf_35 : decode cX6_classOf 35 = .ok (.bipush (-2), 2) := by decide +kernel
theorem dX6_classOf_37 : decode cX6_classOf 37 = .ok (.ireturn, 1) := by decide +kernel
theorem dX6_classOf_38 : decode cX6_classOf 38 = .ok (.aload_n 0, 1) := by decide +kernel
theorem dX6_classOf_39 : decode cX6_classOf 39 = .ok (.getfield 10, 3) := by decide +kernel
theorem dX6_classOf_42 : decode cX6_classOf 42 = .ok (.iload_n 1, 1) := by decide +kernel
theorem dX6_classOf_43 : decode cX6_classOf 43 = .ok (.iload_n 2, 1) := by decide +kernel
theorem dX6_classOf_44 : decode cX6_classOf 44 = .ok (.invokevirtual 54, 3) := by decide +kernel
theorem dX6_classOf_47 : decode cX6_classOf 47 = .ok (.ireturn, 1) := by decide +kernel
set_option maxRecDepth 20000 in
theorem ggX6_type_X4_isClass : GoodIn wsX6_type wsX4_isClass := goodIn_r _ [7, 8, 27, 28, 29, 30, 31, 32, 33, 34, 35, 36] (by decide +kernel) (by decide +kernel)
set_option maxRecDepth 20000 in
theorem gX6_type_X4_isClass : GoodIn wsX6_type (wsV RX6 58 RX4 yX4_isClass wsX4_isClass) := goodIn_app (goodIn_of _ (by decide +kernel)) ggX6_type_X4_isClass
set_option maxRecDepth 20000 in
theorem ggX6_type_X4_isArgument : GoodIn wsX6_type wsX4_isArgument := goodIn_r _ [12, 13, 27, 28, 29, 30, 31, 32, 33, 34, 35, 36] (by decide +kernel) (by decide +kernel)
set_option maxRecDepth 20000 in
theorem gX6_type_X4_isArgument : GoodIn wsX6_type (wsV RX6 65 RX4 yX4_isArgument wsX4_isArgument) := goodIn_app (goodIn_of _ (by decide +kernel)) ggX6_type_X4_isArgument
set_option maxRecDepth 20000 in
theorem ggX6_type_X4_make : GoodIn wsX6_type wsX4_make := goodIn_r _ [17, 13, 18, 19, 20, 21, 27, 28, 29, 30, 31, 32, 33, 34, 35, 36] (by decide +kernel) (by decide +kernel)
set_option maxRecDepth 20000 in
theorem gX6_type_X4_make : GoodIn wsX6_type (wsV RX6 68 RX4 yX4_make wsX4_make) := goodIn_app (goodIn_of _ (by decide +kernel)) ggX6_type_X4_make
theorem dX6_type_0 : decode cX6_type 0 = .ok (.aload_n 0, 1) := by decide +kernel
theorem dX6_type_1 : decode cX6_type 1 = .ok (.getfield 10, 3) := by decide +kernel
theorem dX6_type_4 : decode cX6_type 4 = .ok (.iload_n 1, 1) := by decide +kernel
theorem dX6_type_5 : decode cX6_type 5 = .ok (.invokevirtual 58, 3) := by decide +kernel
theorem dX6_type_8 : decode cX6_type 8 = .ok (.ifCond .ne 6, 3) := by decide +kernel
theorem dX6_type_11 : decode cX6_type 11 = .ok (.bipush (-2), 2) := by decide +kernel
theorem dX6_type_13 : decode cX6_type 13 = .ok (.ireturn, 1) := by decide +kernel
theorem dX6_type_14 : decode cX6_type 14 = .ok (.aload_n 0, 1) := by decide +kernel
theorem dX6_type_15 : decode cX6_type 15 = .ok (.getfield 10, 3) := by decide +kernel
theorem dX6_type_18 : decode cX6_type 18 = .ok (.getfield 61, 3) := by decide +kernel
theorem dX6_type_21 : decode cX6_type 21 = .ok (.iload_n 1, 1) := by decide +kernel
theorem dX6_type_22 : decode cX6_type 22 = .ok (.iaload, 1) := by decide +kernel
theorem dX6_type_23 : decode cX6_type 23 = .ok (.istore 4, 2) := by decide +kernel
theorem dX6_type_25 : decode cX6_type 25 = .ok (.iload 4, 2) := by decide +kernel
theorem dX6_type_27 : decode cX6_type 27 = .ok (.ifCond .le 14, 3) := by decide +kernel
theorem dX6_type_30 : decode cX6_type 30 = .ok (.aload_n 0, 1) := by decide +kernel
theorem dX6_type_31 : decode cX6_type 31 = .ok (.getfield 10, 3) := by decide +kernel
theorem dX6_type_34 : decode cX6_type 34 = .ok (.iload_n 2, 1) := by decide +kernel
theorem dX6_type_35 : decode cX6_type 35 = .ok (.invokevirtual 65, 3) := by decide +kernel
theorem dX6_type_38 : decode cX6_type 38 = .ok (.ifCond .eq 20, 3) := by decide +kernel
theorem dX6_type_41 : decode cX6_type 41 = .ok (.iload 4, 2) := by decide +kernel
theorem dX6_type_43 : decode cX6_type 43 = .ok (.iconst 1, 1) := by decide +kernel
theorem dX6_type_44 : decode cX6_type 44 = .ok (.if_icmp .le 17, 3) := by decide +kernel
theorem dX6_type_47 : decode cX6_type 47 = .ok (.aload_n 0, 1) := by decide +kernel
theorem dX6_type_48 : decode cX6_type 48 = .ok (.getfield 10, 3) := by decide +kernel
theorem dX6_type_51 : decode cX6_type 51 = .ok (.iload_n 3, 1) := by decide +kernel
theorem dX6_type_52 : decode cX6_type 52 = .ok (.invokevirtual 65, 3) := by decide +kernel
theorem dX6_type_55 : decode cX6_type 55 = .ok (.ifCond .ne 6, 3) := by decide +kernel
theorem dX6_type_58 : decode cX6_type 58 = .ok (.bipush (-2), 2) := by decide +kernel
theorem dX6_type_60 : decode cX6_type 60 = .ok (.ireturn, 1) := by decide +kernel
theorem dX6_type_61 : decode cX6_type 61 = .ok (.aload_n 0, 1) := by decide +kernel
theorem dX6_type_62 : decode cX6_type 62 = .ok (.getfield 10, 3) := by decide +kernel
theorem dX6_type_65 : decode cX6_type 65 = .ok (.iload_n 1, 1) := by decide +kernel
theorem dX6_type_66 : decode cX6_type 66 = .ok (.iload 4, 2) := by decide +kernel
theorem dX6_type_68 : decode cX6_type 68 = .ok (.ifCond .le 7, 3) := by decide +kernel
theorem dX6_type_71 : decode cX6_type 71 = .ok (.iload_n 2, 1) := by decide +kernel
theorem dX6_type_72 : decode cX6_type 72 = .ok (.goto 4, 3) := by decide +kernel
theorem dX6_type_75 : decode cX6_type 75 = .ok (.iconst (-1), 1) := by decide +kernel
theorem dX6_type_76 : decode cX6_type 76 = .ok (.iload 4, 2) := by decide +kernel
theorem dX6_type_78 : decode cX6_type 78 = .ok (.iconst 1, 1) := by decide +kernel
theorem dX6_type_79 : decode cX6_type 79 = .ok (.if_icmp .le 7, 3) := by decide +kernel
theorem dX6_type_82 : decode cX6_type 82 = .ok (.iload_n 3, 1) := by decide +kernel
theorem dX6_type_83 : decode cX6_type 83 = .ok (.goto 4, 3) := by decide +kernel
theorem dX6_type_86 : decode cX6_type 86 = .ok (.iconst (-1), 1) := by decide +kernel
theorem dX6_type_87 : decode cX6_type 87 = .ok (.invokevirtual 68, 3) := by decide +kernel
theorem dX6_type_90 : decode cX6_type 90 = .ok (.ireturn, 1) := by decide +kernel
set_option maxRecDepth 20000 in
theorem ggX6_member_X4_isClass : GoodIn wsX6_member wsX4_isClass := goodIn_r _ [8, 9, 33, 34, 35, 36, 37, 38, 39, 40, 41, 42] (by decide +kernel) (by decide +kernel)
set_option maxRecDepth 20000 in
theorem gX6_member_X4_isClass : GoodIn wsX6_member (wsV RX6 58 RX4 yX4_isClass wsX4_isClass) := goodIn_app (goodIn_of _ (by decide +kernel)) ggX6_member_X4_isClass
set_option maxRecDepth 20000 in
theorem ggX6_member_X4_isType : GoodIn wsX6_member wsX4_isType := goodIn_r _ [13, 14, 33, 34, 35, 36, 37, 38, 39, 40, 41, 42] (by decide +kernel) (by decide +kernel)
set_option maxRecDepth 20000 in
theorem gX6_member_X4_isType : GoodIn wsX6_member (wsV RX6 72 RX4 yX4_isType wsX4_isType) := goodIn_app (goodIn_of _ (by decide +kernel)) ggX6_member_X4_isType
set_option maxRecDepth 20000 in
theorem ggX6_member_X4_hasOnly : GoodIn wsX6_member wsX4_hasOnly := goodIn_r _ [18, 19, 33, 34, 35, 36, 37, 38, 39, 40, 41, 42] (by decide +kernel) (by decide +kernel)
set_option maxRecDepth 20000 in
theorem gX6_member_X4_hasOnly : GoodIn wsX6_member (wsV RX6 50 RX4 yX4_hasOnly wsX4_hasOnly) := goodIn_app (goodIn_of _ (by decide +kernel)) ggX6_member_X4_hasOnly
set_option maxRecDepth 20000 in
theorem ggX6_member_X1_add : GoodIn wsX6_member wsX1_add := goodIn_r _ [24, 25, 26, 27, 43, 44, 45] (by decide +kernel) (by decide +kernel)
set_option maxRecDepth 20000 in
theorem gX6_member_X1_add : GoodIn wsX6_member (wsV RX6 75 RX1 yX1_add wsX1_add) := goodIn_app (goodIn_of _ (by decide +kernel)) ggX6_member_X1_add
theorem dX6_member_0 : decode cX6_member 0 = .ok (.aload_n 0, 1) := by decide +kernel
theorem dX6_member_1 : decode cX6_member 1 = .ok (.getfield 10, 3) := by decide +kernel
theorem dX6_member_4 : decode cX6_member 4 = .ok (.iload_n 1, 1) := by decide +kernel
theorem dX6_member_5 : decode cX6_member 5 = .ok (.invokevirtual 58, 3) := by decide +kernel
theorem dX6_member_8 : decode cX6_member 8 = .ok (.ifCond .eq 14, 3) := by decide +kernel
theorem dX6_member_11 : decode cX6_member 11 = .ok (.aload_n 0, 1) := by decide +kernel
theorem dX6_member_12 : decode cX6_member 12 = .ok (.getfield 10, 3) := by decide +kernel
theorem dX6_member_15 : decode cX6_member 15 = .ok (.iload_n 2, 1) := by decide +kernel
theorem dX6_member_16 : decode cX6_member 16 = .ok (.invokevirtual 72, 3) := by decide +kernel
theorem dX6_member_19 : decode cX6_member 19 = .ok (.ifCond .ne 6, 3) := by decide +kernel
theorem dX6_member_22 : decode cX6_member 22 = .ok (.bipush (-2), 2) := by decide +kernel
theorem dX6_member_24 : decode cX6_member 24 = .ok (.ireturn, 1) := by decide +kernel
theorem dX6_member_25 : decode cX6_member 25 = .ok (.aload_n 0, 1) := by decide +kernel
theorem dX6_member_26 : decode cX6_member 26 = .ok (.getfield 10, 3) := by decide +kernel
theorem dX6_member_29 : decode cX6_member 29 = .ok (.iload_n 2, 1) := by decide +kernel
theorem dX6_member_30 : decode cX6_member 30 = .ok (.aload_n 0, 1) := by decide +kernel
theorem dX6_member_31 : decode cX6_member 31 = .ok (.getfield 10, 3) := by decide +kernel
theorem dX6_member_34 : decode cX6_member 34 = .ok (.getfield 61, 3) := by decide +kernel
theorem dX6_member_37 : decode cX6_member 37 = .ok (.iload_n 1, 1) := by decide +kernel
theorem dX6_member_38 : decode cX6_member 38 = .ok (.iaload, 1) := by decide +kernel
theorem dX6_member_39 : decode cX6_member 39 = .ok (.invokevirtual 50, 3) := by decide +kernel
theorem dX6_member_42 : decode cX6_member 42 = .ok (.ifCond .ne 6, 3) := by decide +kernel
theorem dX6_member_45 : decode cX6_member 45 = .ok (.bipush (-2), 2) := by decide +kernel
theorem dX6_member_47 : decode cX6_member 47 = .ok (.ireturn, 1) := by decide +kernel
theorem dX6_member_48 : decode cX6_member 48 = .ok (.aload_n 0, 1) := by decide +kernel
theorem dX6_member_49 : decode cX6_member 49 = .ok (.getfield 19, 3) := by decide +kernel
theorem dX6_member_52 : decode cX6_member 52 = .ok (.iload_n 1, 1) := by decide +kernel
theorem dX6_member_53 : decode cX6_member 53 = .ok (.iload_n 2, 1) := by decide +kernel
theorem dX6_member_54 : decode cX6_member 54 = .ok (.invokevirtual 75, 3) := by decide +kernel
theorem dX6_member_57 : decode cX6_member 57 = .ok (.ireturn, 1) := by decide +kernel
set_option maxRecDepth 20000 in
theorem ggX6_function_X4_isType : GoodIn wsX6_function wsX4_isType := goodIn_r _ [7, 8, 24, 25, 26, 27, 28, 29, 30, 31, 32, 33] (by decide +kernel) (by decide +kernel)
set_option maxRecDepth 20000 in
theorem gX6_function_X4_isType : GoodIn wsX6_function (wsV RX6 72 RX4 yX4_isType wsX4_isType) := goodIn_app (goodIn_of _ (by decide +kernel)) ggX6_function_X4_isType
set_option maxRecDepth 20000 in
theorem ggX6_function_X0_add : GoodIn wsX6_function wsX0_add := goodIn_r _ [13, 14, 15, 16, 17, 18, 34, 35, 36, 37, 38] (by decide +kernel) (by decide +kernel)
set_option maxRecDepth 20000 in
theorem gX6_function_X0_add : GoodIn wsX6_function (wsV RX6 78 RX0 yX0_add wsX0_add) := goodIn_app (goodIn_of _ (by decide +kernel)) ggX6_function_X0_add
theorem dX6_function_0 : decode cX6_function 0 = .ok (.aload_n 0, 1) := by decide +kernel
theorem dX6_function_1 : decode cX6_function 1 = .ok (.getfield 10, 3) := by decide +kernel
theorem dX6_function_4 : decode cX6_function 4 = .ok (.iload_n 1, 1) := by decide +kernel
theorem dX6_function_5 : decode cX6_function 5 = .ok (.invokevirtual 72, 3) := by decide +kernel
theorem dX6_function_8 : decode cX6_function 8 = .ok (.ifCond .eq 14, 3) := by decide +kernel
theorem dX6_function_11 : decode cX6_function 11 = .ok (.aload_n 0, 1) := by decide +kernel
theorem dX6_function_12 : decode cX6_function 12 = .ok (.getfield 10, 3) := by decide +kernel
theorem dX6_function_15 : decode cX6_function 15 = .ok (.iload_n 3, 1) := by decide +kernel
theorem dX6_function_16 : decode cX6_function 16 = .ok (.invokevirtual 72, 3) := by decide +kernel
theorem dX6_function_19 : decode cX6_function 19 = .ok (.ifCond .ne 6, 3) := by decide +kernel
theorem dX6_function_22 : decode cX6_function 22 = .ok (.bipush (-2), 2) := by decide +kernel
theorem dX6_function_24 : decode cX6_function 24 = .ok (.ireturn, 1) := by decide +kernel
theorem dX6_function_25 : decode cX6_function 25 = .ok (.iload_n 2, 1) := by decide +kernel
theorem dX6_function_26 : decode cX6_function 26 = .ok (.iconst (-1), 1) := by decide +kernel
theorem dX6_function_27 : decode cX6_function 27 = .ok (.if_icmp .eq 17, 3) := by decide +kernel
theorem dX6_function_30 : decode cX6_function 30 = .ok (.aload_n 0, 1) := by decide +kernel
theorem dX6_function_31 : decode cX6_function 31 = .ok (.getfield 10, 3) := by decide +kernel
theorem dX6_function_34 : decode cX6_function 34 = .ok (.iload_n 2, 1) := by decide +kernel
theorem dX6_function_35 : decode cX6_function 35 = .ok (.invokevirtual 72, 3) := by decide +kernel
theorem dX6_function_38 : decode cX6_function 38 = .ok (.ifCond .ne 6, 3) := by decide +kernel
theorem dX6_function_41 : decode cX6_function 41 = .ok (.bipush (-2), 2) := by decide +kernel
theorem dX6_function_43 : decode cX6_function 43 = .ok (.ireturn, 1) := by decide +kernel
theorem dX6_function_44 : decode cX6_function 44 = .ok (.aload_n 0, 1) := by decide +kernel
theorem dX6_function_45 : decode cX6_function 45 = .ok (.getfield 26, 3) := by decide +kernel
theorem dX6_function_48 : decode cX6_function 48 = .ok (.iload_n 1, 1) := by decide +kernel
theorem dX6_function_49 : decode cX6_function 49 = .ok (.iload_n 2, 1) := by decide +kernel
theorem dX6_function_50 : decode cX6_function 50 = .ok (.iload_n 3, 1) := by decide +kernel
theorem dX6_function_51 : decode cX6_function 51 = .ok (.invokevirtual 78, 3) := by decide +kernel
theorem dX6_function_54 : decode cX6_function 54 = .ok (.ireturn, 1) := by decide +kernel
set_option maxRecDepth 20000 in
theorem ggX6_bound_X0_has : GoodIn wsX6_bound wsX0_has := goodIn_r _ [8, 9, 34, 35, 36, 37, 38] (by decide +kernel) (by decide +kernel)
set_option maxRecDepth 20000 in
theorem gX6_bound_X0_has : GoodIn wsX6_bound (wsV RX6 80 RX0 yX0_has wsX0_has) := goodIn_app (goodIn_of _ (by decide +kernel)) ggX6_bound_X0_has
set_option maxRecDepth 20000 in
theorem ggX6_bound_X6_isVariableNumber : GoodIn wsX6_bound wsX6_isVariableNumber := goodIn_r _ [13] (by decide +kernel) (by decide +kernel)
set_option maxRecDepth 20000 in
theorem gX6_bound_X6_isVariableNumber : GoodIn wsX6_bound (va_wsS RX6 83 yX6_isVariableNumber wsX6_isVariableNumber) := goodIn_app (goodIn_of _ (by decide +kernel)) ggX6_bound_X6_isVariableNumber
set_option maxRecDepth 20000 in
theorem ggX6_bound_X4_isClassType : GoodIn wsX6_bound wsX4_isClassType := goodIn_r _ [18, 19, 39, 40, 41, 42, 43, 44, 45, 46, 47, 48] (by decide +kernel) (by decide +kernel)
set_option maxRecDepth 20000 in
theorem gX6_bound_X4_isClassType : GoodIn wsX6_bound (wsV RX6 46 RX4 yX4_isClassType wsX4_isClassType) := goodIn_app (goodIn_of _ (by decide +kernel)) ggX6_bound_X4_isClassType
set_option maxRecDepth 20000 in
theorem ggX6_bound_X4_isClosed : GoodIn wsX6_bound wsX4_isClosed := goodIn_r _ [23, 24, 25, 26, 27, 17, 28, 19, 39, 40, 41, 42, 43, 44, 45, 46, 47, 48] (by decide +kernel) (by decide +kernel)
set_option maxRecDepth 20000 in
theorem gX6_bound_X4_isClosed : GoodIn wsX6_bound (wsV RX6 86 RX4 yX4_isClosed wsX4_isClosed) := goodIn_app (goodIn_of _ (by decide +kernel)) ggX6_bound_X4_isClosed
theorem dX6_bound_0 : decode cX6_bound 0 = .ok (.aload_n 0, 1) := by decide +kernel
theorem dX6_bound_1 : decode cX6_bound 1 = .ok (.getfield 26, 3) := by decide +kernel
theorem dX6_bound_4 : decode cX6_bound 4 = .ok (.iload_n 1, 1) := by decide +kernel
theorem dX6_bound_5 : decode cX6_bound 5 = .ok (.invokevirtual 80, 3) := by decide +kernel
theorem dX6_bound_8 : decode cX6_bound 8 = .ok (.ifCond .eq 10, 3) := by decide +kernel
theorem dX6_bound_11 : decode cX6_bound 11 = .ok (.iload_n 2, 1) := by decide +kernel
theorem dX6_bound_12 : decode cX6_bound 12 = .ok (.invokestatic 83, 3) := by decide +kernel
theorem dX6_bound_15 : decode cX6_bound 15 = .ok (.ifCond .ne 6, 3) := by decide +kernel
theorem dX6_bound_18 : decode cX6_bound 18 = .ok (.bipush (-2), 2) := by decide +kernel
theorem dX6_bound_20 : decode cX6_bound 20 = .ok (.ireturn, 1) := by decide +kernel
theorem dX6_bound_21 : decode cX6_bound 21 = .ok (.iload_n 3, 1) := by decide +kernel
theorem dX6_bound_22 : decode cX6_bound 22 = .ok (.iconst (-1), 1) := by decide +kernel
theorem dX6_bound_23 : decode cX6_bound 23 = .ok (.if_icmp .eq 28, 3) := by decide +kernel
theorem dX6_bound_26 : decode cX6_bound 26 = .ok (.aload_n 0, 1) := by decide +kernel
theorem dX6_bound_27 : decode cX6_bound 27 = .ok (.getfield 10, 3) := by decide +kernel
theorem dX6_bound_30 : decode cX6_bound 30 = .ok (.iload_n 3, 1) := by decide +kernel
theorem dX6_bound_31 : decode cX6_bound 31 = .ok (.invokevirtual 46, 3) := by decide +kernel
theorem dX6_bound_34 : decode cX6_bound 34 = .ok (.ifCond .eq 14, 3) := by decide +kernel
theorem dX6_bound_37 : decode cX6_bound 37 = .ok (.aload_n 0, 1) := by decide +kernel
theorem dX6_bound_38 : decode cX6_bound 38 = .ok (.getfield 10, 3) := by decide +kernel
theorem dX6_bound_41 : decode cX6_bound 41 = .ok (.iload_n 3, 1) := by decide +kernel
theorem dX6_bound_42 : decode cX6_bound 42 = .ok (.invokevirtual 86, 3) := by decide +kernel
theorem dX6_bound_45 : decode cX6_bound 45 = .ok (.ifCond .ne 6, 3) := by decide +kernel
theorem dX6_bound_48 : decode cX6_bound 48 = .ok (.bipush (-2), 2) := by decide +kernel
theorem dX6_bound_50 : decode cX6_bound 50 = .ok (.ireturn, 1) := by decide +kernel
theorem dX6_bound_51 : decode cX6_bound 51 = .ok (.aload_n 0, 1) := by decide +kernel
theorem dX6_bound_52 : decode cX6_bound 52 = .ok (.getfield 26, 3) := by decide +kernel
theorem dX6_bound_55 : decode cX6_bound 55 = .ok (.getfield 89, 3) := by decide +kernel
theorem dX6_bound_58 : decode cX6_bound 58 = .ok (.iload_n 1, 1) := by decide +kernel
theorem dX6_bound_59 : decode cX6_bound 59 = .ok (.iconst 2, 1) := by decide +kernel
theorem dX6_bound_60 : decode cX6_bound 60 = .ok (.imul, 1) := by decide +kernel
theorem dX6_bound_61 : decode cX6_bound 61 = .ok (.iload_n 2, 1) := by decide +kernel
theorem dX6_bound_62 : decode cX6_bound 62 = .ok (.iadd, 1) := by decide +kernel
theorem dX6_bound_63 : decode cX6_bound 63 = .ok (.iload_n 3, 1) := by decide +kernel
theorem dX6_bound_64 : decode cX6_bound 64 = .ok (.iastore, 1) := by decide +kernel
theorem dX6_bound_65 : decode cX6_bound 65 = .ok (.iconst 1, 1) := by decide +kernel
theorem dX6_bound_66 : decode cX6_bound 66 = .ok (.ireturn, 1) := by decide +kernel
set_option maxRecDepth 20000 in
theorem ggX6_operator_X6_isAsTold : GoodIn wsX6_operator wsX6_isAsTold := goodIn_r _ [6, 7, 1, 8, 9, 10, 11, 12, 13, 14, 15, 16, 17, 18, 19, 20, 21, 22, 23, 24, 25, 26, 27, 28, 29, 30, 31, 32, 33, 34, 35, 36, 37, 38, 39, 40, 41, 42, 43, 44, 45, 46, 47, 48, 49, 72, 73, 74, 75, 76, 77, 78, 79, 80, 81, 82, 83, 84, 85, 86, 87, 88, 89, 90, 91, 92, 93, 94, 95, 96, 97, 98, 99, 100, 101, 102, 103, 104, 105] (by decide +kernel) (by decide +kernel)
set_option maxRecDepth 20000 in
theorem gX6_operator_X6_isAsTold : GoodIn wsX6_operator (wsV RX6 92 RX6 yX6_isAsTold wsX6_isAsTold) := goodIn_app (goodIn_of _ (by decide +kernel)) ggX6_operator_X6_isAsTold
set_option maxRecDepth 20000 in
theorem ggX6_operator_X2_add : GoodIn wsX6_operator wsX2_add := goodIn_r _ [53, 27, 54, 55, 56, 57, 58, 59, 60, 61, 62, 25, 63, 64, 65, 66, 67, 68, 69, 70, 71, 87, 88, 89, 90, 91, 92, 93, 94, 95, 96, 97] (by decide +kernel) (by decide +kernel)
set_option maxRecDepth 20000 in
theorem gX6_operator_X2_add : GoodIn wsX6_operator (wsV RX6 96 RX2 yX2_add wsX2_add) := goodIn_app (goodIn_of _ (by decide +kernel)) ggX6_operator_X2_add
theorem dX6_operator_0 : decode cX6_operator 0 = .ok (.aload_n 0, 1) := by decide +kernel
theorem dX6_operator_1 : decode cX6_operator 1 = .ok (.iload_n 1, 1) := by decide +kernel
theorem dX6_operator_2 : decode cX6_operator 2 = .ok (.iload_n 2, 1) := by decide +kernel
theorem dX6_operator_3 : decode cX6_operator 3 = .ok (.iload_n 3, 1) := by decide +kernel
theorem dX6_operator_4 : decode cX6_operator 4 = .ok (.iload 4, 2) := by decide +kernel
theorem dX6_operator_6 : decode cX6_operator 6 = .ok (.iload 5, 2) := by decide +kernel
theorem dX6_operator_8 : decode cX6_operator 8 = .ok (.iload 6, 2) := by decide +kernel
theorem dX6_operator_10 : decode cX6_operator 10 = .ok (.invokevirtual 92, 3) := by decide +kernel
theorem dX6_operator_13 : decode cX6_operator 13 = .ok (.ifCond .ne 6, 3) := by decide +kernel
theorem dX6_operator_16 : decode cX6_operator 16 = .ok (.bipush (-2), 2) := by decide +kernel
theorem dX6_operator_18 : decode cX6_operator 18 = .ok (.ireturn, 1) := by decide +kernel
theorem dX6_operator_19 : decode cX6_operator 19 = .ok (.aload_n 0, 1) := by decide +kernel
theorem dX6_operator_20 : decode cX6_operator 20 = .ok (.getfield 33, 3) := by decide +kernel
theorem dX6_operator_23 : decode cX6_operator 23 = .ok (.iload_n 1, 1) := by decide +kernel
theorem dX6_operator_24 : decode cX6_operator 24 = .ok (.iload_n 2, 1) := by decide +kernel
theorem dX6_operator_25 : decode cX6_operator 25 = .ok (.iload_n 3, 1) := by decide +kernel
theorem dX6_operator_26 : decode cX6_operator 26 = .ok (.iload 4, 2) := by decide +kernel
theorem dX6_operator_28 : decode cX6_operator 28 = .ok (.iload 5, 2) := by decide +kernel
theorem dX6_operator_30 : decode cX6_operator 30 = .ok (.iload 6, 2) := by decide +kernel
theorem dX6_operator_32 : decode cX6_operator 32 = .ok (.invokevirtual 96, 3) := by decide +kernel
theorem dX6_operator_35 : decode cX6_operator 35 = .ok (.ireturn, 1) := by decide +kernel
theorem dX6_clear_0 : decode cX6_clear 0 = .ok (.aload_n 0, 1) := by decide +kernel
theorem dX6_clear_1 : decode cX6_clear 1 = .ok (.getfield 33, 3) := by decide +kernel
theorem dX6_clear_4 : decode cX6_clear 4 = .ok (.getfield 99, 3) := by decide +kernel
theorem dX6_clear_7 : decode cX6_clear 7 = .ok (.istore_n 1, 1) := by decide +kernel
theorem dX6_clear_8 : decode cX6_clear 8 = .ok (.aload_n 0, 1) := by decide +kernel
theorem dX6_clear_9 : decode cX6_clear 9 = .ok (.getfield 33, 3) := by decide +kernel
theorem dX6_clear_12 : decode cX6_clear 12 = .ok (.iconst 0, 1) := by decide +kernel
theorem dX6_clear_13 : decode cX6_clear 13 = .ok (.putfield 99, 3) := by decide +kernel
theorem dX6_clear_16 : decode cX6_clear 16 = .ok (.iload_n 1, 1) := by decide +kernel
theorem dX6_clear_17 : decode cX6_clear 17 = .ok (.ireturn, 1) := by decide +kernel
set_option maxRecDepth 20000 in
theorem ggX6_flow_X5_whatComes : GoodIn wsX6_flow wsX5_whatComes := goodIn_r _ [8, 9, 10, 11, 12, 13, 14, 15, 16, 17, 18, 19, 20, 21, 22, 23, 24, 25, 26, 27, 28, 7, 29, 30, 31, 32, 33, 34, 35, 36, 37, 38, 39, 40, 41, 42, 43, 44, 45, 46, 47, 48, 49, 50, 51, 52, 53, 54, 55, 56, 57, 58, 59, 60, 61, 62, 63, 64, 65, 66, 67, 68, 69, 70, 71, 72, 73, 74, 75, 76, 77, 78, 79, 80, 81, 82, 83, 84, 85, 86, 87, 88, 89, 90, 91, 92, 93, 94, 95, 96, 97, 98, 99, 100, 101, 102, 103, 104, 105, 106, 107, 108, 109, 110, 111, 112, 113, 114, 115, 116, 117, 118, 119, 120, 121, 122, 123, 124, 125, 126, 127, 128, 129, 130, 131, 132, 133, 134, 135, 136, 137, 138, 139, 140, 141, 142, 143, 144, 145, 146, 147, 148, 149, 150, 151, 152, 153, 154, 155, 156, 157, 158, 159, 160, 161, 162, 163, 164, 165, 199, 200, 201, 202, 203, 204, 188, 189, 190, 191, 192, 193, 194, 195, 196, 197, 198, 205, 206, 207, 208, 209, 210, 211, 212, 213, 214, 215, 216, 217, 218, 219, 220, 221, 222, 223, 224, 225, 226, 227, 228, 229] (by decide +kernel) (by decide +kernel)
set_option maxRecDepth 20000 in
theorem gX6_flow_X5_whatComes : GoodIn wsX6_flow (wsV RX6 103 RX5 yX5_whatComes wsX5_whatComes) := goodIn_app (goodIn_of _ (by decide +kernel)) ggX6_flow_X5_whatComes
set_option maxRecDepth 20000 in
theorem ggX6_flow_X5_keep : GoodIn wsX6_flow wsX5_keep := goodIn_r _ [169, 11, 9, 10, 13, 17, 170, 171, 172, 173, 23, 174, 175, 176, 177, 178, 179, 180, 181, 182, 199, 200, 201, 202, 203, 204, 188, 189, 190, 191, 192, 193, 194, 195, 196, 197, 198, 205, 206, 207, 208, 209, 210, 211] (by decide +kernel) (by decide +kernel)
set_option maxRecDepth 20000 in
theorem gX6_flow_X5_keep : GoodIn wsX6_flow (wsV RX6 107 RX5 yX5_keep wsX5_keep) := goodIn_app (goodIn_of _ (by decide +kernel)) ggX6_flow_X5_keep
theorem dX6_flow_0 : decode cX6_flow 0 = .ok (.iconst 0, 1) := by decide +kernel
theorem dX6_flow_1 : decode cX6_flow 1 = .ok (.istore_n 1, 1) := by decide +kernel
theorem dX6_flow_2 : decode cX6_flow 2 = .ok (.iconst 0, 1) := by decide +kernel
theorem dX6_flow_3 : decode cX6_flow 3 = .ok (.istore_n 2, 1) := by decide +kernel
theorem dX6_flow_4 : decode cX6_flow 4 = .ok (.iload_n 2, 1) := by decide +kernel
theorem dX6_flow_5 : decode cX6_flow 5 = .ok (.aload_n 0, 1) := by decide +kernel
theorem dX6_flow_6 : decode cX6_flow 6 = .ok (.getfield 33, 3) := by decide +kernel
theorem dX6_flow_9 : decode cX6_flow 9 = .ok (.getfield 99, 3) := by decide +kernel
theorem dX6_flow_12 : decode cX6_flow 12 = .ok (.if_icmp .ge 35, 3) := by decide +kernel
theorem dX6_flow_15 : decode cX6_flow 15 = .ok (.aload_n 0, 1) := by decide +kernel
theorem dX6_flow_16 : decode cX6_flow 16 = .ok (.getfield 42, 3) := by decide +kernel
theorem dX6_flow_19 : decode cX6_flow 19 = .ok (.iload_n 2, 1) := by decide +kernel
theorem dX6_flow_20 : decode cX6_flow 20 = .ok (.invokevirtual 103, 3) := by decide +kernel
theorem dX6_flow_23 : decode cX6_flow 23 = .ok (.istore_n 3, 1) := by decide +kernel
theorem dX6_flow_24 : decode cX6_flow 24 = .ok (.aload_n 0, 1) := by decide +kernel
theorem dX6_flow_25 : decode cX6_flow 25 = .ok (.getfield 42, 3) := by decide +kernel
theorem dX6_flow_28 : decode cX6_flow 28 = .ok (.iload_n 2, 1) := by decide +kernel
theorem dX6_flow_29 : decode cX6_flow 29 = .ok (.iload_n 3, 1) := by decide +kernel
theorem dX6_flow_30 : decode cX6_flow 30 = .ok (.invokevirtual 107, 3) := by decide +kernel
theorem dX6_flow_33 : decode cX6_flow 33 = .ok (.iload_n 3, 1) := by decide +kernel
theorem dX6_flow_34 : decode cX6_flow 34 = .ok (.iconst (-1), 1) := by decide +kernel
theorem dX6_flow_35 : decode cX6_flow 35 = .ok (.if_icmp .eq 6, 3) := by decide +kernel
theorem dX6_flow_38 : decode cX6_flow 38 = .ok (.iinc 1 1, 3) := by decide +kernel
theorem dX6_flow_41 : decode cX6_flow 41 = .ok (.iinc 2 1, 3) := by decide +kernel
theorem dX6_flow_44 : decode cX6_flow 44 = .ok (.goto (-40), 3) := by decide +kernel
theorem dX6_flow_47 : decode cX6_flow 47 = .ok (.iload_n 1, 1) := by decide +kernel
theorem dX6_flow_48 : decode cX6_flow 48 = .ok (.ireturn, 1) := by decide +kernel
set_option maxRecDepth 20000 in
theorem ggX6_comes_X2_has : GoodIn wsX6_comes wsX2_has := goodIn_r _ [7, 8, 14, 15, 16, 17, 18, 19, 20, 21, 22, 23, 24] (by decide +kernel) (by decide +kernel)
set_option maxRecDepth 20000 in
theorem gX6_comes_X2_has : GoodIn wsX6_comes (wsV RX6 111 RX2 yX2_has wsX2_has) := goodIn_app (goodIn_of _ (by decide +kernel)) ggX6_comes_X2_has
theorem dX6_comes_0 : decode cX6_comes 0 = .ok (.aload_n 0, 1) := by decide +kernel
theorem dX6_comes_1 : decode cX6_comes 1 = .ok (.getfield 33, 3) := by decide +kernel
theorem dX6_comes_4 : decode cX6_comes 4 = .ok (.iload_n 1, 1) := by decide +kernel
theorem dX6_comes_5 : decode cX6_comes 5 = .ok (.invokevirtual 111, 3) := by decide +kernel
theorem dX6_comes_8 : decode cX6_comes 8 = .ok (.ifCond .eq 15, 3) := by decide +kernel
theorem dX6_comes_11 : decode cX6_comes 11 = .ok (.aload_n 0, 1) := by decide +kernel
theorem dX6_comes_12 : decode cX6_comes 12 = .ok (.getfield 33, 3) := by decide +kernel
theorem dX6_comes_15 : decode cX6_comes 15 = .ok (.getfield 112, 3) := by decide +kernel
theorem dX6_comes_18 : decode cX6_comes 18 = .ok (.iload_n 1, 1) := by decide +kernel
theorem dX6_comes_19 : decode cX6_comes 19 = .ok (.iaload, 1) := by decide +kernel
theorem dX6_comes_20 : decode cX6_comes 20 = .ok (.goto 5, 3) := by decide +kernel
theorem dX6_comes_23 : decode cX6_comes 23 = .ok (.bipush (-2), 2) := by decide +kernel
theorem dX6_comes_25 : decode cX6_comes 25 = .ok (.ireturn, 1) := by decide +kernel
set_option maxRecDepth 20000 in
theorem ggX6_reason_X2_has : GoodIn wsX6_reason wsX2_has := goodIn_r _ [7, 8, 14, 15, 16, 17, 18, 19, 20, 21, 22, 23, 24] (by decide +kernel) (by decide +kernel)
set_option maxRecDepth 20000 in
theorem gX6_reason_X2_has : GoodIn wsX6_reason (wsV RX6 111 RX2 yX2_has wsX2_has) := goodIn_app (goodIn_of _ (by decide +kernel)) ggX6_reason_X2_has
theorem dX6_reason_0 : decode cX6_reason 0 = .ok (.aload_n 0, 1) := by decide +kernel
theorem dX6_reason_1 : decode cX6_reason 1 = .ok (.getfield 33, 3) := by decide +kernel
theorem dX6_reason_4 : decode cX6_reason 4 = .ok (.iload_n 1, 1) := by decide +kernel
theorem dX6_reason_5 : decode cX6_reason 5 = .ok (.invokevirtual 111, 3) := by decide +kernel
theorem dX6_reason_8 : decode cX6_reason 8 = .ok (.ifCond .eq 15, 3) := by decide +kernel
theorem dX6_reason_11 : decode cX6_reason 11 = .ok (.aload_n 0, 1) := by decide +kernel
theorem dX6_reason_12 : decode cX6_reason 12 = .ok (.getfield 33, 3) := by decide +kernel
theorem dX6_reason_15 : decode cX6_reason 15 = .ok (.getfield 115, 3) := by decide +kernel
theorem dX6_reason_18 : decode cX6_reason 18 = .ok (.iload_n 1, 1) := by decide +kernel
theorem dX6_reason_19 : decode cX6_reason 19 = .ok (.iaload, 1) := by decide +kernel
theorem dX6_reason_20 : decode cX6_reason 20 = .ok (.goto 5, 3) := by decide +kernel
theorem dX6_reason_23 : decode cX6_reason 23 = .ok (.bipush (-2), 2) := by decide +kernel
theorem dX6_reason_25 : decode cX6_reason 25 = .ok (.ireturn, 1) := by decide +kernel
set_option maxRecDepth 20000 in
theorem ggX6_mayFail_X2_has : GoodIn wsX6_mayFail wsX2_has := goodIn_r _ [7, 8, 14, 15, 16, 17, 18, 19, 20, 21, 22, 23, 24] (by decide +kernel) (by decide +kernel)
set_option maxRecDepth 20000 in
theorem gX6_mayFail_X2_has : GoodIn wsX6_mayFail (wsV RX6 111 RX2 yX2_has wsX2_has) := goodIn_app (goodIn_of _ (by decide +kernel)) ggX6_mayFail_X2_has
theorem dX6_mayFail_0 : decode cX6_mayFail 0 = .ok (.aload_n 0, 1) := by decide +kernel
theorem dX6_mayFail_1 : decode cX6_mayFail 1 = .ok (.getfield 33, 3) := by decide +kernel
theorem dX6_mayFail_4 : decode cX6_mayFail 4 = .ok (.iload_n 1, 1) := by decide +kernel
theorem dX6_mayFail_5 : decode cX6_mayFail 5 = .ok (.invokevirtual 111, 3) := by decide +kernel
theorem dX6_mayFail_8 : decode cX6_mayFail 8 = .ok (.ifCond .ne 6, 3) := by decide +kernel
theorem dX6_mayFail_11 : decode cX6_mayFail 11 = .ok (.bipush (-2), 2) := by decide +kernel
theorem dX6_mayFail_13 : decode cX6_mayFail 13 = .ok (.ireturn, 1) := by decide +kernel
theorem dX6_mayFail_14 : decode cX6_mayFail 14 = .ok (.aload_n 0, 1) := by decide +kernel
theorem dX6_mayFail_15 : decode cX6_mayFail 15 = .ok (.getfield 33, 3) := by decide +kernel
theorem dX6_mayFail_18 : decode cX6_mayFail 18 = .ok (.getfield 118, 3) := by decide +kernel
theorem dX6_mayFail_21 : decode cX6_mayFail 21 = .ok (.iload_n 1, 1) := by decide +kernel
theorem dX6_mayFail_22 : decode cX6_mayFail 22 = .ok (.baload, 1) := by decide +kernel
theorem dX6_mayFail_23 : decode cX6_mayFail 23 = .ok (.ifCond .eq 7, 3) := by decide +kernel
theorem dX6_mayFail_26 : decode cX6_mayFail 26 = .ok (.iconst 1, 1) := by decide +kernel
theorem dX6_mayFail_27 : decode cX6_mayFail 27 = .ok (.goto 4, 3) := by decide +kernel
theorem dX6_mayFail_30 : decode cX6_mayFail 30 = .ok (.iconst 0, 1) := by decide +kernel
theorem dX6_mayFail_31 : decode cX6_mayFail 31 = .ok (.ireturn, 1) := by decide +kernel
theorem dX6_cast_0 : decode cX6_cast 0 = .ok (.iconst 0, 1) := by decide +kernel
theorem dX6_cast_1 : decode cX6_cast 1 = .ok (.istore_n 2, 1) := by decide +kernel
theorem dX6_cast_2 : decode cX6_cast 2 = .ok (.iconst 0, 1) := by decide +kernel
theorem dX6_cast_3 : decode cX6_cast 3 = .ok (.istore_n 3, 1) := by decide +kernel
theorem dX6_cast_4 : decode cX6_cast 4 = .ok (.iload_n 3, 1) := by decide +kernel
theorem dX6_cast_5 : decode cX6_cast 5 = .ok (.aload_n 0, 1) := by decide +kernel
theorem dX6_cast_6 : decode cX6_cast 6 = .ok (.getfield 33, 3) := by decide +kernel
theorem dX6_cast_9 : decode cX6_cast 9 = .ok (.getfield 99, 3) := by decide +kernel
theorem dX6_cast_12 : decode cX6_cast 12 = .ok (.if_icmp .ge 31, 3) := by decide +kernel
theorem dX6_cast_15 : decode cX6_cast 15 = .ok (.aload_n 0, 1) := by decide +kernel
theorem dX6_cast_16 : decode cX6_cast 16 = .ok (.getfield 33, 3) := by decide +kernel
theorem dX6_cast_19 : decode cX6_cast 19 = .ok (.getfield 118, 3) := by decide +kernel
theorem dX6_cast_22 : decode cX6_cast 22 = .ok (.iload_n 3, 1) := by decide +kernel
theorem dX6_cast_23 : decode cX6_cast 23 = .ok (.baload, 1) := by decide +kernel
theorem dX6_cast_24 : decode cX6_cast 24 = .ok (.ifCond .eq 13, 3) := by decide +kernel
theorem dX6_cast_27 : decode cX6_cast 27 = .ok (.iload_n 2, 1) := by decide +kernel
theorem dX6_cast_28 : decode cX6_cast 28 = .ok (.iload_n 1, 1) := by decide +kernel
theorem dX6_cast_29 : decode cX6_cast 29 = .ok (.if_icmp .ne 5, 3) := by decide +kernel
theorem dX6_cast_32 : decode cX6_cast 32 = .ok (.iload_n 3, 1) := by decide +kernel
theorem dX6_cast_33 : decode cX6_cast 33 = .ok (.ireturn, 1) := by decide +kernel
theorem dX6_cast_34 : decode cX6_cast 34 = .ok (.iinc 2 1, 3) := by decide +kernel
theorem dX6_cast_37 : decode cX6_cast 37 = .ok (.iinc 3 1, 3) := by decide +kernel
theorem dX6_cast_40 : decode cX6_cast 40 = .ok (.goto (-36), 3) := by decide +kernel
theorem dX6_cast_43 : decode cX6_cast 43 = .ok (.iconst (-1), 1) := by decide +kernel
theorem dX6_cast_44 : decode cX6_cast 44 = .ok (.ireturn, 1) := by decide +kernel
set_option maxRecDepth 20000 in
theorem ggX6_boundTo_X2_has : GoodIn wsX6_boundTo wsX2_has := goodIn_r _ [7, 8, 18, 19, 20, 21, 22, 23, 24, 25, 26, 27, 28] (by decide +kernel) (by decide +kernel)
set_option maxRecDepth 20000 in
theorem gX6_boundTo_X2_has : GoodIn wsX6_boundTo (wsV RX6 111 RX2 yX2_has wsX2_has) := goodIn_app (goodIn_of _ (by decide +kernel)) ggX6_boundTo_X2_has
set_option maxRecDepth 20000 in
theorem ggX6_boundTo_X6_isVariableNumber : GoodIn wsX6_boundTo wsX6_isVariableNumber := goodIn_r _ [12] (by decide +kernel) (by decide +kernel)
set_option maxRecDepth 20000 in
theorem gX6_boundTo_X6_isVariableNumber : GoodIn wsX6_boundTo (va_wsS RX6 83 yX6_isVariableNumber wsX6_isVariableNumber) := goodIn_app (goodIn_of _ (by decide +kernel)) ggX6_boundTo_X6_isVariableNumber
theorem dX6_boundTo_0 : decode cX6_boundTo 0 = .ok (.aload_n 0, 1) := by decide +kernel
theorem dX6_boundTo_1 : decode cX6_boundTo 1 = .ok (.getfield 33, 3) := by decide +kernel
theorem dX6_boundTo_4 : decode cX6_boundTo 4 = .ok (.iload_n 1, 1) := by decide +kernel
theorem dX6_boundTo_5 : decode cX6_boundTo 5 = .ok (.invokevirtual 111, 3) := by decide +kernel
theorem dX6_boundTo_8 : decode cX6_boundTo 8 = .ok (.ifCond .eq 10, 3) := by decide +kernel
theorem dX6_boundTo_11 : decode cX6_boundTo 11 = .ok (.iload_n 2, 1) := by decide +kernel
theorem dX6_boundTo_12 : decode cX6_boundTo 12 = .ok (.invokestatic 83, 3) := by decide +kernel
theorem dX6_boundTo_15 : decode cX6_boundTo 15 = .ok (.ifCond .ne 6, 3) := by decide +kernel
theorem dX6_boundTo_18 : decode cX6_boundTo 18 = .ok (.bipush (-2), 2) := by decide +kernel
theorem dX6_boundTo_20 : decode cX6_boundTo 20 = .ok (.ireturn, 1) := by decide +kernel
theorem dX6_boundTo_21 : decode cX6_boundTo 21 = .ok (.aload_n 0, 1) := by decide +kernel
theorem dX6_boundTo_22 : decode cX6_boundTo 22 = .ok (.getfield 33, 3) := by decide +kernel
theorem dX6_boundTo_25 : decode cX6_boundTo 25 = .ok (.getfield 122, 3) := by decide +kernel
theorem dX6_boundTo_28 : decode cX6_boundTo 28 = .ok (.iload_n 1, 1) := by decide +kernel
theorem dX6_boundTo_29 : decode cX6_boundTo 29 = .ok (.iconst 2, 1) := by decide +kernel
theorem dX6_boundTo_30 : decode cX6_boundTo 30 = .ok (.imul, 1) := by decide +kernel
theorem dX6_boundTo_31 : decode cX6_boundTo 31 = .ok (.iload_n 2, 1) := by decide +kernel
theorem dX6_boundTo_32 : decode cX6_boundTo 32 = .ok (.iadd, 1) := by decide +kernel
theorem dX6_boundTo_33 : decode cX6_boundTo 33 = .ok (.iaload, 1) := by decide +kernel
theorem dX6_boundTo_34 : decode cX6_boundTo 34 = .ok (.ireturn, 1) := by decide +kernel
set_option maxRecDepth 20000 in
theorem ggX6_goes_X4_isClosed : GoodIn wsX6_goes wsX4_isClosed := goodIn_r _ [6, 7, 8, 9, 10, 5, 11, 12, 61, 62, 63, 64, 65, 66, 67, 68, 69, 70] (by decide +kernel) (by decide +kernel)
set_option maxRecDepth 20000 in
theorem gX6_goes_X4_isClosed : GoodIn wsX6_goes (wsV RX6 86 RX4 yX4_isClosed wsX4_isClosed) := goodIn_app (goodIn_of _ (by decide +kernel)) ggX6_goes_X4_isClosed
set_option maxRecDepth 20000 in
theorem ggX6_goes_X4_goesFor : GoodIn wsX6_goes wsX4_goesFor := goodIn_r _ [16, 17, 18, 19, 20, 21, 22, 23, 24, 25, 5, 26, 27, 28, 29, 30, 31, 32, 33, 34, 35, 36, 37, 38, 39, 40, 41, 12, 42, 7, 43, 44, 45, 46, 47, 48, 49, 50, 51, 52, 53, 54, 55, 61, 62, 63, 64, 65, 66, 67, 68, 69, 70] (by decide +kernel) (by decide +kernel)
set_option maxRecDepth 20000 in
theorem gX6_goes_X4_goesFor : GoodIn wsX6_goes (wsV RX6 125 RX4 yX4_goesFor wsX4_goesFor) := goodIn_app (goodIn_of _ (by decide +kernel)) ggX6_goes_X4_goesFor
theorem dX6_goes_0 : decode cX6_goes 0 = .ok (.aload_n 0, 1) := by decide +kernel
theorem dX6_goes_1 : decode cX6_goes 1 = .ok (.getfield 10, 3) := by decide +kernel
theorem dX6_goes_4 : decode cX6_goes 4 = .ok (.iload_n 1, 1) := by decide +kernel
theorem dX6_goes_5 : decode cX6_goes 5 = .ok (.invokevirtual 86, 3) := by decide +kernel
theorem dX6_goes_8 : decode cX6_goes 8 = .ok (.ifCond .eq 14, 3) := by decide +kernel
theorem dX6_goes_11 : decode cX6_goes 11 = .ok (.aload_n 0, 1) := by decide +kernel
theorem dX6_goes_12 : decode cX6_goes 12 = .ok (.getfield 10, 3) := by decide +kernel
theorem dX6_goes_15 : decode cX6_goes 15 = .ok (.iload_n 2, 1) := by decide +kernel
theorem dX6_goes_16 : decode cX6_goes 16 = .ok (.invokevirtual 86, 3) := by decide +kernel
theorem dX6_goes_19 : decode cX6_goes 19 = .ok (.ifCond .ne 6, 3) := by decide +kernel
theorem dX6_goes_22 : decode cX6_goes 22 = .ok (.bipush (-2), 2) := by decide +kernel
theorem dX6_goes_24 : decode cX6_goes 24 = .ok (.ireturn, 1) := by decide +kernel
theorem dX6_goes_25 : decode cX6_goes 25 = .ok (.aload_n 0, 1) := by decide +kernel
theorem dX6_goes_26 : decode cX6_goes 26 = .ok (.getfield 10, 3) := by decide +kernel
theorem dX6_goes_29 : decode cX6_goes 29 = .ok (.iload_n 1, 1) := by decide +kernel
theorem dX6_goes_30 : decode cX6_goes 30 = .ok (.iload_n 2, 1) := by decide +kernel
theorem dX6_goes_31 : decode cX6_goes 31 = .ok (.invokevirtual 125, 3) := by decide +kernel
theorem dX6_goes_34 : decode cX6_goes 34 = .ok (.ireturn, 1) := by decide +kernel
set_option maxRecDepth 20000 in
theorem ggX6_common_X4_isClosed : GoodIn wsX6_common wsX4_isClosed := goodIn_r _ [6, 7, 8, 9, 10, 5, 11, 12, 61, 62, 63, 64, 65, 66, 67, 68, 69, 70] (by decide +kernel) (by decide +kernel)
set_option maxRecDepth 20000 in
theorem gX6_common_X4_isClosed : GoodIn wsX6_common (wsV RX6 86 RX4 yX4_isClosed wsX4_isClosed) := goodIn_app (goodIn_of _ (by decide +kernel)) ggX6_common_X4_isClosed
set_option maxRecDepth 20000 in
theorem ggX6_common_X4_commonOf : GoodIn wsX6_common wsX4_commonOf := goodIn_r _ [16, 17, 18, 19, 20, 21, 22, 23, 24, 25, 5, 26, 27, 28, 29, 30, 31, 32, 33, 34, 35, 36, 37, 38, 39, 40, 41, 12, 42, 7, 43, 44, 45, 46, 47, 48, 49, 50, 51, 52, 53, 54, 55, 61, 62, 63, 64, 65, 66, 67, 68, 69, 70] (by decide +kernel) (by decide +kernel)
set_option maxRecDepth 20000 in
theorem gX6_common_X4_commonOf : GoodIn wsX6_common (wsV RX6 128 RX4 yX4_commonOf wsX4_commonOf) := goodIn_app (goodIn_of _ (by decide +kernel)) ggX6_common_X4_commonOf
theorem dX6_common_0 : decode cX6_common 0 = .ok (.aload_n 0, 1) := by decide +kernel
theorem dX6_common_1 : decode cX6_common 1 = .ok (.getfield 10, 3) := by decide +kernel
theorem dX6_common_4 : decode cX6_common 4 = .ok (.iload_n 1, 1) := by decide +kernel
theorem dX6_common_5 : decode cX6_common 5 = .ok (.invokevirtual 86, 3) := by decide +kernel
theorem dX6_common_8 : decode cX6_common 8 = .ok (.ifCond .eq 14, 3) := by decide +kernel
theorem dX6_common_11 : decode cX6_common 11 = .ok (.aload_n 0, 1) := by decide +kernel
theorem dX6_common_12 : decode cX6_common 12 = .ok (.getfield 10, 3) := by decide +kernel
theorem dX6_common_15 : decode cX6_common 15 = .ok (.iload_n 2, 1) := by decide +kernel
theorem dX6_common_16 : decode cX6_common 16 = .ok (.invokevirtual 86, 3) := by decide +kernel
theorem dX6_common_19 : decode cX6_common 19 = .ok (.ifCond .ne 6, 3) := by decide +kernel
theorem dX6_common_22 : decode cX6_common 22 = .ok (.bipush (-2), 2) := by decide +kernel
theorem dX6_common_24 : decode cX6_common 24 = .ok (.ireturn, 1) := by decide +kernel
theorem dX6_common_25 : decode cX6_common 25 = .ok (.aload_n 0, 1) := by decide +kernel
theorem dX6_common_26 : decode cX6_common 26 = .ok (.getfield 10, 3) := by decide +kernel
theorem dX6_common_29 : decode cX6_common 29 = .ok (.iload_n 1, 1) := by decide +kernel
theorem dX6_common_30 : decode cX6_common 30 = .ok (.iload_n 2, 1) := by decide +kernel
theorem dX6_common_31 : decode cX6_common 31 = .ok (.invokevirtual 128, 3) := by decide +kernel
theorem dX6_common_34 : decode cX6_common 34 = .ok (.ireturn, 1) := by decide +kernel
set_option maxRecDepth 20000 in
theorem ggX6_seen_X4_isClassType : GoodIn wsX6_seen wsX4_isClassType := goodIn_r _ [6, 7, 53, 54, 55, 56, 57, 58, 59, 60, 61, 62] (by decide +kernel) (by decide +kernel)
set_option maxRecDepth 20000 in
theorem gX6_seen_X4_isClassType : GoodIn wsX6_seen (wsV RX6 46 RX4 yX4_isClassType wsX4_isClassType) := goodIn_app (goodIn_of _ (by decide +kernel)) ggX6_seen_X4_isClassType
set_option maxRecDepth 20000 in
theorem ggX6_seen_X4_isClass : GoodIn wsX6_seen wsX4_isClass := goodIn_r _ [11, 12, 53, 54, 55, 56, 57, 58, 59, 60, 61, 62] (by decide +kernel) (by decide +kernel)
set_option maxRecDepth 20000 in
theorem gX6_seen_X4_isClass : GoodIn wsX6_seen (wsV RX6 58 RX4 yX4_isClass wsX4_isClass) := goodIn_app (goodIn_of _ (by decide +kernel)) ggX6_seen_X4_isClass
set_option maxRecDepth 20000 in
theorem ggX6_seen_X4_seenAs : GoodIn wsX6_seen wsX4_seenAs := goodIn_r _ [16, 17, 18, 19, 20, 21, 22, 23, 5, 24, 25, 26, 27, 28, 29, 30, 31, 32, 7, 33, 34, 35, 36, 37, 38, 39, 40, 41, 42, 43, 44, 45, 46, 47, 53, 54, 55, 56, 57, 58, 59, 60, 61, 62] (by decide +kernel) (by decide +kernel)
set_option maxRecDepth 20000 in
theorem gX6_seen_X4_seenAs : GoodIn wsX6_seen (wsV RX6 131 RX4 yX4_seenAs wsX4_seenAs) := goodIn_app (goodIn_of _ (by decide +kernel)) ggX6_seen_X4_seenAs
theorem dX6_seen_0 : decode cX6_seen 0 = .ok (.aload_n 0, 1) := by decide +kernel
theorem dX6_seen_1 : decode cX6_seen 1 = .ok (.getfield 10, 3) := by decide +kernel
theorem dX6_seen_4 : decode cX6_seen 4 = .ok (.iload_n 1, 1) := by decide +kernel
theorem dX6_seen_5 : decode cX6_seen 5 = .ok (.invokevirtual 46, 3) := by decide +kernel
theorem dX6_seen_8 : decode cX6_seen 8 = .ok (.ifCond .eq 14, 3) := by decide +kernel
theorem dX6_seen_11 : decode cX6_seen 11 = .ok (.aload_n 0, 1) := by decide +kernel
theorem dX6_seen_12 : decode cX6_seen 12 = .ok (.getfield 10, 3) := by decide +kernel
theorem dX6_seen_15 : decode cX6_seen 15 = .ok (.iload_n 2, 1) := by decide +kernel
theorem dX6_seen_16 : decode cX6_seen 16 = .ok (.invokevirtual 58, 3) := by decide +kernel
theorem dX6_seen_19 : decode cX6_seen 19 = .ok (.ifCond .ne 6, 3) := by decide +kernel
theorem dX6_seen_22 : decode cX6_seen 22 = .ok (.bipush (-2), 2) := by decide +kernel
theorem dX6_seen_24 : decode cX6_seen 24 = .ok (.ireturn, 1) := by decide +kernel
theorem dX6_seen_25 : decode cX6_seen 25 = .ok (.aload_n 0, 1) := by decide +kernel
theorem dX6_seen_26 : decode cX6_seen 26 = .ok (.getfield 10, 3) := by decide +kernel
theorem dX6_seen_29 : decode cX6_seen 29 = .ok (.iload_n 1, 1) := by decide +kernel
theorem dX6_seen_30 : decode cX6_seen 30 = .ok (.iload_n 2, 1) := by decide +kernel
theorem dX6_seen_31 : decode cX6_seen 31 = .ok (.invokevirtual 131, 3) := by decide +kernel
theorem dX6_seen_34 : decode cX6_seen 34 = .ok (.ireturn, 1) := by decide +kernel
set_option maxRecDepth 20000 in
theorem ggX6_about_X4_isType : GoodIn wsX6_about wsX4_isType := goodIn_r _ [9, 10, 22, 23, 24, 25, 26, 27, 28, 29, 30, 31] (by decide +kernel) (by decide +kernel)
set_option maxRecDepth 20000 in
theorem gX6_about_X4_isType : GoodIn wsX6_about (wsV RX6 72 RX4 yX4_isType wsX4_isType) := goodIn_app (goodIn_of _ (by decide +kernel)) ggX6_about_X4_isType
set_option maxRecDepth 20000 in
theorem ggX6_about_X4_isClosed : GoodIn wsX6_about wsX4_isClosed := goodIn_r _ [14, 15, 16, 6, 7, 8, 9, 10, 22, 23, 24, 25, 26, 27, 28, 29, 30, 31] (by decide +kernel) (by decide +kernel)
set_option maxRecDepth 20000 in
theorem gX6_about_X4_isClosed : GoodIn wsX6_about (wsV RX6 86 RX4 yX4_isClosed wsX4_isClosed) := goodIn_app (goodIn_of _ (by decide +kernel)) ggX6_about_X4_isClosed
theorem dX6_about_0 : decode cX6_about 0 = .ok (.aload_n 0, 1) := by decide +kernel
theorem dX6_about_1 : decode cX6_about 1 = .ok (.getfield 10, 3) := by decide +kernel
theorem dX6_about_4 : decode cX6_about 4 = .ok (.iload_n 1, 1) := by decide +kernel
theorem dX6_about_5 : decode cX6_about 5 = .ok (.invokevirtual 72, 3) := by decide +kernel
theorem dX6_about_8 : decode cX6_about 8 = .ok (.ifCond .ne 6, 3) := by decide +kernel
theorem dX6_about_11 : decode cX6_about 11 = .ok (.bipush (-2), 2) := by decide +kernel
theorem dX6_about_13 : decode cX6_about 13 = .ok (.ireturn, 1) := by decide +kernel
theorem dX6_about_14 : decode cX6_about 14 = .ok (.iload_n 2, 1) := by decide +kernel
theorem dX6_about_15 : decode cX6_about 15 = .ok (.tableswitch 76 0 3 #[29, 39, 49, 59], 29) := by decide +kernel
theorem dX6_about_44 : decode cX6_about 44 = .ok (.aload_n 0, 1) := by decide +kernel
theorem dX6_about_45 : decode cX6_about 45 = .ok (.getfield 10, 3) := by decide +kernel
theorem dX6_about_48 : decode cX6_about 48 = .ok (.getfield 134, 3) := by decide +kernel
theorem dX6_about_51 : decode cX6_about 51 = .ok (.iload_n 1, 1) := by decide +kernel
theorem dX6_about_52 : decode cX6_about 52 = .ok (.iaload, 1) := by decide +kernel
theorem dX6_about_53 : decode cX6_about 53 = .ok (.ireturn, 1) := by decide +kernel
theorem dX6_about_54 : decode cX6_about 54 = .ok (.aload_n 0, 1) := by decide +kernel
theorem dX6_about_55 : decode cX6_about 55 = .ok (.getfield 10, 3) := by decide +kernel
theorem dX6_about_58 : decode cX6_about 58 = .ok (.getfield 137, 3) := by decide +kernel
theorem dX6_about_61 : decode cX6_about 61 = .ok (.iload_n 1, 1) := by decide +kernel
theorem dX6_about_62 : decode cX6_about 62 = .ok (.iaload, 1) := by decide +kernel
theorem dX6_about_63 : decode cX6_about 63 = .ok (.ireturn, 1) := by decide +kernel
theorem dX6_about_64 : decode cX6_about 64 = .ok (.aload_n 0, 1) := by decide +kernel
theorem dX6_about_65 : decode cX6_about 65 = .ok (.getfield 10, 3) := by decide +kernel
theorem dX6_about_68 : decode cX6_about 68 = .ok (.getfield 140, 3) := by decide +kernel
theorem dX6_about_71 : decode cX6_about 71 = .ok (.iload_n 1, 1) := by decide +kernel
theorem dX6_about_72 : decode cX6_about 72 = .ok (.iaload, 1) := by decide +kernel
theorem dX6_about_73 : decode cX6_about 73 = .ok (.ireturn, 1) := by decide +kernel
theorem dX6_about_74 : decode cX6_about 74 = .ok (.aload_n 0, 1) := by decide +kernel
theorem dX6_about_75 : decode cX6_about 75 = .ok (.getfield 10, 3) := by decide +kernel
theorem dX6_about_78 : decode cX6_about 78 = .ok (.iload_n 1, 1) := by decide +kernel
theorem dX6_about_79 : decode cX6_about 79 = .ok (.invokevirtual 86, 3) := by decide +kernel
theorem dX6_about_82 : decode cX6_about 82 = .ok (.ifCond .eq 7, 3) := by decide +kernel
theorem dX6_about_85 : decode cX6_about 85 = .ok (.iconst 1, 1) := by decide +kernel
theorem dX6_about_86 : decode cX6_about 86 = .ok (.goto 4, 3) := by decide +kernel
theorem dX6_about_89 : decode cX6_about 89 = .ok (.iconst 0, 1) := by decide +kernel
theorem dX6_about_90 : decode cX6_about 90 = .ok (.ireturn, 1) := by decide +kernel
theorem dX6_about_91 : decode cX6_about 91 = .ok (.bipush (-2), 2) := by decide +kernel
theorem dX6_about_93 : decode cX6_about 93 = .ok (.ireturn, 1) := by decide +kernel
set_option maxRecDepth 20000 in
theorem ggX6_count_X2_howManyRisky : GoodIn wsX6_count wsX2_howManyRisky := goodIn_r _ [14, 15, 16, 40, 41, 42, 43, 44, 45, 46, 47, 48, 49, 50] (by decide +kernel) (by decide +kernel)
set_option maxRecDepth 20000 in
theorem gX6_count_X2_howManyRisky : GoodIn wsX6_count (wsV RX6 149 RX2 yX2_howManyRisky wsX2_howManyRisky) := goodIn_app (goodIn_of _ (by decide +kernel)) ggX6_count_X2_howManyRisky
theorem dX6_count_0 : decode cX6_count 0 = .ok (.iload_n 1, 1) := by decide +kernel
theorem dX6_count_1 : decode cX6_count 1 = .ok (.tableswitch 87 0 5 #[39, 47, 55, 63, 71, 79], 39) := by decide +kernel
theorem dX6_count_40 : decode cX6_count 40 = .ok (.aload_n 0, 1) := by decide +kernel
theorem dX6_count_41 : decode cX6_count 41 = .ok (.getfield 10, 3) := by decide +kernel
theorem dX6_count_44 : decode cX6_count 44 = .ok (.getfield 143, 3) := by decide +kernel
theorem dX6_count_47 : decode cX6_count 47 = .ok (.ireturn, 1) := by decide +kernel
theorem dX6_count_48 : decode cX6_count 48 = .ok (.aload_n 0, 1) := by decide +kernel
theorem dX6_count_49 : decode cX6_count 49 = .ok (.getfield 10, 3) := by decide +kernel
theorem dX6_count_52 : decode cX6_count 52 = .ok (.getfield 146, 3) := by decide +kernel
theorem dX6_count_55 : decode cX6_count 55 = .ok (.ireturn, 1) := by decide +kernel
theorem dX6_count_56 : decode cX6_count 56 = .ok (.aload_n 0, 1) := by decide +kernel
theorem dX6_count_57 : decode cX6_count 57 = .ok (.getfield 19, 3) := by decide +kernel
theorem dX6_count_60 : decode cX6_count 60 = .ok (.getfield 147, 3) := by decide +kernel
theorem dX6_count_63 : decode cX6_count 63 = .ok (.ireturn, 1) := by decide +kernel
theorem dX6_count_64 : decode cX6_count 64 = .ok (.aload_n 0, 1) := by decide +kernel
theorem dX6_count_65 : decode cX6_count 65 = .ok (.getfield 26, 3) := by decide +kernel
theorem dX6_count_68 : decode cX6_count 68 = .ok (.getfield 148, 3) := by decide +kernel
theorem dX6_count_71 : decode cX6_count 71 = .ok (.ireturn, 1) := by decide +kernel
theorem dX6_count_72 : decode cX6_count 72 = .ok (.aload_n 0, 1) := by decide +kernel
theorem dX6_count_73 : decode cX6_count 73 = .ok (.getfield 33, 3) := by decide +kernel
theorem dX6_count_76 : decode cX6_count 76 = .ok (.getfield 99, 3) := by decide +kernel
theorem dX6_count_79 : decode cX6_count 79 = .ok (.ireturn, 1) := by decide +kernel
theorem dX6_count_80 : decode cX6_count 80 = .ok (.aload_n 0, 1) := by decide +kernel
theorem dX6_count_81 : decode cX6_count 81 = .ok (.getfield 33, 3) := by decide +kernel
theorem dX6_count_84 : decode cX6_count 84 = .ok (.invokevirtual 149, 3) := by decide +kernel
theorem dX6_count_87 : decode cX6_count 87 = .ok (.ireturn, 1) := by decide +kernel
theorem dX6_count_88 : decode cX6_count 88 = .ok (.bipush (-2), 2) := by decide +kernel
theorem dX6_count_90 : decode cX6_count 90 = .ok (.ireturn, 1) := by decide +kernel
set_option maxRecDepth 20000 in
theorem ggX6_isAsTold_X4_isClosed : GoodIn wsX6_isAsTold wsX4_isClosed := goodIn_r _ [10, 11, 12, 13, 14, 9, 15, 16, 50, 51, 52, 53, 54, 55, 56, 57, 58, 59] (by decide +kernel) (by decide +kernel)
set_option maxRecDepth 20000 in
theorem gX6_isAsTold_X4_isClosed : GoodIn wsX6_isAsTold (wsV RX6 86 RX4 yX4_isClosed wsX4_isClosed) := goodIn_app (goodIn_of _ (by decide +kernel)) ggX6_isAsTold_X4_isClosed
set_option maxRecDepth 20000 in
theorem ggX6_isAsTold_X2_has : GoodIn wsX6_isAsTold wsX2_has := goodIn_r _ [21, 22, 60, 61, 62, 63, 64, 65, 66, 67, 68, 69, 70] (by decide +kernel) (by decide +kernel)
set_option maxRecDepth 20000 in
theorem gX6_isAsTold_X2_has : GoodIn wsX6_isAsTold (wsV RX6 111 RX2 yX2_has wsX2_has) := goodIn_app (goodIn_of _ (by decide +kernel)) ggX6_isAsTold_X2_has
set_option maxRecDepth 20000 in
theorem ggX6_isAsTold_X0_hasWith : GoodIn wsX6_isAsTold wsX0_hasWith := goodIn_r _ [27, 28, 29, 30, 31, 26, 32, 33, 71, 72, 73, 74, 75] (by decide +kernel) (by decide +kernel)
set_option maxRecDepth 20000 in
theorem gX6_isAsTold_X0_hasWith : GoodIn wsX6_isAsTold (wsV RX6 153 RX0 yX0_hasWith wsX0_hasWith) := goodIn_app (goodIn_of _ (by decide +kernel)) ggX6_isAsTold_X0_hasWith
set_option maxRecDepth 20000 in
theorem ggX6_isAsTold_X1_has : GoodIn wsX6_isAsTold wsX1_has := goodIn_r _ [38, 39, 76, 77, 78] (by decide +kernel) (by decide +kernel)
set_option maxRecDepth 20000 in
theorem gX6_isAsTold_X1_has : GoodIn wsX6_isAsTold (wsV RX6 156 RX1 yX1_has wsX1_has) := goodIn_app (goodIn_of _ (by decide +kernel)) ggX6_isAsTold_X1_has
set_option maxRecDepth 20000 in
theorem ggX6_isAsTold_X4_isClass : GoodIn wsX6_isAsTold wsX4_isClass := goodIn_r _ [43, 44, 50, 51, 52, 53, 54, 55, 56, 57, 58, 59] (by decide +kernel) (by decide +kernel)
set_option maxRecDepth 20000 in
theorem gX6_isAsTold_X4_isClass : GoodIn wsX6_isAsTold (wsV RX6 58 RX4 yX4_isClass wsX4_isClass) := goodIn_app (goodIn_of _ (by decide +kernel)) ggX6_isAsTold_X4_isClass
theorem dX6_isAsTold_0 : decode cX6_isAsTold 0 = .ok (.iload_n 1, 1) := by decide +kernel
theorem dX6_isAsTold_1 : decode cX6_isAsTold 1 = .ok (.tableswitch 292 0 7 #[47, 57, 57, 87, 116, 144, 185, 263], 47) := by decide +kernel
theorem dX6_isAsTold_48 : decode cX6_isAsTold 48 = .ok (.aload_n 0, 1) := by decide +kernel
theorem dX6_isAsTold_49 : decode cX6_isAsTold 49 = .ok (.getfield 10, 3) := by decide +kernel
theorem dX6_isAsTold_52 : decode cX6_isAsTold 52 = .ok (.iload 4, 2) := by decide +kernel
theorem dX6_isAsTold_54 : decode cX6_isAsTold 54 = .ok (.invokevirtual 86, 3) := by decide +kernel
theorem dX6_isAsTold_57 : decode cX6_isAsTold 57 = .ok (.ireturn, 1) := by decide +kernel
theorem dX6_isAsTold_58 : decode cX6_isAsTold 58 = .ok (.aload_n 0, 1) := by decide +kernel
theorem dX6_isAsTold_59 : decode cX6_isAsTold 59 = .ok (.getfield 33, 3) := by decide +kernel
theorem dX6_isAsTold_62 : decode cX6_isAsTold 62 = .ok (.iload_n 2, 1) := by decide +kernel
theorem dX6_isAsTold_63 : decode cX6_isAsTold 63 = .ok (.invokevirtual 111, 3) := by decide +kernel
theorem dX6_isAsTold_66 : decode cX6_isAsTold 66 = .ok (.ifCond .eq 20, 3) := by decide +kernel
theorem dX6_isAsTold_69 : decode cX6_isAsTold 69 = .ok (.aload_n 0, 1) := by decide +kernel
theorem dX6_isAsTold_70 : decode cX6_isAsTold 70 = .ok (.getfield 26, 3) := by decide +kernel
theorem dX6_isAsTold_73 : decode cX6_isAsTold 73 = .ok (.iload 4, 2) := by decide +kernel
theorem dX6_isAsTold_75 : decode cX6_isAsTold 75 = .ok (.iconst 1, 1) := by decide +kernel
theorem dX6_isAsTold_76 : decode cX6_isAsTold 76 = .ok (.invokevirtual 153, 3) := by decide +kernel
theorem dX6_isAsTold_79 : decode cX6_isAsTold 79 = .ok (.ifCond .eq 7, 3) := by decide +kernel
theorem dX6_isAsTold_82 : decode cX6_isAsTold 82 = .ok (.iconst 1, 1) := by decide +kernel
theorem dX6_isAsTold_83 : decode cX6_isAsTold 83 = .ok (.goto 4, 3) := by decide +kernel
theorem dX6_isAsTold_86 : decode cX6_isAsTold 86 = .ok (.iconst 0, 1) := by decide +kernel
theorem dX6_isAsTold_87 : decode cX6_isAsTold 87 = .ok (.ireturn, 1) := by decide +kernel
theorem dX6_isAsTold_88 : decode cX6_isAsTold 88 = .ok (.aload_n 0, 1) := by decide +kernel
theorem dX6_isAsTold_89 : decode cX6_isAsTold 89 = .ok (.getfield 33, 3) := by decide +kernel
theorem dX6_isAsTold_92 : decode cX6_isAsTold 92 = .ok (.iload_n 2, 1) := by decide +kernel
theorem dX6_isAsTold_93 : decode cX6_isAsTold 93 = .ok (.invokevirtual 111, 3) := by decide +kernel
theorem dX6_isAsTold_96 : decode cX6_isAsTold 96 = .ok (.ifCond .eq 19, 3) := by decide +kernel
theorem dX6_isAsTold_99 : decode cX6_isAsTold 99 = .ok (.aload_n 0, 1) := by decide +kernel
theorem dX6_isAsTold_100 : decode cX6_isAsTold 100 = .ok (.getfield 19, 3) := by decide +kernel
theorem dX6_isAsTold_103 : decode cX6_isAsTold 103 = .ok (.iload 4, 2) := by decide +kernel
theorem dX6_isAsTold_105 : decode cX6_isAsTold 105 = .ok (.invokevirtual 156, 3) := by decide +kernel
theorem dX6_isAsTold_108 : decode cX6_isAsTold 108 = .ok (.ifCond .eq 7, 3) := by decide +kernel
theorem dX6_isAsTold_111 : decode cX6_isAsTold 111 = .ok (.iconst 1, 1) := by decide +kernel
theorem dX6_isAsTold_112 : decode cX6_isAsTold 112 = .ok (.goto 4, 3) := by decide +kernel
theorem dX6_isAsTold_115 : decode cX6_isAsTold 115 = .ok (.iconst 0, 1) := by decide +kernel
theorem dX6_isAsTold_116 : decode cX6_isAsTold 116 = .ok (.ireturn, 1) := by decide +kernel
theorem dX6_isAsTold_117 : decode cX6_isAsTold 117 = .ok (.aload_n 0, 1) := by decide +kernel
theorem dX6_isAsTold_118 : decode cX6_isAsTold 118 = .ok (.getfield 33, 3) := by decide +kernel
theorem dX6_isAsTold_121 : decode cX6_isAsTold 121 = .ok (.iload_n 2, 1) := by decide +kernel
theorem dX6_isAsTold_122 : decode cX6_isAsTold 122 = .ok (.invokevirtual 111, 3) := by decide +kernel
theorem dX6_isAsTold_125 : decode cX6_isAsTold 125 = .ok (.ifCond .eq 18, 3) := by decide +kernel
theorem dX6_isAsTold_128 : decode cX6_isAsTold 128 = .ok (.aload_n 0, 1) := by decide +kernel
theorem dX6_isAsTold_129 : decode cX6_isAsTold 129 = .ok (.getfield 33, 3) := by decide +kernel
theorem dX6_isAsTold_132 : decode cX6_isAsTold 132 = .ok (.iload_n 3, 1) := by decide +kernel
theorem dX6_isAsTold_133 : decode cX6_isAsTold 133 = .ok (.invokevirtual 111, 3) := by decide +kernel
theorem dX6_isAsTold_136 : decode cX6_isAsTold 136 = .ok (.ifCond .eq 7, 3) := by decide +kernel
theorem dX6_isAsTold_139 : decode cX6_isAsTold 139 = .ok (.iconst 1, 1) := by decide +kernel
theorem dX6_isAsTold_140 : decode cX6_isAsTold 140 = .ok (.goto 4, 3) := by decide +kernel
theorem dX6_isAsTold_143 : decode cX6_isAsTold 143 = .ok (.iconst 0, 1) := by decide +kernel
theorem dX6_isAsTold_144 : decode cX6_isAsTold 144 = .ok (.ireturn, 1) := by decide +kernel
theorem dX6_isAsTold_145 : decode cX6_isAsTold 145 = .ok (.aload_n 0, 1) := by decide +kernel
theorem dX6_isAsTold_146 : decode cX6_isAsTold 146 = .ok (.getfield 33, 3) := by decide +kernel
theorem dX6_isAsTold_149 : decode cX6_isAsTold 149 = .ok (.iload_n 2, 1) := by decide +kernel
theorem dX6_isAsTold_150 : decode cX6_isAsTold 150 = .ok (.invokevirtual 111, 3) := by decide +kernel
theorem dX6_isAsTold_153 : decode cX6_isAsTold 153 = .ok (.ifCond .eq 31, 3) := by decide +kernel
theorem dX6_isAsTold_156 : decode cX6_isAsTold 156 = .ok (.aload_n 0, 1) := by decide +kernel
theorem dX6_isAsTold_157 : decode cX6_isAsTold 157 = .ok (.getfield 33, 3) := by decide +kernel
theorem dX6_isAsTold_160 : decode cX6_isAsTold 160 = .ok (.iload_n 3, 1) := by decide +kernel
theorem dX6_isAsTold_161 : decode cX6_isAsTold 161 = .ok (.invokevirtual 111, 3) := by decide +kernel
theorem dX6_isAsTold_164 : decode cX6_isAsTold 164 = .ok (.ifCond .eq 20, 3) := by decide +kernel
theorem dX6_isAsTold_167 : decode cX6_isAsTold 167 = .ok (.aload_n 0, 1) := by decide +kernel
theorem dX6_isAsTold_168 : decode cX6_isAsTold 168 = .ok (.getfield 26, 3) := by decide +kernel
theorem dX6_isAsTold_171 : decode cX6_isAsTold 171 = .ok (.iload 4, 2) := by decide +kernel
theorem dX6_isAsTold_173 : decode cX6_isAsTold 173 = .ok (.iconst 2, 1) := by decide +kernel
theorem dX6_isAsTold_174 : decode cX6_isAsTold 174 = .ok (.invokevirtual 153, 3) := by decide +kernel
theorem dX6_isAsTold_177 : decode cX6_isAsTold 177 = .ok (.ifCond .eq 7, 3) := by decide +kernel
theorem dX6_isAsTold_180 : decode cX6_isAsTold 180 = .ok (.iconst 1, 1) := by decide +kernel
theorem dX6_isAsTold_181 : decode cX6_isAsTold 181 = .ok (.goto 4, 3) := by decide +kernel
theorem dX6_isAsTold_184 : decode cX6_isAsTold 184 = .ok (.iconst 0, 1) := by decide +kernel
theorem dX6_isAsTold_185 : decode cX6_isAsTold 185 = .ok (.ireturn, 1) := by decide +kernel
theorem dX6_isAsTold_186 : decode cX6_isAsTold 186 = .ok (.aload_n 0, 1) := by decide +kernel
theorem dX6_isAsTold_187 : decode cX6_isAsTold 187 = .ok (.getfield 33, 3) := by decide +kernel
theorem dX6_isAsTold_190 : decode cX6_isAsTold 190 = .ok (.iload_n 2, 1) := by decide +kernel
theorem dX6_isAsTold_191 : decode cX6_isAsTold 191 = .ok (.invokevirtual 111, 3) := by decide +kernel
theorem dX6_isAsTold_194 : decode cX6_isAsTold 194 = .ok (.ifCond .eq 68, 3) := by decide +kernel
theorem dX6_isAsTold_197 : decode cX6_isAsTold 197 = .ok (.aload_n 0, 1) := by decide +kernel
theorem dX6_isAsTold_198 : decode cX6_isAsTold 198 = .ok (.getfield 33, 3) := by decide +kernel
theorem dX6_isAsTold_201 : decode cX6_isAsTold 201 = .ok (.iload_n 3, 1) := by decide +kernel
theorem dX6_isAsTold_202 : decode cX6_isAsTold 202 = .ok (.invokevirtual 111, 3) := by decide +kernel
theorem dX6_isAsTold_205 : decode cX6_isAsTold 205 = .ok (.ifCond .eq 57, 3) := by decide +kernel
theorem dX6_isAsTold_208 : decode cX6_isAsTold 208 = .ok (.aload_n 0, 1) := by decide +kernel
theorem dX6_isAsTold_209 : decode cX6_isAsTold 209 = .ok (.getfield 19, 3) := by decide +kernel
theorem dX6_isAsTold_212 : decode cX6_isAsTold 212 = .ok (.iload 4, 2) := by decide +kernel
theorem dX6_isAsTold_214 : decode cX6_isAsTold 214 = .ok (.invokevirtual 156, 3) := by decide +kernel
theorem dX6_isAsTold_217 : decode cX6_isAsTold 217 = .ok (.ifCond .eq 45, 3) := by decide +kernel
theorem dX6_isAsTold_220 : decode cX6_isAsTold 220 = .ok (.aload_n 0, 1) := by decide +kernel
theorem dX6_isAsTold_221 : decode cX6_isAsTold 221 = .ok (.getfield 19, 3) := by decide +kernel
theorem dX6_isAsTold_224 : decode cX6_isAsTold 224 = .ok (.iload 5, 2) := by decide +kernel
theorem dX6_isAsTold_226 : decode cX6_isAsTold 226 = .ok (.invokevirtual 156, 3) := by decide +kernel
theorem dX6_isAsTold_229 : decode cX6_isAsTold 229 = .ok (.ifCond .eq 33, 3) := by decide +kernel
theorem dX6_isAsTold_232 : decode cX6_isAsTold 232 = .ok (.aload_n 0, 1) := by decide +kernel
theorem dX6_isAsTold_233 : decode cX6_isAsTold 233 = .ok (.getfield 10, 3) := by decide +kernel
theorem dX6_isAsTold_236 : decode cX6_isAsTold 236 = .ok (.iload 6, 2) := by decide +kernel
theorem dX6_isAsTold_238 : decode cX6_isAsTold 238 = .ok (.invokevirtual 58, 3) := by decide +kernel
theorem dX6_isAsTold_241 : decode cX6_isAsTold 241 = .ok (.ifCond .eq 21, 3) := by decide +kernel
theorem dX6_isAsTold_244 : decode cX6_isAsTold 244 = .ok (.aload_n 0, 1) := by decide +kernel
theorem dX6_isAsTold_245 : decode cX6_isAsTold 245 = .ok (.getfield 10, 3) := by decide +kernel
theorem dX6_isAsTold_248 : decode cX6_isAsTold 248 = .ok (.getfield 61, 3) := by decide +kernel
theorem dX6_isAsTold_251 : decode cX6_isAsTold 251 = .ok (.iload 6, 2) := by decide +kernel
theorem dX6_isAsTold_253 : decode cX6_isAsTold 253 = .ok (.iaload, 1) := by decide +kernel
theorem dX6_isAsTold_254 : decode cX6_isAsTold 254 = .ok (.iconst 2, 1) := by decide +kernel
theorem dX6_isAsTold_255 : decode cX6_isAsTold 255 = .ok (.if_icmp .ne 7, 3) := by decide +kernel
theorem dX6_isAsTold_258 : decode cX6_isAsTold 258 = .ok (.iconst 1, 1) := by decide +kernel
theorem dX6_isAsTold_259 : decode cX6_isAsTold 259 = .ok (.goto 4, 3) := by decide +kernel
theorem dX6_isAsTold_262 : decode cX6_isAsTold 262 = .ok (.iconst 0, 1) := by decide +kernel
theorem dX6_isAsTold_263 : decode cX6_isAsTold 263 = .ok (.ireturn, 1) := by decide +kernel
theorem dX6_isAsTold_264 : decode cX6_isAsTold 264 = .ok (.aload_n 0, 1) := by decide +kernel
theorem dX6_isAsTold_265 : decode cX6_isAsTold 265 = .ok (.getfield 33, 3) := by decide +kernel
theorem dX6_isAsTold_268 : decode cX6_isAsTold 268 = .ok (.iload_n 2, 1) := by decide +kernel
theorem dX6_isAsTold_269 : decode cX6_isAsTold 269 = .ok (.invokevirtual 111, 3) := by decide +kernel
theorem dX6_isAsTold_272 : decode cX6_isAsTold 272 = .ok (.ifCond .eq 19, 3) := by decide +kernel
theorem dX6_isAsTold_275 : decode cX6_isAsTold 275 = .ok (.aload_n 0, 1) := by decide +kernel
theorem dX6_isAsTold_276 : decode cX6_isAsTold 276 = .ok (.getfield 10, 3) := by decide +kernel
theorem dX6_isAsTold_279 : decode cX6_isAsTold 279 = .ok (.iload 4, 2) := by decide +kernel
theorem dX6_isAsTold_281 : decode cX6_isAsTold 281 = .ok (.invokevirtual 86, 3) := by decide +kernel
theorem dX6_isAsTold_284 : decode cX6_isAsTold 284 = .ok (.ifCond .eq 7, 3) := by decide +kernel
theorem dX6_isAsTold_287 : decode cX6_isAsTold 287 = .ok (.iconst 1, 1) := by decide +kernel
theorem dX6_isAsTold_288 : decode cX6_isAsTold 288 = .ok (.goto 4, 3) := by decide +kernel
theorem dX6_isAsTold_291 : decode cX6_isAsTold 291 = .ok (.iconst 0, 1) := by decide +kernel
theorem dX6_isAsTold_292 : decode cX6_isAsTold 292 = .ok (.ireturn, 1) := by decide +kernel
theorem dX6_isAsTold_293 : decode cX6_isAsTold 293 = .ok (.iconst 0, 1) := by decide +kernel
theorem dX6_isAsTold_294 : decode cX6_isAsTold 294 = .ok (.ireturn, 1) := by decide +kernel
theorem dX6_isVariableNumber_0 : decode cX6_isVariableNumber 0 = .ok (.iload_n 0, 1) := by decide +kernel
theorem dX6_isVariableNumber_1 : decode cX6_isVariableNumber 1 = .ok (.ifCond .lt 12, 3) := by decide +kernel
theorem dX6_isVariableNumber_4 : decode cX6_isVariableNumber 4 = .ok (.iload_n 0, 1) := by decide +kernel
theorem dX6_isVariableNumber_5 : decode cX6_isVariableNumber 5 = .ok (.iconst 2, 1) := by decide +kernel
theorem dX6_isVariableNumber_6 : decode cX6_isVariableNumber 6 = .ok (.if_icmp .ge 7, 3) := by decide +kernel
theorem dX6_isVariableNumber_9 : decode cX6_isVariableNumber 9 = .ok (.iconst 1, 1) := by decide +kernel
theorem dX6_isVariableNumber_10 : decode cX6_isVariableNumber 10 = .ok (.goto 4, 3) := by decide +kernel
theorem dX6_isVariableNumber_13 : decode cX6_isVariableNumber 13 = .ok (.iconst 0, 1) := by decide +kernel
theorem dX6_isVariableNumber_14 : decode cX6_isVariableNumber 14 = .ok (.ireturn, 1) := by decide +kernel
theorem dX6_isPrimitive_0 : decode cX6_isPrimitive 0 = .ok (.iload_n 0, 1) := by decide +kernel
theorem dX6_isPrimitive_1 : decode cX6_isPrimitive 1 = .ok (.ifCond .lt 12, 3) := by decide +kernel
theorem dX6_isPrimitive_4 : decode cX6_isPrimitive 4 = .ok (.iload_n 0, 1) := by decide +kernel
theorem dX6_isPrimitive_5 : decode cX6_isPrimitive 5 = .ok (.iconst 3, 1) := by decide +kernel
theorem dX6_isPrimitive_6 : decode cX6_isPrimitive 6 = .ok (.if_icmp .gt 7, 3) := by decide +kernel
theorem dX6_isPrimitive_9 : decode cX6_isPrimitive 9 = .ok (.iconst 1, 1) := by decide +kernel
theorem dX6_isPrimitive_10 : decode cX6_isPrimitive 10 = .ok (.goto 4, 3) := by decide +kernel
theorem dX6_isPrimitive_13 : decode cX6_isPrimitive 13 = .ok (.iconst 0, 1) := by decide +kernel
theorem dX6_isPrimitive_14 : decode cX6_isPrimitive 14 = .ok (.ireturn, 1) := by decide +kernel
theorem dX6_isVariable_0 : decode cX6_isVariable 0 = .ok (.iload_n 0, 1) := by decide +kernel
theorem dX6_isVariable_1 : decode cX6_isVariable 1 = .ok (.iconst 4, 1) := by decide +kernel
theorem dX6_isVariable_2 : decode cX6_isVariable 2 = .ok (.if_icmp .eq 8, 3) := by decide +kernel
theorem dX6_isVariable_5 : decode cX6_isVariable 5 = .ok (.iload_n 0, 1) := by decide +kernel
theorem dX6_isVariable_6 : decode cX6_isVariable 6 = .ok (.iconst 5, 1) := by decide +kernel
theorem dX6_isVariable_7 : decode cX6_isVariable 7 = .ok (.if_icmp .ne 7, 3) := by decide +kernel
theorem dX6_isVariable_10 : decode cX6_isVariable 10 = .ok (.iconst 1, 1) := by decide +kernel
theorem dX6_isVariable_11 : decode cX6_isVariable 11 = .ok (.goto 4, 3) := by decide +kernel
theorem dX6_isVariable_14 : decode cX6_isVariable 14 = .ok (.iconst 0, 1) := by decide +kernel
theorem dX6_isVariable_15 : decode cX6_isVariable 15 = .ok (.ireturn, 1) := by decide +kernel
theorem dX6_widens_0 : decode cX6_widens 0 = .ok (.iload_n 0, 1) := by decide +kernel
theorem dX6_widens_1 : decode cX6_widens 1 = .ok (.iconst 1, 1) := by decide +kernel
theorem dX6_widens_2 : decode cX6_widens 2 = .ok (.if_icmp .ne 17, 3) := by decide +kernel
theorem dX6_widens_5 : decode cX6_widens 5 = .ok (.iload_n 1, 1) := by decide +kernel
theorem dX6_widens_6 : decode cX6_widens 6 = .ok (.iconst 2, 1) := by decide +kernel
theorem dX6_widens_7 : decode cX6_widens 7 = .ok (.if_icmp .eq 8, 3) := by decide +kernel
theorem dX6_widens_10 : decode cX6_widens 10 = .ok (.iload_n 1, 1) := by decide +kernel
theorem dX6_widens_11 : decode cX6_widens 11 = .ok (.iconst 3, 1) := by decide +kernel
theorem dX6_widens_12 : decode cX6_widens 12 = .ok (.if_icmp .ne 7, 3) := by decide +kernel
theorem dX6_widens_15 : decode cX6_widens 15 = .ok (.iconst 1, 1) := by decide +kernel
theorem dX6_widens_16 : decode cX6_widens 16 = .ok (.goto 4, 3) := by decide +kernel
theorem dX6_widens_19 : decode cX6_widens 19 = .ok (.iconst 0, 1) := by decide +kernel
theorem dX6_widens_20 : decode cX6_widens 20 = .ok (.ireturn, 1) := by decide +kernel
