theorem dX0_init_0 : decode cX0_init 0 = .ok (.aload_n 0, 1) := by decide +kernel
theorem dX0_init_1 : decode cX0_init 1 = .ok (.invokespecial 3, 3) := by decide +kernel
theorem dX0_init_4 : decode cX0_init 4 = .ok (.aload_n 0, 1) := by decide +kernel
theorem dX0_init_5 : decode cX0_init 5 = .ok (.iconst 0, 1) := by decide +kernel
theorem dX0_init_6 : decode cX0_init 6 = .ok (.putfield 9, 3) := by decide +kernel
theorem dX0_init_9 : decode cX0_init 9 = .ok (.aload_n 0, 1) := by decide +kernel
theorem dX0_init_10 : decode cX0_init 10 = .ok (.bipush 16, 2) := by decide +kernel
theorem dX0_init_12 : decode cX0_init 12 = .ok (.newarray .int, 2) := by decide +kernel
theorem dX0_init_14 : decode cX0_init 14 = .ok (.putfield 15, 3) := by decide +kernel
theorem dX0_init_17 : decode cX0_init 17 = .ok (.aload_n 0, 1) := by decide +kernel
theorem dX0_init_18 : decode cX0_init 18 = .ok (.bipush 16, 2) := by decide +kernel
theorem dX0_init_20 : decode cX0_init 20 = .ok (.newarray .int, 2) := by decide +kernel
theorem dX0_init_22 : decode cX0_init 22 = .ok (.putfield 19, 3) := by decide +kernel
theorem dX0_init_25 : decode cX0_init 25 = .ok (.aload_n 0, 1) := by decide +kernel
theorem dX0_init_26 : decode cX0_init 26 = .ok (.bipush 16, 2) := by decide +kernel
theorem dX0_init_28 : decode cX0_init 28 = .ok (.newarray .int, 2) := by decide +kernel
theorem dX0_init_30 : decode cX0_init 30 = .ok (.putfield 22, 3) := by decide +kernel
theorem dX0_init_33 : decode cX0_init 33 = .ok (.aload_n 0, 1) := by decide +kernel
theorem dX0_init_34 : decode cX0_init 34 = .ok (.bipush 32, 2) := by decide +kernel
theorem dX0_init_36 : decode cX0_init 36 = .ok (.newarray .int, 2) := by decide +kernel
theorem dX0_init_38 : decode cX0_init 38 = .ok (.putfield 25, 3) := by decide +kernel
theorem dX0_init_41 : decode cX0_init 41 = .ok (.return_, 1) := by decide +kernel
theorem dX0_has_0 : decode cX0_has 0 = .ok (.iload_n 1, 1) := by decide +kernel
theorem dX0_has_1 : decode cX0_has 1 = .ok (.ifCond .lt 15, 3) := by decide +kernel
theorem dX0_has_4 : decode cX0_has 4 = .ok (.iload_n 1, 1) := by decide +kernel
theorem dX0_has_5 : decode cX0_has 5 = .ok (.aload_n 0, 1) := by decide +kernel
theorem dX0_has_6 : decode cX0_has 6 = .ok (.getfield 9, 3) := by decide +kernel
theorem dX0_has_9 : decode cX0_has 9 = .ok (.if_icmp .ge 7, 3) := by decide +kernel
theorem dX0_has_12 : decode cX0_has 12 = .ok (.iconst 1, 1) := by decide +kernel
theorem dX0_has_13 : decode cX0_has 13 = .ok (.goto 4, 3) := by decide +kernel
theorem dX0_has_16 : decode cX0_has 16 = .ok (.iconst 0, 1) := by decide +kernel
theorem dX0_has_17 : decode cX0_has 17 = .ok (.ireturn, 1) := by decide +kernel
set_option maxRecDepth 20000 in
theorem ggX0_hasWith_X0_has : GoodIn wsX0_hasWith wsX0_has := goodIn_r _ [6, 7, 8, 9, 10, 11, 12] (by decide +kernel) (by decide +kernel)
set_option maxRecDepth 20000 in
theorem gX0_hasWith_X0_has : GoodIn wsX0_hasWith (wsV RX0 28 RX0 yX0_has wsX0_has) := goodIn_app (goodIn_of _ (by decide +kernel)) ggX0_hasWith_X0_has
theorem dX0_hasWith_0 : decode cX0_hasWith 0 = .ok (.aload_n 0, 1) := by decide +kernel
theorem dX0_hasWith_1 : decode cX0_hasWith 1 = .ok (.iload_n 1, 1) := by decide +kernel
theorem dX0_hasWith_2 : decode cX0_hasWith 2 = .ok (.invokevirtual 28, 3) := by decide +kernel
theorem dX0_hasWith_5 : decode cX0_hasWith 5 = .ok (.ifCond .eq 26, 3) := by decide +kernel
theorem dX0_hasWith_8 : decode cX0_hasWith 8 = .ok (.aload_n 0, 1) := by decide +kernel
theorem dX0_hasWith_9 : decode cX0_hasWith 9 = .ok (.getfield 19, 3) := by decide +kernel
theorem dX0_hasWith_12 : decode cX0_hasWith 12 = .ok (.iload_n 1, 1) := by decide +kernel
theorem dX0_hasWith_13 : decode cX0_hasWith 13 = .ok (.iaload, 1) := by decide +kernel
theorem dX0_hasWith_14 : decode cX0_hasWith 14 = .ok (.iconst (-1), 1) := by decide +kernel
theorem dX0_hasWith_15 : decode cX0_hasWith 15 = .ok (.if_icmp .ne 7, 3) := by decide +kernel
theorem dX0_hasWith_18 : decode cX0_hasWith 18 = .ok (.iconst 1, 1) := by decide +kernel
theorem dX0_hasWith_19 : decode cX0_hasWith 19 = .ok (.goto 4, 3) := by decide +kernel
theorem dX0_hasWith_22 : decode cX0_hasWith 22 = .ok (.iconst 2, 1) := by decide +kernel
theorem dX0_hasWith_23 : decode cX0_hasWith 23 = .ok (.iload_n 2, 1) := by decide +kernel
theorem dX0_hasWith_24 : decode cX0_hasWith 24 = .ok (.if_icmp .ne 7, 3) := by decide +kernel
theorem dX0_hasWith_27 : decode cX0_hasWith 27 = .ok (.iconst 1, 1) := by decide +kernel
theorem dX0_hasWith_28 : decode cX0_hasWith 28 = .ok (.goto 4, 3) := by decide +kernel
theorem dX0_hasWith_31 : decode cX0_hasWith 31 = .ok (.iconst 0, 1) := by decide +kernel
theorem dX0_hasWith_32 : decode cX0_hasWith 32 = .ok (.ireturn, 1) := by decide +kernel
theorem dX0_add_0 : decode cX0_add 0 = .ok (.aload_n 0, 1) := by decide +kernel
theorem dX0_add_1 : decode cX0_add 1 = .ok (.getfield 9, 3) := by decide +kernel
theorem dX0_add_4 : decode cX0_add 4 = .ok (.bipush 16, 2) := by decide +kernel
theorem dX0_add_6 : decode cX0_add 6 = .ok (.if_icmp .lt 6, 3) := by decide +kernel
theorem dX0_add_9 : decode cX0_add 9 = .ok (.bipush (-3), 2) := by decide +kernel
theorem dX0_add_11 : decode cX0_add 11 = .ok (.ireturn, 1) := by decide +kernel
theorem dX0_add_12 : decode cX0_add 12 = .ok (.aload_n 0, 1) := by decide +kernel
theorem dX0_add_13 : decode cX0_add 13 = .ok (.getfield 15, 3) := by decide +kernel
theorem dX0_add_16 : decode cX0_add 16 = .ok (.aload_n 0, 1) := by decide +kernel
theorem dX0_add_17 : decode cX0_add 17 = .ok (.getfield 9, 3) := by decide +kernel
theorem dX0_add_20 : decode cX0_add 20 = .ok (.iload_n 1, 1) := by decide +kernel
theorem dX0_add_21 : decode cX0_add 21 = .ok (.iastore, 1) := by decide +kernel
theorem dX0_add_22 : decode cX0_add 22 = .ok (.aload_n 0, 1) := by decide +kernel
theorem dX0_add_23 : decode cX0_add 23 = .ok (.getfield 19, 3) := by decide +kernel
theorem dX0_add_26 : decode cX0_add 26 = .ok (.aload_n 0, 1) := by decide +kernel
theorem dX0_add_27 : decode cX0_add 27 = .ok (.getfield 9, 3) := by decide +kernel
theorem dX0_add_30 : decode cX0_add 30 = .ok (.iload_n 2, 1) := by decide +kernel
theorem dX0_add_31 : decode cX0_add 31 = .ok (.iastore, 1) := by decide +kernel
theorem dX0_add_32 : decode cX0_add 32 = .ok (.aload_n 0, 1) := by decide +kernel
theorem dX0_add_33 : decode cX0_add 33 = .ok (.getfield 22, 3) := by decide +kernel
theorem dX0_add_36 : decode cX0_add 36 = .ok (.aload_n 0, 1) := by decide +kernel
theorem dX0_add_37 : decode cX0_add 37 = .ok (.getfield 9, 3) := by decide +kernel
theorem dX0_add_40 : decode cX0_add 40 = .ok (.iload_n 3, 1) := by decide +kernel
theorem dX0_add_41 : decode cX0_add 41 = .ok (.iastore, 1) := by decide +kernel
theorem dX0_add_42 : decode cX0_add 42 = .ok (.iconst 0, 1) := by decide +kernel
theorem dX0_add_43 : decode cX0_add 43 = .ok (.istore 4, 2) := by decide +kernel
theorem dX0_add_45 : decode cX0_add 45 = .ok (.iload 4, 2) := by decide +kernel
theorem dX0_add_47 : decode cX0_add 47 = .ok (.iconst 2, 1) := by decide +kernel
theorem dX0_add_48 : decode cX0_add 48 = .ok (.if_icmp .ge 24, 3) := by decide +kernel
theorem dX0_add_51 : decode cX0_add 51 = .ok (.aload_n 0, 1) := by decide +kernel
theorem dX0_add_52 : decode cX0_add 52 = .ok (.getfield 25, 3) := by decide +kernel
theorem dX0_add_55 : decode cX0_add 55 = .ok (.aload_n 0, 1) := by decide +kernel
theorem dX0_add_56 : decode cX0_add 56 = .ok (.getfield 9, 3) := by decide +kernel
theorem dX0_add_59 : decode cX0_add 59 = .ok (.iconst 2, 1) := by decide +kernel
theorem dX0_add_60 : decode cX0_add 60 = .ok (.imul, 1) := by decide +kernel
theorem dX0_add_61 : decode cX0_add 61 = .ok (.iload 4, 2) := by decide +kernel
theorem dX0_add_63 : decode cX0_add 63 = .ok (.iadd, 1) := by decide +kernel
theorem dX0_add_64 : decode cX0_add 64 = .ok (.iconst (-1), 1) := by decide +kernel
theorem dX0_add_65 : decode cX0_add 65 = .ok (.iastore, 1) := by decide +kernel
theorem dX0_add_66 : decode cX0_add 66 = .ok (.iinc 4 1, 3) := by decide +kernel
theorem dX0_add_69 : decode cX0_add 69 = .ok (.goto (-24), 3) := by decide +kernel
theorem dX0_add_72 : decode cX0_add 72 = .ok (.aload_n 0, 1) := by decide +kernel
theorem dX0_add_73 : decode cX0_add 73 = .ok (.dup, 1) := by decide +kernel
theorem dX0_add_74 : decode cX0_add 74 = .ok (.getfield 9, 3) := by decide +kernel
theorem dX0_add_77 : decode cX0_add 77 = .ok (.dup_x1, 1) := by decide +kernel
theorem dX0_add_78 : decode cX0_add 78 = .ok (.iconst 1, 1) := by decide +kernel
theorem dX0_add_79 : decode cX0_add 79 = .ok (.iadd, 1) := by decide +kernel
theorem dX0_add_80 : decode cX0_add 80 = .ok (.putfield 9, 3) := by decide +kernel
theorem dX0_add_83 : decode cX0_add 83 = .ok (.ireturn, 1) := by decide +kernel
theorem dX1_init_0 : decode cX1_init 0 = .ok (.aload_n 0, 1) := by decide +kernel
theorem dX1_init_1 : decode cX1_init 1 = .ok (.invokespecial 3, 3) := by decide +kernel
theorem dX1_init_4 : decode cX1_init 4 = .ok (.aload_n 0, 1) := by decide +kernel
theorem dX1_init_5 : decode cX1_init 5 = .ok (.iconst 0, 1) := by decide +kernel
theorem dX1_init_6 : decode cX1_init 6 = .ok (.putfield 9, 3) := by decide +kernel
theorem dX1_init_9 : decode cX1_init 9 = .ok (.aload_n 0, 1) := by decide +kernel
theorem dX1_init_10 : decode cX1_init 10 = .ok (.bipush 24, 2) := by decide +kernel
theorem dX1_init_12 : decode cX1_init 12 = .ok (.newarray .int, 2) := by decide +kernel
theorem dX1_init_14 : decode cX1_init 14 = .ok (.putfield 15, 3) := by decide +kernel
theorem dX1_init_17 : decode cX1_init 17 = .ok (.aload_n 0, 1) := by decide +kernel
theorem dX1_init_18 : decode cX1_init 18 = .ok (.bipush 24, 2) := by decide +kernel
theorem dX1_init_20 : decode cX1_init 20 = .ok (.newarray .int, 2) := by decide +kernel
theorem dX1_init_22 : decode cX1_init 22 = .ok (.putfield 19, 3) := by decide +kernel
theorem dX1_init_25 : decode cX1_init 25 = .ok (.return_, 1) := by decide +kernel
theorem dX1_has_0 : decode cX1_has 0 = .ok (.iload_n 1, 1) := by decide +kernel
theorem dX1_has_1 : decode cX1_has 1 = .ok (.ifCond .lt 15, 3) := by decide +kernel
theorem dX1_has_4 : decode cX1_has 4 = .ok (.iload_n 1, 1) := by decide +kernel
theorem dX1_has_5 : decode cX1_has 5 = .ok (.aload_n 0, 1) := by decide +kernel
theorem dX1_has_6 : decode cX1_has 6 = .ok (.getfield 9, 3) := by decide +kernel
theorem dX1_has_9 : decode cX1_has 9 = .ok (.if_icmp .ge 7, 3) := by decide +kernel
theorem dX1_has_12 : decode cX1_has 12 = .ok (.iconst 1, 1) := by decide +kernel
theorem dX1_has_13 : decode cX1_has 13 = .ok (.goto 4, 3) := by decide +kernel
theorem dX1_has_16 : decode cX1_has 16 = .ok (.iconst 0, 1) := by decide +kernel
theorem dX1_has_17 : decode cX1_has 17 = .ok (.ireturn, 1) := by decide +kernel
theorem dX1_add_0 : decode cX1_add 0 = .ok (.aload_n 0, 1) := by decide +kernel
theorem dX1_add_1 : decode cX1_add 1 = .ok (.getfield 9, 3) := by decide +kernel
theorem dX1_add_4 : decode cX1_add 4 = .ok (.bipush 24, 2) := by decide +kernel
theorem dX1_add_6 : decode cX1_add 6 = .ok (.if_icmp .lt 6, 3) := by decide +kernel
theorem dX1_add_9 : decode cX1_add 9 = .ok (.bipush (-3), 2) := by decide +kernel
theorem dX1_add_11 : decode cX1_add 11 = .ok (.ireturn, 1) := by decide +kernel
theorem dX1_add_12 : decode cX1_add 12 = .ok (.aload_n 0, 1) := by decide +kernel
theorem dX1_add_13 : decode cX1_add 13 = .ok (.getfield 15, 3) := by decide +kernel
theorem dX1_add_16 : decode cX1_add 16 = .ok (.aload_n 0, 1) := by decide +kernel
theorem dX1_add_17 : decode cX1_add 17 = .ok (.getfield 9, 3) := by decide +kernel
theorem dX1_add_20 : decode cX1_add 20 = .ok (.iload_n 1, 1) := by decide +kernel
theorem dX1_add_21 : decode cX1_add 21 = .ok (.iastore, 1) := by decide +kernel
theorem dX1_add_22 : decode cX1_add 22 = .ok (.aload_n 0, 1) := by decide +kernel
theorem dX1_add_23 : decode cX1_add 23 = .ok (.getfield 19, 3) := by decide +kernel
theorem dX1_add_26 : decode cX1_add 26 = .ok (.aload_n 0, 1) := by decide +kernel
theorem dX1_add_27 : decode cX1_add 27 = .ok (.getfield 9, 3) := by decide +kernel
theorem dX1_add_30 : decode cX1_add 30 = .ok (.iload_n 2, 1) := by decide +kernel
theorem dX1_add_31 : decode cX1_add 31 = .ok (.iastore, 1) := by decide +kernel
theorem dX1_add_32 : decode cX1_add 32 = .ok (.aload_n 0, 1) := by decide +kernel
theorem dX1_add_33 : decode cX1_add 33 = .ok (.dup, 1) := by decide +kernel
theorem dX1_add_34 : decode cX1_add 34 = .ok (.getfield 9, 3) := by decide +kernel
theorem dX1_add_37 : decode cX1_add 37 = .ok (.dup_x1, 1) := by decide +kernel
theorem dX1_add_38 : decode cX1_add 38 = .ok (.iconst 1, 1) := by decide +kernel
theorem dX1_add_39 : decode cX1_add 39 = .ok (.iadd, 1) := by decide +kernel
theorem dX1_add_40 : decode cX1_add 40 = .ok (.putfield 9, 3) := by decide +kernel
theorem dX1_add_43 : decode cX1_add 43 = .ok (.ireturn, 1) := by decide +kernel
theorem dX2_init_0 : decode cX2_init 0 = .ok (.aload_n 0, 1) := by decide +kernel
theorem dX2_init_1 : decode cX2_init 1 = .ok (.invokespecial 3, 3) := by decide +kernel
theorem dX2_init_4 : decode cX2_init 4 = .ok (.aload_n 0, 1) := by decide +kernel
theorem dX2_init_5 : decode cX2_init 5 = .ok (.iconst 0, 1) := by decide +kernel
theorem dX2_init_6 : decode cX2_init 6 = .ok (.putfield 9, 3) := by decide +kernel
theorem dX2_init_9 : decode cX2_init 9 = .ok (.aload_n 0, 1) := by decide +kernel
theorem dX2_init_10 : decode cX2_init 10 = .ok (.bipush 24, 2) := by decide +kernel
theorem dX2_init_12 : decode cX2_init 12 = .ok (.newarray .int, 2) := by decide +kernel
theorem dX2_init_14 : decode cX2_init 14 = .ok (.putfield 15, 3) := by decide +kernel
theorem dX2_init_17 : decode cX2_init 17 = .ok (.aload_n 0, 1) := by decide +kernel
theorem dX2_init_18 : decode cX2_init 18 = .ok (.bipush 24, 2) := by decide +kernel
theorem dX2_init_20 : decode cX2_init 20 = .ok (.newarray .int, 2) := by decide +kernel
theorem dX2_init_22 : decode cX2_init 22 = .ok (.putfield 19, 3) := by decide +kernel
theorem dX2_init_25 : decode cX2_init 25 = .ok (.aload_n 0, 1) := by decide +kernel
theorem dX2_init_26 : decode cX2_init 26 = .ok (.bipush 24, 2) := by decide +kernel
theorem dX2_init_28 : decode cX2_init 28 = .ok (.newarray .int, 2) := by decide +kernel
theorem dX2_init_30 : decode cX2_init 30 = .ok (.putfield 22, 3) := by decide +kernel
theorem dX2_init_33 : decode cX2_init 33 = .ok (.aload_n 0, 1) := by decide +kernel
theorem dX2_init_34 : decode cX2_init 34 = .ok (.bipush 24, 2) := by decide +kernel
theorem dX2_init_36 : decode cX2_init 36 = .ok (.newarray .int, 2) := by decide +kernel
theorem dX2_init_38 : decode cX2_init 38 = .ok (.putfield 25, 3) := by decide +kernel
theorem dX2_init_41 : decode cX2_init 41 = .ok (.aload_n 0, 1) := by decide +kernel
theorem dX2_init_42 : decode cX2_init 42 = .ok (.bipush 24, 2) := by decide +kernel
theorem dX2_init_44 : decode cX2_init 44 = .ok (.newarray .int, 2) := by decide +kernel
theorem dX2_init_46 : decode cX2_init 46 = .ok (.putfield 28, 3) := by decide +kernel
theorem dX2_init_49 : decode cX2_init 49 = .ok (.aload_n 0, 1) := by decide +kernel
theorem dX2_init_50 : decode cX2_init 50 = .ok (.bipush 24, 2) := by decide +kernel
theorem dX2_init_52 : decode cX2_init 52 = .ok (.newarray .int, 2) := by decide +kernel
theorem dX2_init_54 : decode cX2_init 54 = .ok (.putfield 31, 3) := by decide +kernel
theorem dX2_init_57 : decode cX2_init 57 = .ok (.aload_n 0, 1) := by decide +kernel
theorem dX2_init_58 : decode cX2_init 58 = .ok (.bipush 24, 2) := by decide +kernel
theorem dX2_init_60 : decode cX2_init 60 = .ok (.newarray .int, 2) := by decide +kernel
theorem dX2_init_62 : decode cX2_init 62 = .ok (.putfield 34, 3) := by decide +kernel
theorem dX2_init_65 : decode cX2_init 65 = .ok (.aload_n 0, 1) := by decide +kernel
theorem dX2_init_66 : decode cX2_init 66 = .ok (.bipush 24, 2) := by decide +kernel
theorem dX2_init_68 : decode cX2_init 68 = .ok (.newarray .int, 2) := by decide +kernel
theorem dX2_init_70 : decode cX2_init 70 = .ok (.putfield 37, 3) := by decide +kernel
theorem dX2_init_73 : decode cX2_init 73 = .ok (.aload_n 0, 1) := by decide +kernel
theorem dX2_init_74 : decode cX2_init 74 = .ok (.bipush 24, 2) := by decide +kernel
theorem dX2_init_76 : decode cX2_init 76 = .ok (.newarray .boolean, 2) := by decide +kernel
theorem dX2_init_78 : decode cX2_init 78 = .ok (.putfield 40, 3) := by decide +kernel
theorem dX2_init_81 : decode cX2_init 81 = .ok (.aload_n 0, 1) := by decide +kernel
theorem dX2_init_82 : decode cX2_init 82 = .ok (.bipush 48, 2) := by decide +kernel
theorem dX2_init_84 : decode cX2_init 84 = .ok (.newarray .int, 2) := by decide +kernel
theorem dX2_init_86 : decode cX2_init 86 = .ok (.putfield 44, 3) := by decide +kernel
theorem dX2_init_89 : decode cX2_init 89 = .ok (.return_, 1) := by decide +kernel
theorem dX2_has_0 : decode cX2_has 0 = .ok (.iload_n 1, 1) := by decide +kernel
theorem dX2_has_1 : decode cX2_has 1 = .ok (.ifCond .lt 15, 3) := by decide +kernel
theorem dX2_has_4 : decode cX2_has 4 = .ok (.iload_n 1, 1) := by decide +kernel
theorem dX2_has_5 : decode cX2_has 5 = .ok (.aload_n 0, 1) := by decide +kernel
theorem dX2_has_6 : decode cX2_has 6 = .ok (.getfield 9, 3) := by decide +kernel
theorem dX2_has_9 : decode cX2_has 9 = .ok (.if_icmp .ge 7, 3) := by decide +kernel
theorem dX2_has_12 : decode cX2_has 12 = .ok (.iconst 1, 1) := by decide +kernel
theorem dX2_has_13 : decode cX2_has 13 = .ok (.goto 4, 3) := by decide +kernel
theorem dX2_has_16 : decode cX2_has 16 = .ok (.iconst 0, 1) := by decide +kernel
theorem dX2_has_17 : decode cX2_has 17 = .ok (.ireturn, 1) := by decide +kernel
set_option maxRecDepth 20000 in
theorem ggX2_add_X2_tell : GoodIn wsX2_add wsX2_tell := goodIn_r _ [12, 13, 14, 15, 21, 22, 23, 24, 25, 26, 27, 28, 29, 30, 31] (by decide +kernel) (by decide +kernel)
set_option maxRecDepth 20000 in
theorem gX2_add_X2_tell : GoodIn wsX2_add (wsV RX2 47 RX2 yX2_tell wsX2_tell) := goodIn_app (goodIn_of _ (by decide +kernel)) ggX2_add_X2_tell
set_option maxRecDepth 20000 in
theorem ggX2_add_X2_bind : GoodIn wsX2_add wsX2_bind := goodIn_r _ [19, 20, 21, 22, 23, 24, 25, 26, 27, 28, 29, 30, 31] (by decide +kernel) (by decide +kernel)
set_option maxRecDepth 20000 in
theorem gX2_add_X2_bind : GoodIn wsX2_add (wsV RX2 51 RX2 yX2_bind wsX2_bind) := goodIn_app (goodIn_of _ (by decide +kernel)) ggX2_add_X2_bind
theorem dX2_add_0 : decode cX2_add 0 = .ok (.aload_n 0, 1) := by decide +kernel
theorem dX2_add_1 : decode cX2_add 1 = .ok (.getfield 9, 3) := by decide +kernel
theorem dX2_add_4 : decode cX2_add 4 = .ok (.bipush 24, 2) := by decide +kernel
theorem dX2_add_6 : decode cX2_add 6 = .ok (.if_icmp .lt 6, 3) := by decide +kernel
theorem dX2_add_9 : decode cX2_add 9 = .ok (.bipush (-3), 2) := by decide +kernel
theorem dX2_add_11 : decode cX2_add 11 = .ok (.ireturn, 1) := by decide +kernel
theorem dX2_add_12 : decode cX2_add 12 = .ok (.aload_n 0, 1) := by decide +kernel
theorem dX2_add_13 : decode cX2_add 13 = .ok (.getfield 15, 3) := by decide +kernel
theorem dX2_add_16 : decode cX2_add 16 = .ok (.aload_n 0, 1) := by decide +kernel
theorem dX2_add_17 : decode cX2_add 17 = .ok (.getfield 9, 3) := by decide +kernel
theorem dX2_add_20 : decode cX2_add 20 = .ok (.iload_n 1, 1) := by decide +kernel
theorem dX2_add_21 : decode cX2_add 21 = .ok (.iastore, 1) := by decide +kernel
theorem dX2_add_22 : decode cX2_add 22 = .ok (.aload_n 0, 1) := by decide +kernel
theorem dX2_add_23 : decode cX2_add 23 = .ok (.getfield 19, 3) := by decide +kernel
theorem dX2_add_26 : decode cX2_add 26 = .ok (.aload_n 0, 1) := by decide +kernel
theorem dX2_add_27 : decode cX2_add 27 = .ok (.getfield 9, 3) := by decide +kernel
theorem dX2_add_30 : decode cX2_add 30 = .ok (.iload_n 2, 1) := by decide +kernel
theorem dX2_add_31 : decode cX2_add 31 = .ok (.iastore, 1) := by decide +kernel
theorem dX2_add_32 : decode cX2_add 32 = .ok (.aload_n 0, 1) := by decide +kernel
theorem dX2_add_33 : decode cX2_add 33 = .ok (.getfield 22, 3) := by decide +kernel
theorem dX2_add_36 : decode cX2_add 36 = .ok (.aload_n 0, 1) := by decide +kernel
theorem dX2_add_37 : decode cX2_add 37 = .ok (.getfield 9, 3) := by decide +kernel
theorem dX2_add_40 : decode cX2_add 40 = .ok (.iload_n 3, 1) := by decide +kernel
theorem dX2_add_41 : decode cX2_add 41 = .ok (.iastore, 1) := by decide +kernel
theorem dX2_add_42 : decode cX2_add 42 = .ok (.aload_n 0, 1) := by decide +kernel
theorem dX2_add_43 : decode cX2_add 43 = .ok (.getfield 25, 3) := by decide +kernel
theorem dX2_add_46 : decode cX2_add 46 = .ok (.aload_n 0, 1) := by decide +kernel
theorem dX2_add_47 : decode cX2_add 47 = .ok (.getfield 9, 3) := by decide +kernel
theorem dX2_add_50 : decode cX2_add 50 = .ok (.iload 4, 2) := by decide +kernel
theorem dX2_add_52 : decode cX2_add 52 = .ok (.iastore, 1) := by decide +kernel
theorem dX2_add_53 : decode cX2_add 53 = .ok (.aload_n 0, 1) := by decide +kernel
theorem dX2_add_54 : decode cX2_add 54 = .ok (.getfield 28, 3) := by decide +kernel
theorem dX2_add_57 : decode cX2_add 57 = .ok (.aload_n 0, 1) := by decide +kernel
theorem dX2_add_58 : decode cX2_add 58 = .ok (.getfield 9, 3) := by decide +kernel
theorem dX2_add_61 : decode cX2_add 61 = .ok (.iload 5, 2) := by decide +kernel
theorem dX2_add_63 : decode cX2_add 63 = .ok (.iastore, 1) := by decide +kernel
theorem dX2_add_64 : decode cX2_add 64 = .ok (.aload_n 0, 1) := by decide +kernel
theorem dX2_add_65 : decode cX2_add 65 = .ok (.getfield 31, 3) := by decide +kernel
theorem dX2_add_68 : decode cX2_add 68 = .ok (.aload_n 0, 1) := by decide +kernel
theorem dX2_add_69 : decode cX2_add 69 = .ok (.getfield 9, 3) := by decide +kernel
theorem dX2_add_72 : decode cX2_add 72 = .ok (.iload 6, 2) := by decide +kernel
theorem dX2_add_74 : decode cX2_add 74 = .ok (.iastore, 1) := by decide +kernel
theorem dX2_add_75 : decode cX2_add 75 = .ok (.aload_n 0, 1) := by decide +kernel
theorem dX2_add_76 : decode cX2_add 76 = .ok (.aload_n 0, 1) := by decide +kernel
theorem dX2_add_77 : decode cX2_add 77 = .ok (.getfield 9, 3) := by decide +kernel
theorem dX2_add_80 : decode cX2_add 80 = .ok (.iconst (-1), 1) := by decide +kernel
theorem dX2_add_81 : decode cX2_add 81 = .ok (.iconst 0, 1) := by decide +kernel
theorem dX2_add_82 : decode cX2_add 82 = .ok (.iconst 0, 1) := by decide +kernel
theorem dX2_add_83 : decode cX2_add 83 = .ok (.invokevirtual 47, 3) := by decide +kernel
theorem dX2_add_86 : decode cX2_add 86 = .ok (.aload_n 0, 1) := by decide +kernel
theorem dX2_add_87 : decode cX2_add 87 = .ok (.aload_n 0, 1) := by decide +kernel
theorem dX2_add_88 : decode cX2_add 88 = .ok (.getfield 9, 3) := by decide +kernel
theorem dX2_add_91 : decode cX2_add 91 = .ok (.iconst (-1), 1) := by decide +kernel
theorem dX2_add_92 : decode cX2_add 92 = .ok (.iconst (-1), 1) := by decide +kernel
theorem dX2_add_93 : decode cX2_add 93 = .ok (.invokevirtual 51, 3) := by decide +kernel
theorem dX2_add_96 : decode cX2_add 96 = .ok (.aload_n 0, 1) := by decide +kernel
theorem dX2_add_97 : decode cX2_add 97 = .ok (.dup, 1) := by decide +kernel
theorem dX2_add_98 : decode cX2_add 98 = .ok (.getfield 9, 3) := by decide +kernel
theorem dX2_add_101 : decode cX2_add 101 = .ok (.dup_x1, 1) := by decide +kernel
theorem dX2_add_102 : decode cX2_add 102 = .ok (.iconst 1, 1) := by decide +kernel
theorem dX2_add_103 : decode cX2_add 103 = .ok (.iadd, 1) := by decide +kernel
theorem dX2_add_104 : decode cX2_add 104 = .ok (.putfield 9, 3) := by decide +kernel
theorem dX2_add_107 : decode cX2_add 107 = .ok (.ireturn, 1) := by decide +kernel
theorem dX2_tell_0 : decode cX2_tell 0 = .ok (.aload_n 0, 1) := by decide +kernel
theorem dX2_tell_1 : decode cX2_tell 1 = .ok (.getfield 34, 3) := by decide +kernel
theorem dX2_tell_4 : decode cX2_tell 4 = .ok (.iload_n 1, 1) := by decide +kernel
theorem dX2_tell_5 : decode cX2_tell 5 = .ok (.iload_n 2, 1) := by decide +kernel
theorem dX2_tell_6 : decode cX2_tell 6 = .ok (.iastore, 1) := by decide +kernel
theorem dX2_tell_7 : decode cX2_tell 7 = .ok (.aload_n 0, 1) := by decide +kernel
theorem dX2_tell_8 : decode cX2_tell 8 = .ok (.getfield 37, 3) := by decide +kernel
theorem dX2_tell_11 : decode cX2_tell 11 = .ok (.iload_n 1, 1) := by decide +kernel
theorem dX2_tell_12 : decode cX2_tell 12 = .ok (.iload_n 3, 1) := by decide +kernel
theorem dX2_tell_13 : decode cX2_tell 13 = .ok (.iastore, 1) := by decide +kernel
theorem dX2_tell_14 : decode cX2_tell 14 = .ok (.aload_n 0, 1) := by decide +kernel
theorem dX2_tell_15 : decode cX2_tell 15 = .ok (.getfield 40, 3) := by decide +kernel
theorem dX2_tell_18 : decode cX2_tell 18 = .ok (.iload_n 1, 1) := by decide +kernel
theorem dX2_tell_19 : decode cX2_tell 19 = .ok (.iload 4, 2) := by decide +kernel
theorem dX2_tell_21 : decode cX2_tell 21 = .ok (.bastore, 1) := by decide +kernel
theorem dX2_tell_22 : decode cX2_tell 22 = .ok (.return_, 1) := by decide +kernel
theorem dX2_bind_0 : decode cX2_bind 0 = .ok (.aload_n 0, 1) := by decide +kernel
theorem dX2_bind_1 : decode cX2_bind 1 = .ok (.getfield 44, 3) := by decide +kernel
theorem dX2_bind_4 : decode cX2_bind 4 = .ok (.iload_n 1, 1) := by decide +kernel
theorem dX2_bind_5 : decode cX2_bind 5 = .ok (.iconst 2, 1) := by decide +kernel
theorem dX2_bind_6 : decode cX2_bind 6 = .ok (.imul, 1) := by decide +kernel
theorem dX2_bind_7 : decode cX2_bind 7 = .ok (.iload_n 2, 1) := by decide +kernel
theorem dX2_bind_8 : decode cX2_bind 8 = .ok (.iastore, 1) := by decide +kernel
theorem dX2_bind_9 : decode cX2_bind 9 = .ok (.aload_n 0, 1) := by decide +kernel
theorem dX2_bind_10 : decode cX2_bind 10 = .ok (.getfield 44, 3) := by decide +kernel
theorem dX2_bind_13 : decode cX2_bind 13 = .ok (.iload_n 1, 1) := by decide +kernel
theorem dX2_bind_14 : decode cX2_bind 14 = .ok (.iconst 2, 1) := by decide +kernel
theorem dX2_bind_15 : decode cX2_bind 15 = .ok (.imul, 1) := by decide +kernel
theorem dX2_bind_16 : decode cX2_bind 16 = .ok (.iconst 1, 1) := by decide +kernel
theorem dX2_bind_17 : decode cX2_bind 17 = .ok (.iadd, 1) := by decide +kernel
theorem dX2_bind_18 : decode cX2_bind 18 = .ok (.iload_n 3, 1) := by decide +kernel
theorem dX2_bind_19 : decode cX2_bind 19 = .ok (.iastore, 1) := by decide +kernel
theorem dX2_bind_20 : decode cX2_bind 20 = .ok (.return_, 1) := by decide +kernel
theorem dX2_hasTwoInputs_0 : decode cX2_hasTwoInputs 0 = .ok (.aload_n 0, 1) := by decide +kernel
theorem dX2_hasTwoInputs_1 : decode cX2_hasTwoInputs 1 = .ok (.getfield 15, 3) := by decide +kernel
theorem dX2_hasTwoInputs_4 : decode cX2_hasTwoInputs 4 = .ok (.iload_n 1, 1) := by decide +kernel
theorem dX2_hasTwoInputs_5 : decode cX2_hasTwoInputs 5 = .ok (.iaload, 1) := by decide +kernel
theorem dX2_hasTwoInputs_6 : decode cX2_hasTwoInputs 6 = .ok (.iconst 4, 1) := by decide +kernel
theorem dX2_hasTwoInputs_7 : decode cX2_hasTwoInputs 7 = .ok (.if_icmp .eq 24, 3) := by decide +kernel
theorem dX2_hasTwoInputs_10 : decode cX2_hasTwoInputs 10 = .ok (.aload_n 0, 1) := by decide +kernel
theorem dX2_hasTwoInputs_11 : decode cX2_hasTwoInputs 11 = .ok (.getfield 15, 3) := by decide +kernel
theorem dX2_hasTwoInputs_14 : decode cX2_hasTwoInputs 14 = .ok (.iload_n 1, 1) := by decide +kernel
theorem dX2_hasTwoInputs_15 : decode cX2_hasTwoInputs 15 = .ok (.iaload, 1) := by decide +kernel
theorem dX2_hasTwoInputs_16 : decode cX2_hasTwoInputs 16 = .ok (.iconst 5, 1) := by decide +kernel
theorem dX2_hasTwoInputs_17 : decode cX2_hasTwoInputs 17 = .ok (.if_icmp .eq 14, 3) := by decide +kernel
theorem dX2_hasTwoInputs_20 : decode cX2_hasTwoInputs 20 = .ok (.aload_n 0, 1) := by decide +kernel
theorem dX2_hasTwoInputs_21 : decode cX2_hasTwoInputs 21 = .ok (.getfield 15, 3) := by decide +kernel
theorem dX2_hasTwoInputs_24 : decode cX2_hasTwoInputs 24 = .ok (.iload_n 1, 1) := by decide +kernel
theorem dX2_hasTwoInputs_25 : decode cX2_hasTwoInputs 25 = .ok (.iaload, 1) := by decide +kernel
theorem dX2_hasTwoInputs_26 : decode cX2_hasTwoInputs 26 = .ok (.bipush 6, 2) := by decide +kernel
theorem dX2_hasTwoInputs_28 : decode cX2_hasTwoInputs 28 = .ok (.if_icmp .ne 7, 3) := by decide +kernel
theorem dX2_hasTwoInputs_31 : decode cX2_hasTwoInputs 31 = .ok (.iconst 1, 1) := by decide +kernel
theorem dX2_hasTwoInputs_32 : decode cX2_hasTwoInputs 32 = .ok (.goto 4, 3) := by decide +kernel
theorem dX2_hasTwoInputs_35 : decode cX2_hasTwoInputs 35 = .ok (.iconst 0, 1) := by decide +kernel
theorem dX2_hasTwoInputs_36 : decode cX2_hasTwoInputs 36 = .ok (.ireturn, 1) := by decide +kernel
theorem dX2_howManyRisky_0 : decode cX2_howManyRisky 0 = .ok (.iconst 0, 1) := by decide +kernel
theorem dX2_howManyRisky_1 : decode cX2_howManyRisky 1 = .ok (.istore_n 1, 1) := by decide +kernel
theorem dX2_howManyRisky_2 : decode cX2_howManyRisky 2 = .ok (.iconst 0, 1) := by decide +kernel
theorem dX2_howManyRisky_3 : decode cX2_howManyRisky 3 = .ok (.istore_n 2, 1) := by decide +kernel
theorem dX2_howManyRisky_4 : decode cX2_howManyRisky 4 = .ok (.iload_n 2, 1) := by decide +kernel
theorem dX2_howManyRisky_5 : decode cX2_howManyRisky 5 = .ok (.aload_n 0, 1) := by decide +kernel
theorem dX2_howManyRisky_6 : decode cX2_howManyRisky 6 = .ok (.getfield 9, 3) := by decide +kernel
theorem dX2_howManyRisky_9 : decode cX2_howManyRisky 9 = .ok (.if_icmp .ge 21, 3) := by decide +kernel
theorem dX2_howManyRisky_12 : decode cX2_howManyRisky 12 = .ok (.aload_n 0, 1) := by decide +kernel
theorem dX2_howManyRisky_13 : decode cX2_howManyRisky 13 = .ok (.getfield 40, 3) := by decide +kernel
theorem dX2_howManyRisky_16 : decode cX2_howManyRisky 16 = .ok (.iload_n 2, 1) := by decide +kernel
theorem dX2_howManyRisky_17 : decode cX2_howManyRisky 17 = .ok (.baload, 1) := by decide +kernel
theorem dX2_howManyRisky_18 : decode cX2_howManyRisky 18 = .ok (.ifCond .eq 6, 3) := by decide +kernel
theorem dX2_howManyRisky_21 : decode cX2_howManyRisky 21 = .ok (.iinc 1 1, 3) := by decide +kernel
theorem dX2_howManyRisky_24 : decode cX2_howManyRisky 24 = .ok (.iinc 2 1, 3) := by decide +kernel
theorem dX2_howManyRisky_27 : decode cX2_howManyRisky 27 = .ok (.goto (-23), 3) := by decide +kernel
theorem dX2_howManyRisky_30 : decode cX2_howManyRisky 30 = .ok (.iload_n 1, 1) := by decide +kernel
theorem dX2_howManyRisky_31 : decode cX2_howManyRisky 31 = .ok (.ireturn, 1) := by decide +kernel
theorem dX3_init_0 : decode cX3_init 0 = .ok (.aload_n 0, 1) := by decide +kernel
theorem dX3_init_1 : decode cX3_init 1 = .ok (.invokespecial 3, 3) := by decide +kernel
theorem dX3_init_4 : decode cX3_init 4 = .ok (.aload_n 0, 1) := by decide +kernel
theorem dX3_init_5 : decode cX3_init 5 = .ok (.iconst 2, 1) := by decide +kernel
theorem dX3_init_6 : decode cX3_init 6 = .ok (.newarray .int, 2) := by decide +kernel
theorem dX3_init_8 : decode cX3_init 8 = .ok (.putfield 9, 3) := by decide +kernel
theorem dX3_init_11 : decode cX3_init 11 = .ok (.aload_n 0, 1) := by decide +kernel
theorem dX3_init_12 : decode cX3_init 12 = .ok (.iconst 0, 1) := by decide +kernel
theorem dX3_init_13 : decode cX3_init 13 = .ok (.putfield 15, 3) := by decide +kernel
theorem dX3_init_16 : decode cX3_init 16 = .ok (.aload_n 0, 1) := by decide +kernel
theorem dX3_init_17 : decode cX3_init 17 = .ok (.bipush 80, 2) := by decide +kernel
theorem dX3_init_19 : decode cX3_init 19 = .ok (.newarray .int, 2) := by decide +kernel
theorem dX3_init_21 : decode cX3_init 21 = .ok (.putfield 19, 3) := by decide +kernel
theorem dX3_init_24 : decode cX3_init 24 = .ok (.aload_n 0, 1) := by decide +kernel
theorem dX3_init_25 : decode cX3_init 25 = .ok (.bipush 82, 2) := by decide +kernel
theorem dX3_init_27 : decode cX3_init 27 = .ok (.newarray .int, 2) := by decide +kernel
theorem dX3_init_29 : decode cX3_init 29 = .ok (.putfield 22, 3) := by decide +kernel
theorem dX3_init_32 : decode cX3_init 32 = .ok (.aload_n 0, 1) := by decide +kernel
theorem dX3_init_33 : decode cX3_init 33 = .ok (.bipush 82, 2) := by decide +kernel
theorem dX3_init_35 : decode cX3_init 35 = .ok (.newarray .int, 2) := by decide +kernel
theorem dX3_init_37 : decode cX3_init 37 = .ok (.putfield 25, 3) := by decide +kernel
theorem dX3_init_40 : decode cX3_init 40 = .ok (.aload_n 0, 1) := by decide +kernel
theorem dX3_init_41 : decode cX3_init 41 = .ok (.aload_n 1, 1) := by decide +kernel
theorem dX3_init_42 : decode cX3_init 42 = .ok (.putfield 28, 3) := by decide +kernel
theorem dX3_init_45 : decode cX3_init 45 = .ok (.aload_n 0, 1) := by decide +kernel
theorem dX3_init_46 : decode cX3_init 46 = .ok (.aload_n 2, 1) := by decide +kernel
theorem dX3_init_47 : decode cX3_init 47 = .ok (.putfield 32, 3) := by decide +kernel
theorem dX3_init_50 : decode cX3_init 50 = .ok (.return_, 1) := by decide +kernel
set_option maxRecDepth 20000 in
theorem ggX3_putTo_J7_fill_53178 : GoodIn wsX3_putTo wsJ7_fill_53178 := goodIn_r _ [12] (by decide +kernel) (by decide +kernel)
set_option maxRecDepth 20000 in
theorem gX3_putTo_J7_fill_53178 : GoodIn wsX3_putTo (va_wsS RX3 36 yJ7_fill_53178 wsJ7_fill_53178) := goodIn_app (goodIn_of _ (by decide +kernel)) ggX3_putTo_J7_fill_53178
set_option maxRecDepth 20000 in
theorem ggX3_putTo_X3_take : GoodIn wsX3_putTo wsX3_take := goodIn_r _ [17, 8, 18, 19, 20, 21, 22, 23, 24, 25, 26, 27, 28, 16, 29, 2, 30, 31, 32, 33, 34, 35, 36, 37, 38, 39, 40, 41, 42, 43, 44, 45, 46, 47, 48, 49, 50, 51, 52, 53, 54, 55, 56, 57, 58, 59, 60, 61, 62, 63, 64, 65, 66, 67, 68, 69, 70, 71, 72, 1, 73, 74, 75, 76, 77, 78, 95, 96, 97, 98, 99, 100, 101, 107, 108, 109, 110, 111, 112, 113, 114, 115, 116] (by decide +kernel) (by decide +kernel)
set_option maxRecDepth 20000 in
theorem gX3_putTo_X3_take : GoodIn wsX3_putTo (wsV RX3 47 RX3 yX3_take wsX3_take) := goodIn_app (goodIn_of _ (by decide +kernel)) ggX3_putTo_X3_take
set_option maxRecDepth 20000 in
theorem ggX3_putTo_X3_lookAtBounds : GoodIn wsX3_putTo wsX3_lookAtBounds := goodIn_r _ [82, 3, 83, 2, 8, 84, 85, 86, 33, 87, 35, 22, 20, 23, 19, 21, 88, 31, 32, 34, 36, 37, 38, 39, 40, 41, 42, 43, 44, 45, 46, 47, 48, 49, 50, 51, 52, 53, 54, 55, 56, 57, 58, 59, 60, 61, 62, 63, 64, 65, 66, 95, 96, 97, 98, 99, 100, 101, 102, 103, 104, 105, 106, 107, 108, 109, 110, 111, 112, 113, 114, 115, 116] (by decide +kernel) (by decide +kernel)
set_option maxRecDepth 20000 in
theorem gX3_putTo_X3_lookAtBounds : GoodIn wsX3_putTo (wsV RX3 54 RX3 yX3_lookAtBounds wsX3_lookAtBounds) := goodIn_app (goodIn_of _ (by decide +kernel)) ggX3_putTo_X3_lookAtBounds
set_option maxRecDepth 20000 in
theorem ggX3_putTo_X3_isBoundWithin : GoodIn wsX3_putTo wsX3_isBoundWithin := goodIn_r _ [92, 2, 8, 93, 95, 96, 97, 98, 99, 100, 101, 107, 108, 109, 110, 111, 112, 113, 114, 115, 116] (by decide +kernel) (by decide +kernel)
set_option maxRecDepth 20000 in
theorem gX3_putTo_X3_isBoundWithin : GoodIn wsX3_putTo (wsV RX3 61 RX3 yX3_isBoundWithin wsX3_isBoundWithin) := goodIn_app (goodIn_of _ (by decide +kernel)) ggX3_putTo_X3_isBoundWithin
set_option maxRecDepth 20000 in
theorem ggX3_putTo_X4_putIn : GoodIn wsX3_putTo wsX4_putIn := goodIn_r _ [50, 51, 52, 53, 54, 35, 37, 38, 55, 56, 57, 33, 58, 59, 60, 61, 62, 63, 64, 65, 66, 107, 108, 109, 110, 111, 112, 113, 114, 115, 116] (by decide +kernel) (by decide +kernel)
set_option maxRecDepth 20000 in
theorem gX3_putTo_X4_putIn : GoodIn wsX3_putTo (wsV RX3 65 RX4 yX4_putIn wsX4_putIn) := goodIn_app (goodIn_of _ (by decide +kernel)) ggX3_putTo_X4_putIn
theorem dX3_putTo_0 : decode cX3_putTo 0 = .ok (.aload_n 0, 1) := by decide +kernel
theorem dX3_putTo_1 : decode cX3_putTo 1 = .ok (.getfield 19, 3) := by decide +kernel
theorem dX3_putTo_4 : decode cX3_putTo 4 = .ok (.iconst (-1), 1) := by decide +kernel
theorem dX3_putTo_5 : decode cX3_putTo 5 = .ok (.invokestatic 36, 3) := by decide +kernel
theorem dX3_putTo_8 : decode cX3_putTo 8 = .ok (.aload_n 0, 1) := by decide +kernel
theorem dX3_putTo_9 : decode cX3_putTo 9 = .ok (.getfield 9, 3) := by decide +kernel
theorem dX3_putTo_12 : decode cX3_putTo 12 = .ok (.iconst (-1), 1) := by decide +kernel
theorem dX3_putTo_13 : decode cX3_putTo 13 = .ok (.invokestatic 36, 3) := by decide +kernel
theorem dX3_putTo_16 : decode cX3_putTo 16 = .ok (.aload_n 0, 1) := by decide +kernel
theorem dX3_putTo_17 : decode cX3_putTo 17 = .ok (.aload_n 0, 1) := by decide +kernel
theorem dX3_putTo_18 : decode cX3_putTo 18 = .ok (.aload_n 0, 1) := by decide +kernel
theorem dX3_putTo_19 : decode cX3_putTo 19 = .ok (.getfield 32, 3) := by decide +kernel
theorem dX3_putTo_22 : decode cX3_putTo 22 = .ok (.getfield 42, 3) := by decide +kernel
theorem dX3_putTo_25 : decode cX3_putTo 25 = .ok (.iload_n 1, 1) := by decide +kernel
theorem dX3_putTo_26 : decode cX3_putTo 26 = .ok (.iaload, 1) := by decide +kernel
theorem dX3_putTo_27 : decode cX3_putTo 27 = .ok (.iload_n 2, 1) := by decide +kernel
theorem dX3_putTo_28 : decode cX3_putTo 28 = .ok (.invokevirtual 47, 3) := by decide +kernel
theorem dX3_putTo_31 : decode cX3_putTo 31 = .ok (.putfield 15, 3) := by decide +kernel
theorem dX3_putTo_34 : decode cX3_putTo 34 = .ok (.aload_n 0, 1) := by decide +kernel
theorem dX3_putTo_35 : decode cX3_putTo 35 = .ok (.getfield 15, 3) := by decide +kernel
theorem dX3_putTo_38 : decode cX3_putTo 38 = .ok (.ifCond .ne 26, 3) := by decide +kernel
theorem dX3_putTo_41 : decode cX3_putTo 41 = .ok (.iload_n 3, 1) := by decide +kernel
theorem dX3_putTo_42 : decode cX3_putTo 42 = .ok (.iconst (-1), 1) := by decide +kernel
theorem dX3_putTo_43 : decode cX3_putTo 43 = .ok (.if_icmp .eq 21, 3) := by decide +kernel
theorem dX3_putTo_46 : decode cX3_putTo 46 = .ok (.aload_n 0, 1) := by decide +kernel
theorem dX3_putTo_47 : decode cX3_putTo 47 = .ok (.aload_n 0, 1) := by decide +kernel
theorem dX3_putTo_48 : decode cX3_putTo 48 = .ok (.aload_n 0, 1) := by decide +kernel
theorem dX3_putTo_49 : decode cX3_putTo 49 = .ok (.getfield 32, 3) := by decide +kernel
theorem dX3_putTo_52 : decode cX3_putTo 52 = .ok (.getfield 51, 3) := by decide +kernel
theorem dX3_putTo_55 : decode cX3_putTo 55 = .ok (.iload_n 1, 1) := by decide +kernel
theorem dX3_putTo_56 : decode cX3_putTo 56 = .ok (.iaload, 1) := by decide +kernel
theorem dX3_putTo_57 : decode cX3_putTo 57 = .ok (.iload_n 3, 1) := by decide +kernel
theorem dX3_putTo_58 : decode cX3_putTo 58 = .ok (.invokevirtual 47, 3) := by decide +kernel
theorem dX3_putTo_61 : decode cX3_putTo 61 = .ok (.putfield 15, 3) := by decide +kernel
theorem dX3_putTo_64 : decode cX3_putTo 64 = .ok (.aload_n 0, 1) := by decide +kernel
theorem dX3_putTo_65 : decode cX3_putTo 65 = .ok (.getfield 15, 3) := by decide +kernel
theorem dX3_putTo_68 : decode cX3_putTo 68 = .ok (.ifCond .ne 12, 3) := by decide +kernel
theorem dX3_putTo_71 : decode cX3_putTo 71 = .ok (.aload_n 0, 1) := by decide +kernel
theorem dX3_putTo_72 : decode cX3_putTo 72 = .ok (.aload_n 0, 1) := by decide +kernel
theorem dX3_putTo_73 : decode cX3_putTo 73 = .ok (.iload_n 1, 1) := by decide +kernel
theorem dX3_putTo_74 : decode cX3_putTo 74 = .ok (.invokevirtual 54, 3) := by decide +kernel
theorem dX3_putTo_77 : decode cX3_putTo 77 = .ok (.putfield 15, 3) := by decide +kernel
theorem dX3_putTo_80 : decode cX3_putTo 80 = .ok (.aload_n 0, 1) := by decide +kernel
theorem dX3_putTo_81 : decode cX3_putTo 81 = .ok (.getfield 32, 3) := by decide +kernel
theorem dX3_putTo_84 : decode cX3_putTo 84 = .ok (.getfield 58, 3) := by decide +kernel
theorem dX3_putTo_87 : decode cX3_putTo 87 = .ok (.iload_n 1, 1) := by decide +kernel
theorem dX3_putTo_88 : decode cX3_putTo 88 = .ok (.iaload, 1) := by decide +kernel
theorem dX3_putTo_89 : decode cX3_putTo 89 = .ok (.istore 4, 2) := by decide +kernel
theorem dX3_putTo_91 : decode cX3_putTo 91 = .ok (.aload_n 0, 1) := by decide +kernel
theorem dX3_putTo_92 : decode cX3_putTo 92 = .ok (.getfield 15, 3) := by decide +kernel
theorem dX3_putTo_95 : decode cX3_putTo 95 = .ok (.ifCond .ne 17, 3) := by decide +kernel
theorem dX3_putTo_98 : decode cX3_putTo 98 = .ok (.aload_n 0, 1) := by decide +kernel
theorem dX3_putTo_99 : decode cX3_putTo 99 = .ok (.iload 4, 2) := by decide +kernel
theorem dX3_putTo_101 : decode cX3_putTo 101 = .ok (.invokevirtual 61, 3) := by decide +kernel
theorem dX3_putTo_104 : decode cX3_putTo 104 = .ok (.ifCond .ne 8, 3) := by decide +kernel
theorem dX3_putTo_107 : decode cX3_putTo 107 = .ok (.aload_n 0, 1) := by decide +kernel
theorem dX3_putTo_108 : decode cX3_putTo 108 = .ok (.iconst 4, 1) := by decide +kernel
theorem dX3_putTo_109 : decode cX3_putTo 109 = .ok (.putfield 15, 3) := by decide +kernel
theorem dX3_putTo_112 : decode cX3_putTo 112 = .ok (.aload_n 0, 1) := by decide +kernel
theorem dX3_putTo_113 : decode cX3_putTo 113 = .ok (.getfield 15, 3) := by decide +kernel
theorem dX3_putTo_116 : decode cX3_putTo 116 = .ok (.ifCond .eq 5, 3) := by decide +kernel
theorem dX3_putTo_119 : decode cX3_putTo 119 = .ok (.iconst (-1), 1) := by decide +kernel
theorem dX3_putTo_120 : decode cX3_putTo 120 = .ok (.ireturn, 1) := by decide +kernel
theorem dX3_putTo_121 : decode cX3_putTo 121 = .ok (.aload_n 0, 1) := by decide +kernel
theorem dX3_putTo_122 : decode cX3_putTo 122 = .ok (.getfield 28, 3) := by decide +kernel
theorem dX3_putTo_125 : decode cX3_putTo 125 = .ok (.iload 4, 2) := by decide +kernel
theorem dX3_putTo_127 : decode cX3_putTo 127 = .ok (.aload_n 0, 1) := by decide +kernel
theorem dX3_putTo_128 : decode cX3_putTo 128 = .ok (.getfield 9, 3) := by decide +kernel
theorem dX3_putTo_131 : decode cX3_putTo 131 = .ok (.iconst 0, 1) := by decide +kernel
theorem dX3_putTo_132 : decode cX3_putTo 132 = .ok (.iaload, 1) := by decide +kernel
theorem dX3_putTo_133 : decode cX3_putTo 133 = .ok (.aload_n 0, 1) := by decide +kernel
theorem dX3_putTo_134 : decode cX3_putTo 134 = .ok (.getfield 9, 3) := by decide +kernel
theorem dX3_putTo_137 : decode cX3_putTo 137 = .ok (.iconst 1, 1) := by decide +kernel
theorem dX3_putTo_138 : decode cX3_putTo 138 = .ok (.iaload, 1) := by decide +kernel
theorem dX3_putTo_139 : decode cX3_putTo 139 = .ok (.invokevirtual 65, 3) := by decide +kernel
theorem dX3_putTo_142 : decode cX3_putTo 142 = .ok (.istore 5, 2) := by decide +kernel
theorem dX3_putTo_144 : decode cX3_putTo 144 = .ok (.aload_n 0, 1) := by decide +kernel
theorem dX3_putTo_145 : decode cX3_putTo 145 = .ok (.iload 5, 2) := by decide +kernel
theorem dX3_putTo_147 : decode cX3_putTo 147 = .ok (.bipush (-3), 2) := by decide +kernel
theorem dX3_putTo_149 : decode cX3_putTo 149 = .ok (.if_icmp .ne 8, 3) := by decide +kernel
theorem dX3_putTo_152 : decode cX3_putTo 152 = .ok (.bipush 8, 2) := by decide +kernel
theorem dX3_putTo_154 : decode cX3_putTo 154 = .ok (.goto 4, 3) := by decide +kernel
theorem dX3_putTo_157 : decode cX3_putTo 157 = .ok (.iconst 0, 1) := by decide +kernel
theorem dX3_putTo_158 : decode cX3_putTo 158 = .ok (.putfield 15, 3) := by decide +kernel
theorem dX3_putTo_161 : decode cX3_putTo 161 = .ok (.iload 5, 2) := by decide +kernel
theorem dX3_putTo_163 : decode cX3_putTo 163 = .ok (.bipush (-3), 2) := by decide +kernel
theorem dX3_putTo_165 : decode cX3_putTo 165 = .ok (.if_icmp .ne 7, 3) := by decide +kernel
theorem dX3_putTo_168 : decode cX3_putTo 168 = .ok (.iconst (-1), 1) := by decide +kernel
theorem dX3_putTo_169 : decode cX3_putTo 169 = .ok (.goto 5, 3) := by decide +kernel
theorem dX3_putTo_172 : decode cX3_putTo 172 = .ok (.iload 5, 2) := by decide +kernel
theorem dX3_putTo_174 : decode cX3_putTo 174 = .ok (.ireturn, 1) := by decide +kernel
set_option maxRecDepth 20000 in
theorem ggX3_take_X6_isPrimitive : GoodIn wsX3_take wsX6_isPrimitive := goodIn_r _ [5] (by decide +kernel) (by decide +kernel)
set_option maxRecDepth 20000 in
theorem gX3_take_X6_isPrimitive_n71 : GoodIn wsX3_take (wsX6_isPrimitive) := ggX3_take_X6_isPrimitive
set_option maxRecDepth 20000 in
theorem ggX3_take_X6_widens : GoodIn wsX3_take wsX6_widens := goodIn_r _ [7] (by decide +kernel) (by decide +kernel)
set_option maxRecDepth 20000 in
theorem gX3_take_X6_widens_n74 : GoodIn wsX3_take (wsX6_widens) := ggX3_take_X6_widens
set_option maxRecDepth 20000 in
theorem ggX3_take_X6_isVariable : GoodIn wsX3_take wsX6_isVariable := goodIn_r _ [9] (by decide +kernel) (by decide +kernel)
set_option maxRecDepth 20000 in
theorem gX3_take_X6_isVariable_n78 : GoodIn wsX3_take (wsX6_isVariable) := ggX3_take_X6_isVariable
set_option maxRecDepth 20000 in
theorem ggX3_take_X3_bindTo : GoodIn wsX3_take wsX3_bindTo := goodIn_r _ [14, 15, 66, 67, 68, 69, 70, 71, 72] (by decide +kernel) (by decide +kernel)
set_option maxRecDepth 20000 in
theorem gX3_take_X3_bindTo : GoodIn wsX3_take (wsV RX3 81 RX3 yX3_bindTo wsX3_bindTo) := goodIn_app (goodIn_of _ (by decide +kernel)) ggX3_take_X3_bindTo
set_option maxRecDepth 20000 in
theorem ggX3_take_X4_seenAs : GoodIn wsX3_take wsX4_seenAs := goodIn_r _ [20, 21, 22, 23, 24, 25, 26, 27, 19, 28, 29, 30, 31, 32, 33, 34, 35, 36, 37, 38, 39, 40, 41, 42, 43, 44, 45, 46, 47, 48, 49, 50, 51, 52, 73, 74, 75, 76, 77, 78, 79, 80, 81, 82] (by decide +kernel) (by decide +kernel)
set_option maxRecDepth 20000 in
theorem gX3_take_X4_seenAs : GoodIn wsX3_take (wsV RX3 87 RX4 yX4_seenAs wsX4_seenAs) := goodIn_app (goodIn_of _ (by decide +kernel)) ggX3_take_X4_seenAs
set_option maxRecDepth 20000 in
theorem ggX3_take_X3_match : GoodIn wsX3_take wsX3_match := goodIn_r _ [56, 57, 58, 1, 2, 59, 60, 61, 8, 4, 9, 10, 11, 12, 13, 14, 15, 62, 63, 64, 65, 66, 67, 68, 69, 70, 71, 72, 73, 74, 75, 76, 77, 78, 79, 80, 81, 82] (by decide +kernel) (by decide +kernel)
set_option maxRecDepth 20000 in
theorem gX3_take_X3_match : GoodIn wsX3_take (wsV RX3 90 RX3 yX3_match wsX3_match) := goodIn_app (goodIn_of _ (by decide +kernel)) ggX3_take_X3_match
theorem dX3_take_0 : decode cX3_take 0 = .ok (.iload_n 1, 1) := by decide +kernel
theorem dX3_take_1 : decode cX3_take 1 = .ok (.invokestatic 71, 3) := by decide +kernel
theorem dX3_take_4 : decode cX3_take 4 = .ok (.ifCond .eq 22, 3) := by decide +kernel
theorem dX3_take_7 : decode cX3_take 7 = .ok (.iload_n 2, 1) := by decide +kernel
theorem dX3_take_8 : decode cX3_take 8 = .ok (.iload_n 1, 1) := by decide +kernel
theorem dX3_take_9 : decode cX3_take 9 = .ok (.if_icmp .eq 11, 3) := by decide +kernel
theorem dX3_take_12 : decode cX3_take 12 = .ok (.iload_n 2, 1) := by decide +kernel
theorem dX3_take_13 : decode cX3_take 13 = .ok (.iload_n 1, 1) := by decide +kernel
theorem dX3_take_14 : decode cX3_take 14 = .ok (.invokestatic 74, 3) := by decide +kernel
theorem dX3_take_17 : decode cX3_take 17 = .ok (.ifCond .eq 7, 3) := by decide +kernel
theorem dX3_take_20 : decode cX3_take 20 = .ok (.iconst 0, 1) := by decide +kernel
theorem dX3_take_21 : decode cX3_take 21 = .ok (.goto 4, 3) := by decide +kernel
theorem dX3_take_24 : decode cX3_take 24 = .ok (.iconst 1, 1) := by decide +kernel
theorem dX3_take_25 : decode cX3_take 25 = .ok (.ireturn, 1) := by decide +kernel
theorem dX3_take_26 : decode cX3_take 26 = .ok (.iload_n 2, 1) := by decide +kernel
theorem dX3_take_27 : decode cX3_take 27 = .ok (.invokestatic 71, 3) := by decide +kernel
theorem dX3_take_30 : decode cX3_take 30 = .ok (.ifCond .eq 5, 3) := by decide +kernel
theorem dX3_take_33 : decode cX3_take 33 = .ok (.iconst 1, 1) := by decide +kernel
theorem dX3_take_34 : decode cX3_take 34 = .ok (.ireturn, 1) := by decide +kernel
theorem dX3_take_35 : decode cX3_take 35 = .ok (.iload_n 1, 1) := by decide +kernel
theorem dX3_take_36 : decode cX3_take 36 = .ok (.invokestatic 78, 3) := by decide +kernel
theorem dX3_take_39 : decode cX3_take 39 = .ok (.ifCond .eq 10, 3) := by decide +kernel
theorem dX3_take_42 : decode cX3_take 42 = .ok (.aload_n 0, 1) := by decide +kernel
theorem dX3_take_43 : decode cX3_take 43 = .ok (.iload_n 1, 1) := by decide +kernel
theorem dX3_take_44 : decode cX3_take 44 = .ok (.iload_n 2, 1) := by decide +kernel
theorem dX3_take_45 : decode cX3_take 45 = .ok (.invokevirtual 81, 3) := by decide +kernel
theorem dX3_take_48 : decode cX3_take 48 = .ok (.ireturn, 1) := by decide +kernel
theorem dX3_take_49 : decode cX3_take 49 = .ok (.aload_n 0, 1) := by decide +kernel
theorem dX3_take_50 : decode cX3_take 50 = .ok (.getfield 28, 3) := by decide +kernel
theorem dX3_take_53 : decode cX3_take 53 = .ok (.iload_n 2, 1) := by decide +kernel
theorem dX3_take_54 : decode cX3_take 54 = .ok (.aload_n 0, 1) := by decide +kernel
theorem dX3_take_55 : decode cX3_take 55 = .ok (.getfield 28, 3) := by decide +kernel
theorem dX3_take_58 : decode cX3_take 58 = .ok (.getfield 84, 3) := by decide +kernel
theorem dX3_take_61 : decode cX3_take 61 = .ok (.iload_n 1, 1) := by decide +kernel
theorem dX3_take_62 : decode cX3_take 62 = .ok (.iaload, 1) := by decide +kernel
theorem dX3_take_63 : decode cX3_take 63 = .ok (.invokevirtual 87, 3) := by decide +kernel
theorem dX3_take_66 : decode cX3_take 66 = .ok (.istore_n 3, 1) := by decide +kernel
theorem dX3_take_67 : decode cX3_take 67 = .ok (.iload_n 3, 1) := by decide +kernel
theorem dX3_take_68 : decode cX3_take 68 = .ok (.bipush (-3), 2) := by decide +kernel
theorem dX3_take_70 : decode cX3_take 70 = .ok (.if_icmp .ne 6, 3) := by decide +kernel
theorem dX3_take_73 : decode cX3_take 73 = .ok (.bipush 8, 2) := by decide +kernel
theorem dX3_take_75 : decode cX3_take 75 = .ok (.ireturn, 1) := by decide +kernel
theorem dX3_take_76 : decode cX3_take 76 = .ok (.iload_n 3, 1) := by decide +kernel
theorem dX3_take_77 : decode cX3_take 77 = .ok (.iconst (-1), 1) := by decide +kernel
theorem dX3_take_78 : decode cX3_take 78 = .ok (.if_icmp .ne 7, 3) := by decide +kernel
theorem dX3_take_81 : decode cX3_take 81 = .ok (.iconst 1, 1) := by decide +kernel
theorem dX3_take_82 : decode cX3_take 82 = .ok (.goto 9, 3) := by decide +kernel
theorem dX3_take_85 : decode cX3_take 85 = .ok (.aload_n 0, 1) := by decide +kernel
theorem dX3_take_86 : decode cX3_take 86 = .ok (.iload_n 1, 1) := by decide +kernel
theorem dX3_take_87 : decode cX3_take 87 = .ok (.iload_n 3, 1) := by decide +kernel
theorem dX3_take_88 : decode cX3_take 88 = .ok (.invokevirtual 90, 3) := by decide +kernel
theorem dX3_take_91 : decode cX3_take 91 = .ok (.ireturn, 1) := by decide +kernel
theorem dX3_bindTo_0 : decode cX3_bindTo 0 = .ok (.iload_n 1, 1) := by decide +kernel
theorem dX3_bindTo_1 : decode cX3_bindTo 1 = .ok (.iconst 4, 1) := by decide +kernel
theorem dX3_bindTo_2 : decode cX3_bindTo 2 = .ok (.isub, 1) := by decide +kernel
theorem dX3_bindTo_3 : decode cX3_bindTo 3 = .ok (.istore_n 3, 1) := by decide +kernel
theorem dX3_bindTo_4 : decode cX3_bindTo 4 = .ok (.aload_n 0, 1) := by decide +kernel
theorem dX3_bindTo_5 : decode cX3_bindTo 5 = .ok (.getfield 9, 3) := by decide +kernel
theorem dX3_bindTo_8 : decode cX3_bindTo 8 = .ok (.iload_n 3, 1) := by decide +kernel
theorem dX3_bindTo_9 : decode cX3_bindTo 9 = .ok (.iaload, 1) := by decide +kernel
theorem dX3_bindTo_10 : decode cX3_bindTo 10 = .ok (.iconst (-1), 1) := by decide +kernel
theorem dX3_bindTo_11 : decode cX3_bindTo 11 = .ok (.if_icmp .ne 10, 3) := by decide +kernel
theorem dX3_bindTo_14 : decode cX3_bindTo 14 = .ok (.aload_n 0, 1) := by decide +kernel
theorem dX3_bindTo_15 : decode cX3_bindTo 15 = .ok (.getfield 9, 3) := by decide +kernel
theorem dX3_bindTo_18 : decode cX3_bindTo 18 = .ok (.iload_n 3, 1) := by decide +kernel
theorem dX3_bindTo_19 : decode cX3_bindTo 19 = .ok (.iload_n 2, 1) := by decide +kernel
theorem dX3_bindTo_20 : decode cX3_bindTo 20 = .ok (.iastore, 1) := by decide +kernel
theorem dX3_bindTo_21 : decode cX3_bindTo 21 = .ok (.aload_n 0, 1) := by decide +kernel
theorem dX3_bindTo_22 : decode cX3_bindTo 22 = .ok (.getfield 9, 3) := by decide +kernel
theorem dX3_bindTo_25 : decode cX3_bindTo 25 = .ok (.iload_n 3, 1) := by decide +kernel
theorem dX3_bindTo_26 : decode cX3_bindTo 26 = .ok (.iaload, 1) := by decide +kernel
theorem dX3_bindTo_27 : decode cX3_bindTo 27 = .ok (.iload_n 2, 1) := by decide +kernel
theorem dX3_bindTo_28 : decode cX3_bindTo 28 = .ok (.if_icmp .ne 7, 3) := by decide +kernel
theorem dX3_bindTo_31 : decode cX3_bindTo 31 = .ok (.iconst 0, 1) := by decide +kernel
theorem dX3_bindTo_32 : decode cX3_bindTo 32 = .ok (.goto 4, 3) := by decide +kernel
theorem dX3_bindTo_35 : decode cX3_bindTo 35 = .ok (.iconst 2, 1) := by decide +kernel
theorem dX3_bindTo_36 : decode cX3_bindTo 36 = .ok (.ireturn, 1) := by decide +kernel
set_option maxRecDepth 20000 in
theorem ggX3_match_X6_isVariable : GoodIn wsX3_match wsX6_isVariable := goodIn_r _ [10] (by decide +kernel) (by decide +kernel)
set_option maxRecDepth 20000 in
theorem gX3_match_X6_isVariable_n78 : GoodIn wsX3_match (wsX6_isVariable) := ggX3_match_X6_isVariable
set_option maxRecDepth 20000 in
theorem ggX3_match_X3_bindTo : GoodIn wsX3_match wsX3_bindTo := goodIn_r _ [15, 16, 21, 22, 23, 24, 25, 26, 27] (by decide +kernel) (by decide +kernel)
set_option maxRecDepth 20000 in
theorem gX3_match_X3_bindTo : GoodIn wsX3_match (wsV RX3 81 RX3 yX3_bindTo wsX3_bindTo) := goodIn_app (goodIn_of _ (by decide +kernel)) ggX3_match_X3_bindTo
set_option maxRecDepth 20000 in
theorem ggX3_match_X3_await : GoodIn wsX3_match wsX3_await := goodIn_r _ [20, 1, 2, 21, 22, 23, 24, 25, 26, 27] (by decide +kernel) (by decide +kernel)
set_option maxRecDepth 20000 in
theorem gX3_match_X3_await : GoodIn wsX3_match (wsV RX3 94 RX3 yX3_await wsX3_await) := goodIn_app (goodIn_of _ (by decide +kernel)) ggX3_match_X3_await
theorem dX3_match_0 : decode cX3_match 0 = .ok (.aload_n 0, 1) := by decide +kernel
theorem dX3_match_1 : decode cX3_match 1 = .ok (.getfield 22, 3) := by decide +kernel
theorem dX3_match_4 : decode cX3_match 4 = .ok (.iconst 0, 1) := by decide +kernel
theorem dX3_match_5 : decode cX3_match 5 = .ok (.iload_n 1, 1) := by decide +kernel
theorem dX3_match_6 : decode cX3_match 6 = .ok (.iastore, 1) := by decide +kernel
theorem dX3_match_7 : decode cX3_match 7 = .ok (.aload_n 0, 1) := by decide +kernel
theorem dX3_match_8 : decode cX3_match 8 = .ok (.getfield 25, 3) := by decide +kernel
theorem dX3_match_11 : decode cX3_match 11 = .ok (.iconst 0, 1) := by decide +kernel
theorem dX3_match_12 : decode cX3_match 12 = .ok (.iload_n 2, 1) := by decide +kernel
theorem dX3_match_13 : decode cX3_match 13 = .ok (.iastore, 1) := by decide +kernel
theorem dX3_match_14 : decode cX3_match 14 = .ok (.iconst 1, 1) := by decide +kernel
theorem dX3_match_15 : decode cX3_match 15 = .ok (.istore_n 3, 1) := by decide +kernel
theorem dX3_match_16 : decode cX3_match 16 = .ok (.iconst 0, 1) := by decide +kernel
theorem dX3_match_17 : decode cX3_match 17 = .ok (.istore 4, 2) := by decide +kernel
theorem dX3_match_19 : decode cX3_match 19 = .ok (.iconst 0, 1) := by decide +kernel
theorem dX3_match_20 : decode cX3_match 20 = .ok (.istore 5, 2) := by decide +kernel
theorem dX3_match_22 : decode cX3_match 22 = .ok (.iload_n 3, 1) := by decide +kernel
theorem dX3_match_23 : decode cX3_match 23 = .ok (.ifCond .le 167, 3) := by decide +kernel
theorem dX3_match_26 : decode cX3_match 26 = .ok (.iload 5, 2) := by decide +kernel
theorem dX3_match_28 : decode cX3_match 28 = .ok (.sipush 6400, 3) := by decide +kernel
theorem dX3_match_31 : decode cX3_match 31 = .ok (.if_icmp .ge 159, 3) := by decide +kernel
theorem dX3_match_34 : decode cX3_match 34 = .ok (.iinc 3 (-1), 3) := by decide +kernel
theorem dX3_match_37 : decode cX3_match 37 = .ok (.aload_n 0, 1) := by decide +kernel
theorem dX3_match_38 : decode cX3_match 38 = .ok (.getfield 22, 3) := by decide +kernel
theorem dX3_match_41 : decode cX3_match 41 = .ok (.iload_n 3, 1) := by decide +kernel
theorem dX3_match_42 : decode cX3_match 42 = .ok (.iaload, 1) := by decide +kernel
theorem dX3_match_43 : decode cX3_match 43 = .ok (.istore 6, 2) := by decide +kernel
theorem dX3_match_45 : decode cX3_match 45 = .ok (.aload_n 0, 1) := by decide +kernel
theorem dX3_match_46 : decode cX3_match 46 = .ok (.getfield 25, 3) := by decide +kernel
theorem dX3_match_49 : decode cX3_match 49 = .ok (.iload_n 3, 1) := by decide +kernel
theorem dX3_match_50 : decode cX3_match 50 = .ok (.iaload, 1) := by decide +kernel
theorem dX3_match_51 : decode cX3_match 51 = .ok (.istore 7, 2) := by decide +kernel
theorem dX3_match_53 : decode cX3_match 53 = .ok (.iload 6, 2) := by decide +kernel
theorem dX3_match_55 : decode cX3_match 55 = .ok (.invokestatic 78, 3) := by decide +kernel
theorem dX3_match_58 : decode cX3_match 58 = .ok (.ifCond .eq 16, 3) := by decide +kernel
theorem dX3_match_61 : decode cX3_match 61 = .ok (.aload_n 0, 1) := by decide +kernel
theorem dX3_match_62 : decode cX3_match 62 = .ok (.iload 6, 2) := by decide +kernel
theorem dX3_match_64 : decode cX3_match 64 = .ok (.iload 7, 2) := by decide +kernel
theorem dX3_match_66 : decode cX3_match 66 = .ok (.invokevirtual 81, 3) := by decide +kernel
theorem dX3_match_69 : decode cX3_match 69 = .ok (.istore 4, 2) := by decide +kernel
theorem dX3_match_71 : decode cX3_match 71 = .ok (.goto 105, 3) := by decide +kernel
theorem dX3_match_74 : decode cX3_match 74 = .ok (.aload_n 0, 1) := by decide +kernel
theorem dX3_match_75 : decode cX3_match 75 = .ok (.getfield 28, 3) := by decide +kernel
theorem dX3_match_78 : decode cX3_match 78 = .ok (.getfield 84, 3) := by decide +kernel
theorem dX3_match_81 : decode cX3_match 81 = .ok (.iload 6, 2) := by decide +kernel
theorem dX3_match_83 : decode cX3_match 83 = .ok (.iaload, 1) := by decide +kernel
theorem dX3_match_84 : decode cX3_match 84 = .ok (.aload_n 0, 1) := by decide +kernel
theorem dX3_match_85 : decode cX3_match 85 = .ok (.getfield 28, 3) := by decide +kernel
theorem dX3_match_88 : decode cX3_match 88 = .ok (.getfield 84, 3) := by decide +kernel
theorem dX3_match_91 : decode cX3_match 91 = .ok (.iload 7, 2) := by decide +kernel
theorem dX3_match_93 : decode cX3_match 93 = .ok (.iaload, 1) := by decide +kernel
theorem dX3_match_94 : decode cX3_match 94 = .ok (.if_icmp .eq 9, 3) := by decide +kernel
theorem dX3_match_97 : decode cX3_match 97 = .ok (.iconst 1, 1) := by decide +kernel
theorem dX3_match_98 : decode cX3_match 98 = .ok (.istore 4, 2) := by decide +kernel
theorem dX3_match_100 : decode cX3_match 100 = .ok (.goto 76, 3) := by decide +kernel
theorem dX3_match_103 : decode cX3_match 103 = .ok (.aload_n 0, 1) := by decide +kernel
theorem dX3_match_104 : decode cX3_match 104 = .ok (.getfield 19, 3) := by decide +kernel
theorem dX3_match_107 : decode cX3_match 107 = .ok (.iload 6, 2) := by decide +kernel
theorem dX3_match_109 : decode cX3_match 109 = .ok (.iaload, 1) := by decide +kernel
theorem dX3_match_110 : decode cX3_match 110 = .ok (.iload 7, 2) := by decide +kernel
theorem dX3_match_112 : decode cX3_match 112 = .ok (.if_icmp .eq 64, 3) := by decide +kernel
theorem dX3_match_115 : decode cX3_match 115 = .ok (.aload_n 0, 1) := by decide +kernel
theorem dX3_match_116 : decode cX3_match 116 = .ok (.getfield 19, 3) := by decide +kernel
theorem dX3_match_119 : decode cX3_match 119 = .ok (.iload 6, 2) := by decide +kernel
theorem dX3_match_121 : decode cX3_match 121 = .ok (.iload 7, 2) := by decide +kernel
theorem dX3_match_123 : decode cX3_match 123 = .ok (.iastore, 1) := by decide +kernel
theorem dX3_match_124 : decode cX3_match 124 = .ok (.aload_n 0, 1) := by decide +kernel
theorem dX3_match_125 : decode cX3_match 125 = .ok (.aload_n 0, 1) := by decide +kernel
theorem dX3_match_126 : decode cX3_match 126 = .ok (.getfield 28, 3) := by decide +kernel
theorem dX3_match_129 : decode cX3_match 129 = .ok (.getfield 93, 3) := by decide +kernel
theorem dX3_match_132 : decode cX3_match 132 = .ok (.iload 6, 2) := by decide +kernel
theorem dX3_match_134 : decode cX3_match 134 = .ok (.iaload, 1) := by decide +kernel
theorem dX3_match_135 : decode cX3_match 135 = .ok (.aload_n 0, 1) := by decide +kernel
theorem dX3_match_136 : decode cX3_match 136 = .ok (.getfield 28, 3) := by decide +kernel
theorem dX3_match_139 : decode cX3_match 139 = .ok (.getfield 93, 3) := by decide +kernel
theorem dX3_match_142 : decode cX3_match 142 = .ok (.iload 7, 2) := by decide +kernel
theorem dX3_match_144 : decode cX3_match 144 = .ok (.iaload, 1) := by decide +kernel
theorem dX3_match_145 : decode cX3_match 145 = .ok (.iload_n 3, 1) := by decide +kernel
theorem dX3_match_146 : decode cX3_match 146 = .ok (.invokevirtual 94, 3) := by decide +kernel
theorem dX3_match_149 : decode cX3_match 149 = .ok (.istore_n 3, 1) := by decide +kernel
theorem dX3_match_150 : decode cX3_match 150 = .ok (.aload_n 0, 1) := by decide +kernel
theorem dX3_match_151 : decode cX3_match 151 = .ok (.aload_n 0, 1) := by decide +kernel
theorem dX3_match_152 : decode cX3_match 152 = .ok (.getfield 28, 3) := by decide +kernel
theorem dX3_match_155 : decode cX3_match 155 = .ok (.getfield 97, 3) := by decide +kernel
theorem dX3_match_158 : decode cX3_match 158 = .ok (.iload 6, 2) := by decide +kernel
theorem dX3_match_160 : decode cX3_match 160 = .ok (.iaload, 1) := by decide +kernel
theorem dX3_match_161 : decode cX3_match 161 = .ok (.aload_n 0, 1) := by decide +kernel
theorem dX3_match_162 : decode cX3_match 162 = .ok (.getfield 28, 3) := by decide +kernel
theorem dX3_match_165 : decode cX3_match 165 = .ok (.getfield 97, 3) := by decide +kernel
theorem dX3_match_168 : decode cX3_match 168 = .ok (.iload 7, 2) := by decide +kernel
theorem dX3_match_170 : decode cX3_match 170 = .ok (.iaload, 1) := by decide +kernel
theorem dX3_match_171 : decode cX3_match 171 = .ok (.iload_n 3, 1) := by decide +kernel
theorem dX3_match_172 : decode cX3_match 172 = .ok (.invokevirtual 94, 3) := by decide +kernel
theorem dX3_match_175 : decode cX3_match 175 = .ok (.istore_n 3, 1) := by decide +kernel
theorem dX3_match_176 : decode cX3_match 176 = .ok (.iload 4, 2) := by decide +kernel
theorem dX3_match_178 : decode cX3_match 178 = .ok (.ifCond .eq 6, 3) := by decide +kernel
theorem dX3_match_181 : decode cX3_match 181 = .ok (.iload 4, 2) := by decide +kernel
theorem dX3_match_183 : decode cX3_match 183 = .ok (.ireturn, 1) := by decide +kernel
theorem dX3_match_184 : decode cX3_match 184 = .ok (.iinc 5 1, 3) := by decide +kernel
theorem dX3_match_187 : decode cX3_match 187 = .ok (.goto (-165), 3) := by decide +kernel
theorem dX3_match_190 : decode cX3_match 190 = .ok (.iconst 0, 1) := by decide +kernel
theorem dX3_match_191 : decode cX3_match 191 = .ok (.ireturn, 1) := by decide +kernel
theorem dX3_await_0 : decode cX3_await 0 = .ok (.iload_n 1, 1) := by decide +kernel
theorem dX3_await_1 : decode cX3_await 1 = .ok (.iconst (-1), 1) := by decide +kernel
theorem dX3_await_2 : decode cX3_await 2 = .ok (.if_icmp .eq 14, 3) := by decide +kernel
theorem dX3_await_5 : decode cX3_await 5 = .ok (.iload_n 2, 1) := by decide +kernel
theorem dX3_await_6 : decode cX3_await 6 = .ok (.iconst (-1), 1) := by decide +kernel
theorem dX3_await_7 : decode cX3_await 7 = .ok (.if_icmp .eq 9, 3) := by decide +kernel
theorem dX3_await_10 : decode cX3_await 10 = .ok (.iload_n 3, 1) := by decide +kernel
theorem dX3_await_11 : decode cX3_await 11 = .ok (.bipush 82, 2) := by decide +kernel
theorem dX3_await_13 : decode cX3_await 13 = .ok (.if_icmp .lt 5, 3) := by decide +kernel
theorem dX3_await_16 : decode cX3_await 16 = .ok (.iload_n 3, 1) := by decide +kernel
theorem dX3_await_17 : decode cX3_await 17 = .ok (.ireturn, 1) := by decide +kernel
theorem dX3_await_18 : decode cX3_await 18 = .ok (.aload_n 0, 1) := by decide +kernel
theorem dX3_await_19 : decode cX3_await 19 = .ok (.getfield 22, 3) := by decide +kernel
theorem dX3_await_22 : decode cX3_await 22 = .ok (.iload_n 3, 1) := by decide +kernel
theorem dX3_await_23 : decode cX3_await 23 = .ok (.iload_n 1, 1) := by decide +kernel
theorem dX3_await_24 : decode cX3_await 24 = .ok (.iastore, 1) := by decide +kernel
theorem dX3_await_25 : decode cX3_await 25 = .ok (.aload_n 0, 1) := by decide +kernel
theorem dX3_await_26 : decode cX3_await 26 = .ok (.getfield 25, 3) := by decide +kernel
theorem dX3_await_29 : decode cX3_await 29 = .ok (.iload_n 3, 1) := by decide +kernel
theorem dX3_await_30 : decode cX3_await 30 = .ok (.iload_n 2, 1) := by decide +kernel
theorem dX3_await_31 : decode cX3_await 31 = .ok (.iastore, 1) := by decide +kernel
theorem dX3_await_32 : decode cX3_await 32 = .ok (.iload_n 3, 1) := by decide +kernel
theorem dX3_await_33 : decode cX3_await 33 = .ok (.iconst 1, 1) := by decide +kernel
theorem dX3_await_34 : decode cX3_await 34 = .ok (.iadd, 1) := by decide +kernel
theorem dX3_await_35 : decode cX3_await 35 = .ok (.ireturn, 1) := by decide +kernel
set_option maxRecDepth 20000 in
theorem ggX3_lookAtBounds_X4_goesFor : GoodIn wsX3_lookAtBounds wsX4_goesFor := goodIn_r _ [9, 10, 11, 12, 13, 14, 15, 16, 17, 18, 8, 19, 20, 21, 22, 23, 24, 25, 26, 27, 28, 29, 30, 31, 32, 33, 34, 35, 36, 37, 38, 39, 40, 41, 42, 43, 44, 45, 46, 47, 48, 49, 50, 63, 64, 65, 66, 67, 68, 69, 70, 71, 72] (by decide +kernel) (by decide +kernel)
set_option maxRecDepth 20000 in
theorem gX3_lookAtBounds_X4_goesFor : GoodIn wsX3_lookAtBounds (wsV RX3 101 RX4 yX4_goesFor wsX4_goesFor) := goodIn_app (goodIn_of _ (by decide +kernel)) ggX3_lookAtBounds_X4_goesFor
theorem dX3_lookAtBounds_0 : decode cX3_lookAtBounds 0 = .ok (.iconst 0, 1) := by decide +kernel
theorem dX3_lookAtBounds_1 : decode cX3_lookAtBounds 1 = .ok (.istore_n 2, 1) := by decide +kernel
theorem dX3_lookAtBounds_2 : decode cX3_lookAtBounds 2 = .ok (.iload_n 2, 1) := by decide +kernel
theorem dX3_lookAtBounds_3 : decode cX3_lookAtBounds 3 = .ok (.iconst 2, 1) := by decide +kernel
theorem dX3_lookAtBounds_4 : decode cX3_lookAtBounds 4 = .ok (.if_icmp .ge 74, 3) := by decide +kernel
theorem dX3_lookAtBounds_7 : decode cX3_lookAtBounds 7 = .ok (.aload_n 0, 1) := by decide +kernel
theorem dX3_lookAtBounds_8 : decode cX3_lookAtBounds 8 = .ok (.getfield 32, 3) := by decide +kernel
theorem dX3_lookAtBounds_11 : decode cX3_lookAtBounds 11 = .ok (.getfield 98, 3) := by decide +kernel
theorem dX3_lookAtBounds_14 : decode cX3_lookAtBounds 14 = .ok (.iload_n 1, 1) := by decide +kernel
theorem dX3_lookAtBounds_15 : decode cX3_lookAtBounds 15 = .ok (.iconst 2, 1) := by decide +kernel
theorem dX3_lookAtBounds_16 : decode cX3_lookAtBounds 16 = .ok (.imul, 1) := by decide +kernel
theorem dX3_lookAtBounds_17 : decode cX3_lookAtBounds 17 = .ok (.iload_n 2, 1) := by decide +kernel
theorem dX3_lookAtBounds_18 : decode cX3_lookAtBounds 18 = .ok (.iadd, 1) := by decide +kernel
theorem dX3_lookAtBounds_19 : decode cX3_lookAtBounds 19 = .ok (.iaload, 1) := by decide +kernel
theorem dX3_lookAtBounds_20 : decode cX3_lookAtBounds 20 = .ok (.istore_n 3, 1) := by decide +kernel
theorem dX3_lookAtBounds_21 : decode cX3_lookAtBounds 21 = .ok (.aload_n 0, 1) := by decide +kernel
theorem dX3_lookAtBounds_22 : decode cX3_lookAtBounds 22 = .ok (.getfield 9, 3) := by decide +kernel
theorem dX3_lookAtBounds_25 : decode cX3_lookAtBounds 25 = .ok (.iload_n 2, 1) := by decide +kernel
theorem dX3_lookAtBounds_26 : decode cX3_lookAtBounds 26 = .ok (.iaload, 1) := by decide +kernel
theorem dX3_lookAtBounds_27 : decode cX3_lookAtBounds 27 = .ok (.iconst (-1), 1) := by decide +kernel
theorem dX3_lookAtBounds_28 : decode cX3_lookAtBounds 28 = .ok (.if_icmp .eq 44, 3) := by decide +kernel
theorem dX3_lookAtBounds_31 : decode cX3_lookAtBounds 31 = .ok (.iload_n 3, 1) := by decide +kernel
theorem dX3_lookAtBounds_32 : decode cX3_lookAtBounds 32 = .ok (.iconst (-1), 1) := by decide +kernel
theorem dX3_lookAtBounds_33 : decode cX3_lookAtBounds 33 = .ok (.if_icmp .eq 39, 3) := by decide +kernel
theorem dX3_lookAtBounds_36 : decode cX3_lookAtBounds 36 = .ok (.aload_n 0, 1) := by decide +kernel
theorem dX3_lookAtBounds_37 : decode cX3_lookAtBounds 37 = .ok (.getfield 28, 3) := by decide +kernel
theorem dX3_lookAtBounds_40 : decode cX3_lookAtBounds 40 = .ok (.aload_n 0, 1) := by decide +kernel
theorem dX3_lookAtBounds_41 : decode cX3_lookAtBounds 41 = .ok (.getfield 9, 3) := by decide +kernel
theorem dX3_lookAtBounds_44 : decode cX3_lookAtBounds 44 = .ok (.iload_n 2, 1) := by decide +kernel
theorem dX3_lookAtBounds_45 : decode cX3_lookAtBounds 45 = .ok (.iaload, 1) := by decide +kernel
theorem dX3_lookAtBounds_46 : decode cX3_lookAtBounds 46 = .ok (.iload_n 3, 1) := by decide +kernel
theorem dX3_lookAtBounds_47 : decode cX3_lookAtBounds 47 = .ok (.invokevirtual 101, 3) := by decide +kernel
theorem dX3_lookAtBounds_50 : decode cX3_lookAtBounds 50 = .ok (.istore 4, 2) := by decide +kernel
theorem dX3_lookAtBounds_52 : decode cX3_lookAtBounds 52 = .ok (.iload 4, 2) := by decide +kernel
theorem dX3_lookAtBounds_54 : decode cX3_lookAtBounds 54 = .ok (.iconst 1, 1) := by decide +kernel
theorem dX3_lookAtBounds_55 : decode cX3_lookAtBounds 55 = .ok (.if_icmp .eq 17, 3) := by decide +kernel
theorem dX3_lookAtBounds_58 : decode cX3_lookAtBounds 58 = .ok (.iload 4, 2) := by decide +kernel
theorem dX3_lookAtBounds_60 : decode cX3_lookAtBounds 60 = .ok (.bipush (-3), 2) := by decide +kernel
theorem dX3_lookAtBounds_62 : decode cX3_lookAtBounds 62 = .ok (.if_icmp .ne 8, 3) := by decide +kernel
theorem dX3_lookAtBounds_65 : decode cX3_lookAtBounds 65 = .ok (.bipush 8, 2) := by decide +kernel
theorem dX3_lookAtBounds_67 : decode cX3_lookAtBounds 67 = .ok (.goto 4, 3) := by decide +kernel
theorem dX3_lookAtBounds_70 : decode cX3_lookAtBounds 70 = .ok (.iconst 3, 1) := by decide +kernel
theorem dX3_lookAtBounds_71 : decode cX3_lookAtBounds 71 = .ok (.ireturn, 1) := by decide +kernel
theorem dX3_lookAtBounds_72 : decode cX3_lookAtBounds 72 = .ok (.iinc 2 1, 3) := by decide +kernel
theorem dX3_lookAtBounds_75 : decode cX3_lookAtBounds 75 = .ok (.goto (-73), 3) := by decide +kernel
theorem dX3_lookAtBounds_78 : decode cX3_lookAtBounds 78 = .ok (.iconst 0, 1) := by decide +kernel
theorem dX3_lookAtBounds_79 : decode cX3_lookAtBounds 79 = .ok (.ireturn, 1) := by decide +kernel
theorem dX3_isBoundWithin_0 : decode cX3_isBoundWithin 0 = .ok (.aload_n 0, 1) := by decide +kernel
theorem dX3_isBoundWithin_1 : decode cX3_isBoundWithin 1 = .ok (.getfield 9, 3) := by decide +kernel
theorem dX3_isBoundWithin_4 : decode cX3_isBoundWithin 4 = .ok (.iconst 0, 1) := by decide +kernel
theorem dX3_isBoundWithin_5 : decode cX3_isBoundWithin 5 = .ok (.iaload, 1) := by decide +kernel
theorem dX3_isBoundWithin_6 : decode cX3_isBoundWithin 6 = .ok (.iconst (-1), 1) := by decide +kernel
theorem dX3_isBoundWithin_7 : decode cX3_isBoundWithin 7 = .ok (.if_icmp .ne 7, 3) := by decide +kernel
theorem dX3_isBoundWithin_10 : decode cX3_isBoundWithin 10 = .ok (.iconst 0, 1) := by decide +kernel
theorem dX3_isBoundWithin_11 : decode cX3_isBoundWithin 11 = .ok (.goto 4, 3) := by decide +kernel
theorem dX3_isBoundWithin_14 : decode cX3_isBoundWithin 14 = .ok (.iconst 1, 1) := by decide +kernel
theorem dX3_isBoundWithin_15 : decode cX3_isBoundWithin 15 = .ok (.aload_n 0, 1) := by decide +kernel
theorem dX3_isBoundWithin_16 : decode cX3_isBoundWithin 16 = .ok (.getfield 9, 3) := by decide +kernel
theorem dX3_isBoundWithin_19 : decode cX3_isBoundWithin 19 = .ok (.iconst 1, 1) := by decide +kernel
theorem dX3_isBoundWithin_20 : decode cX3_isBoundWithin 20 = .ok (.iaload, 1) := by decide +kernel
theorem dX3_isBoundWithin_21 : decode cX3_isBoundWithin 21 = .ok (.iconst (-1), 1) := by decide +kernel
theorem dX3_isBoundWithin_22 : decode cX3_isBoundWithin 22 = .ok (.if_icmp .ne 7, 3) := by decide +kernel
theorem dX3_isBoundWithin_25 : decode cX3_isBoundWithin 25 = .ok (.iconst 0, 1) := by decide +kernel
theorem dX3_isBoundWithin_26 : decode cX3_isBoundWithin 26 = .ok (.goto 4, 3) := by decide +kernel
theorem dX3_isBoundWithin_29 : decode cX3_isBoundWithin 29 = .ok (.iconst 2, 1) := by decide +kernel
theorem dX3_isBoundWithin_30 : decode cX3_isBoundWithin 30 = .ok (.ior, 1) := by decide +kernel
theorem dX3_isBoundWithin_31 : decode cX3_isBoundWithin 31 = .ok (.istore_n 2, 1) := by decide +kernel
theorem dX3_isBoundWithin_32 : decode cX3_isBoundWithin 32 = .ok (.aload_n 0, 1) := by decide +kernel
theorem dX3_isBoundWithin_33 : decode cX3_isBoundWithin 33 = .ok (.getfield 28, 3) := by decide +kernel
theorem dX3_isBoundWithin_36 : decode cX3_isBoundWithin 36 = .ok (.getfield 104, 3) := by decide +kernel
theorem dX3_isBoundWithin_39 : decode cX3_isBoundWithin 39 = .ok (.iload_n 1, 1) := by decide +kernel
theorem dX3_isBoundWithin_40 : decode cX3_isBoundWithin 40 = .ok (.iaload, 1) := by decide +kernel
theorem dX3_isBoundWithin_41 : decode cX3_isBoundWithin 41 = .ok (.iload_n 2, 1) := by decide +kernel
theorem dX3_isBoundWithin_42 : decode cX3_isBoundWithin 42 = .ok (.iconst (-1), 1) := by decide +kernel
theorem dX3_isBoundWithin_43 : decode cX3_isBoundWithin 43 = .ok (.ixor, 1) := by decide +kernel
theorem dX3_isBoundWithin_44 : decode cX3_isBoundWithin 44 = .ok (.iand, 1) := by decide +kernel
theorem dX3_isBoundWithin_45 : decode cX3_isBoundWithin 45 = .ok (.ifCond .ne 7, 3) := by decide +kernel
theorem dX3_isBoundWithin_48 : decode cX3_isBoundWithin 48 = .ok (.iconst 1, 1) := by decide +kernel
theorem dX3_isBoundWithin_49 : decode cX3_isBoundWithin 49 = .ok (.goto 4, 3) := by decide +kernel
theorem dX3_isBoundWithin_52 : decode cX3_isBoundWithin 52 = .ok (.iconst 0, 1) := by decide +kernel
theorem dX3_isBoundWithin_53 : decode cX3_isBoundWithin 53 = .ok (.ireturn, 1) := by decide +kernel
set_option maxRecDepth 20000 in
theorem ggX4_init_X4_addClass : GoodIn wsX4_init wsX4_addClass := goodIn_r _ [19, 4, 6, 7, 28, 29, 30, 31, 32, 33, 34, 35, 36, 37] (by decide +kernel) (by decide +kernel)
set_option maxRecDepth 20000 in
theorem gX4_init_X4_addClass : GoodIn wsX4_init (wsV RX4 43 RX4 yX4_addClass wsX4_addClass) := goodIn_app (goodIn_of _ (by decide +kernel)) ggX4_init_X4_addClass
set_option maxRecDepth 20000 in
theorem ggX4_init_J7_fill_53178 : GoodIn wsX4_init wsJ7_fill_53178 := goodIn_r _ [23] (by decide +kernel) (by decide +kernel)
set_option maxRecDepth 20000 in
theorem gX4_init_J7_fill_53178 : GoodIn wsX4_init (va_wsS RX4 47 yJ7_fill_53178 wsJ7_fill_53178) := goodIn_app (goodIn_of _ (by decide +kernel)) ggX4_init_J7_fill_53178
set_option maxRecDepth 20000 in
theorem ggX4_init_X4_make : GoodIn wsX4_init wsX4_make := goodIn_r _ [27, 8, 9, 10, 11, 12, 28, 29, 30, 31, 32, 33, 34, 35, 36, 37] (by decide +kernel) (by decide +kernel)
set_option maxRecDepth 20000 in
theorem gX4_init_X4_make : GoodIn wsX4_init (wsV RX4 53 RX4 yX4_make wsX4_make) := goodIn_app (goodIn_of _ (by decide +kernel)) ggX4_init_X4_make
theorem dX4_init_0 : decode cX4_init 0 = .ok (.aload_n 0, 1) := by decide +kernel
theorem dX4_init_1 : decode cX4_init 1 = .ok (.invokespecial 3, 3) := by decide +kernel
theorem dX4_init_4 : decode cX4_init 4 = .ok (.aload_n 0, 1) := by decide +kernel
theorem dX4_init_5 : decode cX4_init 5 = .ok (.iconst 0, 1) := by decide +kernel
theorem dX4_init_6 : decode cX4_init 6 = .ok (.putfield 9, 3) := by decide +kernel
theorem dX4_init_9 : decode cX4_init 9 = .ok (.aload_n 0, 1) := by decide +kernel
theorem dX4_init_10 : decode cX4_init 10 = .ok (.bipush 12, 2) := by decide +kernel
theorem dX4_init_12 : decode cX4_init 12 = .ok (.newarray .int, 2) := by decide +kernel
theorem dX4_init_14 : decode cX4_init 14 = .ok (.putfield 15, 3) := by decide +kernel
theorem dX4_init_17 : decode cX4_init 17 = .ok (.aload_n 0, 1) := by decide +kernel
theorem dX4_init_18 : decode cX4_init 18 = .ok (.bipush 12, 2) := by decide +kernel
theorem dX4_init_20 : decode cX4_init 20 = .ok (.newarray .int, 2) := by decide +kernel
theorem dX4_init_22 : decode cX4_init 22 = .ok (.putfield 19, 3) := by decide +kernel
theorem dX4_init_25 : decode cX4_init 25 = .ok (.aload_n 0, 1) := by decide +kernel
theorem dX4_init_26 : decode cX4_init 26 = .ok (.iconst 0, 1) := by decide +kernel
theorem dX4_init_27 : decode cX4_init 27 = .ok (.putfield 22, 3) := by decide +kernel
theorem dX4_init_30 : decode cX4_init 30 = .ok (.aload_n 0, 1) := by decide +kernel
theorem dX4_init_31 : decode cX4_init 31 = .ok (.bipush 80, 2) := by decide +kernel
theorem dX4_init_33 : decode cX4_init 33 = .ok (.newarray .int, 2) := by decide +kernel
theorem dX4_init_35 : decode cX4_init 35 = .ok (.putfield 25, 3) := by decide +kernel
theorem dX4_init_38 : decode cX4_init 38 = .ok (.aload_n 0, 1) := by decide +kernel
theorem dX4_init_39 : decode cX4_init 39 = .ok (.bipush 80, 2) := by decide +kernel
theorem dX4_init_41 : decode cX4_init 41 = .ok (.newarray .int, 2) := by decide +kernel
theorem dX4_init_43 : decode cX4_init 43 = .ok (.putfield 28, 3) := by decide +kernel
theorem dX4_init_46 : decode cX4_init 46 = .ok (.aload_n 0, 1) := by decide +kernel
theorem dX4_init_47 : decode cX4_init 47 = .ok (.bipush 80, 2) := by decide +kernel
theorem dX4_init_49 : decode cX4_init 49 = .ok (.newarray .int, 2) := by decide +kernel
theorem dX4_init_51 : decode cX4_init 51 = .ok (.putfield 31, 3) := by decide +kernel
theorem dX4_init_54 : decode cX4_init 54 = .ok (.aload_n 0, 1) := by decide +kernel
theorem dX4_init_55 : decode cX4_init 55 = .ok (.bipush 80, 2) := by decide +kernel
theorem dX4_init_57 : decode cX4_init 57 = .ok (.newarray .int, 2) := by decide +kernel
theorem dX4_init_59 : decode cX4_init 59 = .ok (.putfield 34, 3) := by decide +kernel
theorem dX4_init_62 : decode cX4_init 62 = .ok (.aload_n 0, 1) := by decide +kernel
theorem dX4_init_63 : decode cX4_init 63 = .ok (.bipush 80, 2) := by decide +kernel
theorem dX4_init_65 : decode cX4_init 65 = .ok (.newarray .int, 2) := by decide +kernel
theorem dX4_init_67 : decode cX4_init 67 = .ok (.putfield 37, 3) := by decide +kernel
theorem dX4_init_70 : decode cX4_init 70 = .ok (.aload_n 0, 1) := by decide +kernel
theorem dX4_init_71 : decode cX4_init 71 = .ok (.bipush 80, 2) := by decide +kernel
theorem dX4_init_73 : decode cX4_init 73 = .ok (.newarray .int, 2) := by decide +kernel
theorem dX4_init_75 : decode cX4_init 75 = .ok (.putfield 40, 3) := by decide +kernel
theorem dX4_init_78 : decode cX4_init 78 = .ok (.aload_n 0, 1) := by decide +kernel
theorem dX4_init_79 : decode cX4_init 79 = .ok (.iconst 0, 1) := by decide +kernel
theorem dX4_init_80 : decode cX4_init 80 = .ok (.iconst (-1), 1) := by decide +kernel
theorem dX4_init_81 : decode cX4_init 81 = .ok (.invokevirtual 43, 3) := by decide +kernel
theorem dX4_init_84 : decode cX4_init 84 = .ok (.pop, 1) := by decide +kernel
theorem dX4_init_85 : decode cX4_init 85 = .ok (.aload_n 0, 1) := by decide +kernel
theorem dX4_init_86 : decode cX4_init 86 = .ok (.getfield 25, 3) := by decide +kernel
theorem dX4_init_89 : decode cX4_init 89 = .ok (.iconst (-1), 1) := by decide +kernel
theorem dX4_init_90 : decode cX4_init 90 = .ok (.invokestatic 47, 3) := by decide +kernel
theorem dX4_init_93 : decode cX4_init 93 = .ok (.aload_n 0, 1) := by decide +kernel
theorem dX4_init_94 : decode cX4_init 94 = .ok (.getfield 28, 3) := by decide +kernel
theorem dX4_init_97 : decode cX4_init 97 = .ok (.iconst (-1), 1) := by decide +kernel
theorem dX4_init_98 : decode cX4_init 98 = .ok (.invokestatic 47, 3) := by decide +kernel
theorem dX4_init_101 : decode cX4_init 101 = .ok (.aload_n 0, 1) := by decide +kernel
theorem dX4_init_102 : decode cX4_init 102 = .ok (.getfield 31, 3) := by decide +kernel
theorem dX4_init_105 : decode cX4_init 105 = .ok (.iconst (-1), 1) := by decide +kernel
theorem dX4_init_106 : decode cX4_init 106 = .ok (.invokestatic 47, 3) := by decide +kernel
theorem dX4_init_109 : decode cX4_init 109 = .ok (.aload_n 0, 1) := by decide +kernel
theorem dX4_init_110 : decode cX4_init 110 = .ok (.getfield 34, 3) := by decide +kernel
theorem dX4_init_113 : decode cX4_init 113 = .ok (.iconst 4, 1) := by decide +kernel
theorem dX4_init_114 : decode cX4_init 114 = .ok (.iconst 1, 1) := by decide +kernel
theorem dX4_init_115 : decode cX4_init 115 = .ok (.iastore, 1) := by decide +kernel
theorem dX4_init_116 : decode cX4_init 116 = .ok (.aload_n 0, 1) := by decide +kernel
theorem dX4_init_117 : decode cX4_init 117 = .ok (.getfield 34, 3) := by decide +kernel
theorem dX4_init_120 : decode cX4_init 120 = .ok (.iconst 5, 1) := by decide +kernel
theorem dX4_init_121 : decode cX4_init 121 = .ok (.iconst 2, 1) := by decide +kernel
theorem dX4_init_122 : decode cX4_init 122 = .ok (.iastore, 1) := by decide +kernel
theorem dX4_init_123 : decode cX4_init 123 = .ok (.aload_n 0, 1) := by decide +kernel
theorem dX4_init_124 : decode cX4_init 124 = .ok (.bipush 6, 2) := by decide +kernel
theorem dX4_init_126 : decode cX4_init 126 = .ok (.putfield 22, 3) := by decide +kernel
theorem dX4_init_129 : decode cX4_init 129 = .ok (.aload_n 0, 1) := by decide +kernel
theorem dX4_init_130 : decode cX4_init 130 = .ok (.iconst 0, 1) := by decide +kernel
theorem dX4_init_131 : decode cX4_init 131 = .ok (.iconst (-1), 1) := by decide +kernel
theorem dX4_init_132 : decode cX4_init 132 = .ok (.iconst (-1), 1) := by decide +kernel
theorem dX4_init_133 : decode cX4_init 133 = .ok (.invokevirtual 53, 3) := by decide +kernel
theorem dX4_init_136 : decode cX4_init 136 = .ok (.pop, 1) := by decide +kernel
theorem dX4_init_137 : decode cX4_init 137 = .ok (.return_, 1) := by decide +kernel
theorem dX4_isClass_0 : decode cX4_isClass 0 = .ok (.iload_n 1, 1) := by decide +kernel
theorem dX4_isClass_1 : decode cX4_isClass 1 = .ok (.ifCond .lt 15, 3) := by decide +kernel
theorem dX4_isClass_4 : decode cX4_isClass 4 = .ok (.iload_n 1, 1) := by decide +kernel
theorem dX4_isClass_5 : decode cX4_isClass 5 = .ok (.aload_n 0, 1) := by decide +kernel
theorem dX4_isClass_6 : decode cX4_isClass 6 = .ok (.getfield 9, 3) := by decide +kernel
theorem dX4_isClass_9 : decode cX4_isClass 9 = .ok (.if_icmp .ge 7, 3) := by decide +kernel
theorem dX4_isClass_12 : decode cX4_isClass 12 = .ok (.iconst 1, 1) := by decide +kernel
theorem dX4_isClass_13 : decode cX4_isClass 13 = .ok (.goto 4, 3) := by decide +kernel
theorem dX4_isClass_16 : decode cX4_isClass 16 = .ok (.iconst 0, 1) := by decide +kernel
theorem dX4_isClass_17 : decode cX4_isClass 17 = .ok (.ireturn, 1) := by decide +kernel
theorem dX4_isType_0 : decode cX4_isType 0 = .ok (.iload_n 1, 1) := by decide +kernel
theorem dX4_isType_1 : decode cX4_isType 1 = .ok (.ifCond .lt 15, 3) := by decide +kernel
theorem dX4_isType_4 : decode cX4_isType 4 = .ok (.iload_n 1, 1) := by decide +kernel
theorem dX4_isType_5 : decode cX4_isType 5 = .ok (.aload_n 0, 1) := by decide +kernel
theorem dX4_isType_6 : decode cX4_isType 6 = .ok (.getfield 22, 3) := by decide +kernel
theorem dX4_isType_9 : decode cX4_isType 9 = .ok (.if_icmp .ge 7, 3) := by decide +kernel
theorem dX4_isType_12 : decode cX4_isType 12 = .ok (.iconst 1, 1) := by decide +kernel
theorem dX4_isType_13 : decode cX4_isType 13 = .ok (.goto 4, 3) := by decide +kernel
theorem dX4_isType_16 : decode cX4_isType 16 = .ok (.iconst 0, 1) := by decide +kernel
theorem dX4_isType_17 : decode cX4_isType 17 = .ok (.ireturn, 1) := by decide +kernel
theorem dX4_isClassType_0 : decode cX4_isClassType 0 = .ok (.iload_n 1, 1) := by decide +kernel
theorem dX4_isClassType_1 : decode cX4_isClassType 1 = .ok (.bipush 6, 2) := by decide +kernel
theorem dX4_isClassType_3 : decode cX4_isClassType 3 = .ok (.if_icmp .lt 15, 3) := by decide +kernel
theorem dX4_isClassType_6 : decode cX4_isClassType 6 = .ok (.iload_n 1, 1) := by decide +kernel
theorem dX4_isClassType_7 : decode cX4_isClassType 7 = .ok (.aload_n 0, 1) := by decide +kernel
theorem dX4_isClassType_8 : decode cX4_isClassType 8 = .ok (.getfield 22, 3) := by decide +kernel
theorem dX4_isClassType_11 : decode cX4_isClassType 11 = .ok (.if_icmp .ge 7, 3) := by decide +kernel
theorem dX4_isClassType_14 : decode cX4_isClassType 14 = .ok (.iconst 1, 1) := by decide +kernel
theorem dX4_isClassType_15 : decode cX4_isClassType 15 = .ok (.goto 4, 3) := by decide +kernel
theorem dX4_isClassType_18 : decode cX4_isClassType 18 = .ok (.iconst 0, 1) := by decide +kernel
theorem dX4_isClassType_19 : decode cX4_isClassType 19 = .ok (.ireturn, 1) := by decide +kernel
theorem dX4_isArgument_0 : decode cX4_isArgument 0 = .ok (.iload_n 1, 1) := by decide +kernel
theorem dX4_isArgument_1 : decode cX4_isArgument 1 = .ok (.iconst 4, 1) := by decide +kernel
theorem dX4_isArgument_2 : decode cX4_isArgument 2 = .ok (.if_icmp .lt 15, 3) := by decide +kernel
theorem dX4_isArgument_5 : decode cX4_isArgument 5 = .ok (.iload_n 1, 1) := by decide +kernel
theorem dX4_isArgument_6 : decode cX4_isArgument 6 = .ok (.aload_n 0, 1) := by decide +kernel
theorem dX4_isArgument_7 : decode cX4_isArgument 7 = .ok (.getfield 22, 3) := by decide +kernel
theorem dX4_isArgument_10 : decode cX4_isArgument 10 = .ok (.if_icmp .ge 7, 3) := by decide +kernel
theorem dX4_isArgument_13 : decode cX4_isArgument 13 = .ok (.iconst 1, 1) := by decide +kernel
theorem dX4_isArgument_14 : decode cX4_isArgument 14 = .ok (.goto 4, 3) := by decide +kernel
theorem dX4_isArgument_17 : decode cX4_isArgument 17 = .ok (.iconst 0, 1) := by decide +kernel
theorem dX4_isArgument_18 : decode cX4_isArgument 18 = .ok (.ireturn, 1) := by decide +kernel
set_option maxRecDepth 20000 in
theorem ggX4_isClosed_X4_isType : GoodIn wsX4_isClosed wsX4_isType := goodIn_r _ [6, 7, 8, 9, 10, 11, 12, 13, 14, 15, 16, 17] (by decide +kernel) (by decide +kernel)
set_option maxRecDepth 20000 in
theorem gX4_isClosed_X4_isType : GoodIn wsX4_isClosed (wsV RX4 57 RX4 yX4_isType wsX4_isType) := goodIn_app (goodIn_of _ (by decide +kernel)) ggX4_isClosed_X4_isType
theorem dX4_isClosed_0 : decode cX4_isClosed 0 = .ok (.aload_n 0, 1) := by decide +kernel
theorem dX4_isClosed_1 : decode cX4_isClosed 1 = .ok (.iload_n 1, 1) := by decide +kernel
theorem dX4_isClosed_2 : decode cX4_isClosed 2 = .ok (.invokevirtual 57, 3) := by decide +kernel
theorem dX4_isClosed_5 : decode cX4_isClosed 5 = .ok (.ifCond .eq 16, 3) := by decide +kernel
theorem dX4_isClosed_8 : decode cX4_isClosed 8 = .ok (.aload_n 0, 1) := by decide +kernel
theorem dX4_isClosed_9 : decode cX4_isClosed 9 = .ok (.getfield 34, 3) := by decide +kernel
theorem dX4_isClosed_12 : decode cX4_isClosed 12 = .ok (.iload_n 1, 1) := by decide +kernel
theorem dX4_isClosed_13 : decode cX4_isClosed 13 = .ok (.iaload, 1) := by decide +kernel
theorem dX4_isClosed_14 : decode cX4_isClosed 14 = .ok (.ifCond .ne 7, 3) := by decide +kernel
theorem dX4_isClosed_17 : decode cX4_isClosed 17 = .ok (.iconst 1, 1) := by decide +kernel
theorem dX4_isClosed_18 : decode cX4_isClosed 18 = .ok (.goto 4, 3) := by decide +kernel
theorem dX4_isClosed_21 : decode cX4_isClosed 21 = .ok (.iconst 0, 1) := by decide +kernel
theorem dX4_isClosed_22 : decode cX4_isClosed 22 = .ok (.ireturn, 1) := by decide +kernel
theorem dX4_hasOnly_0 : decode cX4_hasOnly 0 = .ok (.aload_n 0, 1) := by decide +kernel
theorem dX4_hasOnly_1 : decode cX4_hasOnly 1 = .ok (.getfield 34, 3) := by decide +kernel
theorem dX4_hasOnly_4 : decode cX4_hasOnly 4 = .ok (.iload_n 1, 1) := by decide +kernel
theorem dX4_hasOnly_5 : decode cX4_hasOnly 5 = .ok (.iaload, 1) := by decide +kernel
theorem dX4_hasOnly_6 : decode cX4_hasOnly 6 = .ok (.iload_n 2, 1) := by decide +kernel
theorem dX4_hasOnly_7 : decode cX4_hasOnly 7 = .ok (.ishr, 1) := by decide +kernel
theorem dX4_hasOnly_8 : decode cX4_hasOnly 8 = .ok (.ifCond .ne 7, 3) := by decide +kernel
theorem dX4_hasOnly_11 : decode cX4_hasOnly 11 = .ok (.iconst 1, 1) := by decide +kernel
theorem dX4_hasOnly_12 : decode cX4_hasOnly 12 = .ok (.goto 4, 3) := by decide +kernel
theorem dX4_hasOnly_15 : decode cX4_hasOnly 15 = .ok (.iconst 0, 1) := by decide +kernel
theorem dX4_hasOnly_16 : decode cX4_hasOnly 16 = .ok (.ireturn, 1) := by decide +kernel
theorem dX4_addClass_0 : decode cX4_addClass 0 = .ok (.aload_n 0, 1) := by decide +kernel
theorem dX4_addClass_1 : decode cX4_addClass 1 = .ok (.getfield 9, 3) := by decide +kernel
theorem dX4_addClass_4 : decode cX4_addClass 4 = .ok (.bipush 12, 2) := by decide +kernel
theorem dX4_addClass_6 : decode cX4_addClass 6 = .ok (.if_icmp .lt 6, 3) := by decide +kernel
theorem dX4_addClass_9 : decode cX4_addClass 9 = .ok (.bipush (-3), 2) := by decide +kernel
theorem dX4_addClass_11 : decode cX4_addClass 11 = .ok (.ireturn, 1) := by decide +kernel
theorem dX4_addClass_12 : decode cX4_addClass 12 = .ok (.aload_n 0, 1) := by decide +kernel
theorem dX4_addClass_13 : decode cX4_addClass 13 = .ok (.getfield 15, 3) := by decide +kernel
theorem dX4_addClass_16 : decode cX4_addClass 16 = .ok (.aload_n 0, 1) := by decide +kernel
theorem dX4_addClass_17 : decode cX4_addClass 17 = .ok (.getfield 9, 3) := by decide +kernel
theorem dX4_addClass_20 : decode cX4_addClass 20 = .ok (.iload_n 1, 1) := by decide +kernel
theorem dX4_addClass_21 : decode cX4_addClass 21 = .ok (.iastore, 1) := by decide +kernel
theorem dX4_addClass_22 : decode cX4_addClass 22 = .ok (.aload_n 0, 1) := by decide +kernel
theorem dX4_addClass_23 : decode cX4_addClass 23 = .ok (.getfield 19, 3) := by decide +kernel
theorem dX4_addClass_26 : decode cX4_addClass 26 = .ok (.aload_n 0, 1) := by decide +kernel
theorem dX4_addClass_27 : decode cX4_addClass 27 = .ok (.getfield 9, 3) := by decide +kernel
theorem dX4_addClass_30 : decode cX4_addClass 30 = .ok (.iload_n 2, 1) := by decide +kernel
theorem dX4_addClass_31 : decode cX4_addClass 31 = .ok (.iastore, 1) := by decide +kernel
theorem dX4_addClass_32 : decode cX4_addClass 32 = .ok (.aload_n 0, 1) := by decide +kernel
theorem dX4_addClass_33 : decode cX4_addClass 33 = .ok (.dup, 1) := by decide +kernel
theorem dX4_addClass_34 : decode cX4_addClass 34 = .ok (.getfield 9, 3) := by decide +kernel
theorem dX4_addClass_37 : decode cX4_addClass 37 = .ok (.dup_x1, 1) := by decide +kernel
theorem dX4_addClass_38 : decode cX4_addClass 38 = .ok (.iconst 1, 1) := by decide +kernel
theorem dX4_addClass_39 : decode cX4_addClass 39 = .ok (.iadd, 1) := by decide +kernel
theorem dX4_addClass_40 : decode cX4_addClass 40 = .ok (.putfield 9, 3) := by decide +kernel
theorem dX4_addClass_43 : decode cX4_addClass 43 = .ok (.ireturn, 1) := by decide +kernel
theorem dX4_make_0 : decode cX4_make 0 = .ok (.bipush 6, 2) := by decide +kernel
theorem dX4_make_2 : decode cX4_make 2 = .ok (.istore 4, 2) := by decide +kernel
theorem dX4_make_4 : decode cX4_make 4 = .ok (.iload 4, 2) := by decide +kernel
theorem dX4_make_6 : decode cX4_make 6 = .ok (.aload_n 0, 1) := by decide +kernel
theorem dX4_make_7 : decode cX4_make 7 = .ok (.getfield 22, 3) := by decide +kernel
theorem dX4_make_10 : decode cX4_make 10 = .ok (.if_icmp .ge 45, 3) := by decide +kernel
theorem dX4_make_13 : decode cX4_make 13 = .ok (.aload_n 0, 1) := by decide +kernel
theorem dX4_make_14 : decode cX4_make 14 = .ok (.getfield 25, 3) := by decide +kernel
theorem dX4_make_17 : decode cX4_make 17 = .ok (.iload 4, 2) := by decide +kernel
theorem dX4_make_19 : decode cX4_make 19 = .ok (.iaload, 1) := by decide +kernel
theorem dX4_make_20 : decode cX4_make 20 = .ok (.iload_n 1, 1) := by decide +kernel
theorem dX4_make_21 : decode cX4_make 21 = .ok (.if_icmp .ne 28, 3) := by decide +kernel
theorem dX4_make_24 : decode cX4_make 24 = .ok (.aload_n 0, 1) := by decide +kernel
theorem dX4_make_25 : decode cX4_make 25 = .ok (.getfield 28, 3) := by decide +kernel
theorem dX4_make_28 : decode cX4_make 28 = .ok (.iload 4, 2) := by decide +kernel
theorem dX4_make_30 : decode cX4_make 30 = .ok (.iaload, 1) := by decide +kernel
theorem dX4_make_31 : decode cX4_make 31 = .ok (.iload_n 2, 1) := by decide +kernel
theorem dX4_make_32 : decode cX4_make 32 = .ok (.if_icmp .ne 17, 3) := by decide +kernel
theorem dX4_make_35 : decode cX4_make 35 = .ok (.aload_n 0, 1) := by decide +kernel
theorem dX4_make_36 : decode cX4_make 36 = .ok (.getfield 31, 3) := by decide +kernel
theorem dX4_make_39 : decode cX4_make 39 = .ok (.iload 4, 2) := by decide +kernel
theorem dX4_make_41 : decode cX4_make 41 = .ok (.iaload, 1) := by decide +kernel
theorem dX4_make_42 : decode cX4_make 42 = .ok (.iload_n 3, 1) := by decide +kernel
theorem dX4_make_43 : decode cX4_make 43 = .ok (.if_icmp .ne 6, 3) := by decide +kernel
theorem dX4_make_46 : decode cX4_make 46 = .ok (.iload 4, 2) := by decide +kernel
theorem dX4_make_48 : decode cX4_make 48 = .ok (.ireturn, 1) := by decide +kernel
theorem dX4_make_49 : decode cX4_make 49 = .ok (.iinc 4 1, 3) := by decide +kernel
theorem dX4_make_52 : decode cX4_make 52 = .ok (.goto (-48), 3) := by decide +kernel
theorem dX4_make_55 : decode cX4_make 55 = .ok (.aload_n 0, 1) := by decide +kernel
theorem dX4_make_56 : decode cX4_make 56 = .ok (.getfield 22, 3) := by decide +kernel
theorem dX4_make_59 : decode cX4_make 59 = .ok (.bipush 80, 2) := by decide +kernel
theorem dX4_make_61 : decode cX4_make 61 = .ok (.if_icmp .lt 6, 3) := by decide +kernel
theorem dX4_make_64 : decode cX4_make 64 = .ok (.bipush (-3), 2) := by decide +kernel
theorem dX4_make_66 : decode cX4_make 66 = .ok (.ireturn, 1) := by decide +kernel
theorem dX4_make_67 : decode cX4_make 67 = .ok (.aload_n 0, 1) := by decide +kernel
theorem dX4_make_68 : decode cX4_make 68 = .ok (.getfield 25, 3) := by decide +kernel
theorem dX4_make_71 : decode cX4_make 71 = .ok (.aload_n 0, 1) := by decide +kernel
theorem dX4_make_72 : decode cX4_make 72 = .ok (.getfield 22, 3) := by decide +kernel
theorem dX4_make_75 : decode cX4_make 75 = .ok (.iload_n 1, 1) := by decide +kernel
theorem dX4_make_76 : decode cX4_make 76 = .ok (.iastore, 1) := by decide +kernel
theorem dX4_make_77 : decode cX4_make 77 = .ok (.aload_n 0, 1) := by decide +kernel
theorem dX4_make_78 : decode cX4_make 78 = .ok (.getfield 28, 3) := by decide +kernel
theorem dX4_make_81 : decode cX4_make 81 = .ok (.aload_n 0, 1) := by decide +kernel
theorem dX4_make_82 : decode cX4_make 82 = .ok (.getfield 22, 3) := by decide +kernel
theorem dX4_make_85 : decode cX4_make 85 = .ok (.iload_n 2, 1) := by decide +kernel
theorem dX4_make_86 : decode cX4_make 86 = .ok (.iastore, 1) := by decide +kernel
theorem dX4_make_87 : decode cX4_make 87 = .ok (.aload_n 0, 1) := by decide +kernel
theorem dX4_make_88 : decode cX4_make 88 = .ok (.getfield 31, 3) := by decide +kernel
theorem dX4_make_91 : decode cX4_make 91 = .ok (.aload_n 0, 1) := by decide +kernel
theorem dX4_make_92 : decode cX4_make 92 = .ok (.getfield 22, 3) := by decide +kernel
theorem dX4_make_95 : decode cX4_make 95 = .ok (.iload_n 3, 1) := by decide +kernel
theorem dX4_make_96 : decode cX4_make 96 = .ok (.iastore, 1) := by decide +kernel
theorem dX4_make_97 : decode cX4_make 97 = .ok (.aload_n 0, 1) := by decide +kernel
theorem dX4_make_98 : decode cX4_make 98 = .ok (.getfield 34, 3) := by decide +kernel
theorem dX4_make_101 : decode cX4_make 101 = .ok (.aload_n 0, 1) := by decide +kernel
theorem dX4_make_102 : decode cX4_make 102 = .ok (.getfield 22, 3) := by decide +kernel
theorem dX4_make_105 : decode cX4_make 105 = .ok (.iload_n 2, 1) := by decide +kernel
theorem dX4_make_106 : decode cX4_make 106 = .ok (.ifCond .ge 7, 3) := by decide +kernel
theorem dX4_make_109 : decode cX4_make 109 = .ok (.iconst 0, 1) := by decide +kernel
theorem dX4_make_110 : decode cX4_make 110 = .ok (.goto 9, 3) := by decide +kernel
theorem dX4_make_113 : decode cX4_make 113 = .ok (.aload_n 0, 1) := by decide +kernel
theorem dX4_make_114 : decode cX4_make 114 = .ok (.getfield 34, 3) := by decide +kernel
theorem dX4_make_117 : decode cX4_make 117 = .ok (.iload_n 2, 1) := by decide +kernel
theorem dX4_make_118 : decode cX4_make 118 = .ok (.iaload, 1) := by decide +kernel
theorem dX4_make_119 : decode cX4_make 119 = .ok (.iload_n 3, 1) := by decide +kernel
theorem dX4_make_120 : decode cX4_make 120 = .ok (.ifCond .ge 7, 3) := by decide +kernel
theorem dX4_make_123 : decode cX4_make 123 = .ok (.iconst 0, 1) := by decide +kernel
theorem dX4_make_124 : decode cX4_make 124 = .ok (.goto 9, 3) := by decide +kernel
theorem dX4_make_127 : decode cX4_make 127 = .ok (.aload_n 0, 1) := by decide +kernel
theorem dX4_make_128 : decode cX4_make 128 = .ok (.getfield 34, 3) := by decide +kernel
theorem dX4_make_131 : decode cX4_make 131 = .ok (.iload_n 3, 1) := by decide +kernel
theorem dX4_make_132 : decode cX4_make 132 = .ok (.iaload, 1) := by decide +kernel
theorem dX4_make_133 : decode cX4_make 133 = .ok (.ior, 1) := by decide +kernel
theorem dX4_make_134 : decode cX4_make 134 = .ok (.iastore, 1) := by decide +kernel
theorem dX4_make_135 : decode cX4_make 135 = .ok (.aload_n 0, 1) := by decide +kernel
theorem dX4_make_136 : decode cX4_make 136 = .ok (.dup, 1) := by decide +kernel
theorem dX4_make_137 : decode cX4_make 137 = .ok (.getfield 22, 3) := by decide +kernel
theorem dX4_make_140 : decode cX4_make 140 = .ok (.dup_x1, 1) := by decide +kernel
theorem dX4_make_141 : decode cX4_make 141 = .ok (.iconst 1, 1) := by decide +kernel
theorem dX4_make_142 : decode cX4_make 142 = .ok (.iadd, 1) := by decide +kernel
theorem dX4_make_143 : decode cX4_make 143 = .ok (.putfield 22, 3) := by decide +kernel
theorem dX4_make_146 : decode cX4_make 146 = .ok (.ireturn, 1) := by decide +kernel
set_option maxRecDepth 20000 in
theorem ggX4_putIn_X4_argumentWithoutImage : GoodIn wsX4_putIn wsX4_argumentWithoutImage := goodIn_r _ [12, 6, 2, 7, 21, 22, 23, 24, 25, 26, 27, 28, 29, 30] (by decide +kernel) (by decide +kernel)
set_option maxRecDepth 20000 in
theorem gX4_putIn_X4_argumentWithoutImage : GoodIn wsX4_putIn (wsV RX4 61 RX4 yX4_argumentWithoutImage wsX4_argumentWithoutImage) := goodIn_app (goodIn_of _ (by decide +kernel)) ggX4_putIn_X4_argumentWithoutImage
set_option maxRecDepth 20000 in
theorem ggX4_putIn_X4_imageOf : GoodIn wsX4_putIn wsX4_imageOf := goodIn_r _ [16, 2, 21, 22, 23, 24, 25, 26, 27, 28, 29, 30] (by decide +kernel) (by decide +kernel)
set_option maxRecDepth 20000 in
theorem gX4_putIn_X4_imageOf : GoodIn wsX4_putIn (wsV RX4 65 RX4 yX4_imageOf wsX4_imageOf) := goodIn_app (goodIn_of _ (by decide +kernel)) ggX4_putIn_X4_imageOf
set_option maxRecDepth 20000 in
theorem ggX4_putIn_X4_make : GoodIn wsX4_putIn wsX4_make := goodIn_r _ [20, 1, 5, 6, 7, 3, 21, 22, 23, 24, 25, 26, 27, 28, 29, 30] (by decide +kernel) (by decide +kernel)
set_option maxRecDepth 20000 in
theorem gX4_putIn_X4_make : GoodIn wsX4_putIn (wsV RX4 53 RX4 yX4_make wsX4_make) := goodIn_app (goodIn_of _ (by decide +kernel)) ggX4_putIn_X4_make
theorem dX4_putIn_0 : decode cX4_putIn 0 = .ok (.iconst 0, 1) := by decide +kernel
theorem dX4_putIn_1 : decode cX4_putIn 1 = .ok (.istore 4, 2) := by decide +kernel
theorem dX4_putIn_3 : decode cX4_putIn 3 = .ok (.iload 4, 2) := by decide +kernel
theorem dX4_putIn_5 : decode cX4_putIn 5 = .ok (.aload_n 0, 1) := by decide +kernel
theorem dX4_putIn_6 : decode cX4_putIn 6 = .ok (.getfield 22, 3) := by decide +kernel
theorem dX4_putIn_9 : decode cX4_putIn 9 = .ok (.if_icmp .ge 32, 3) := by decide +kernel
theorem dX4_putIn_12 : decode cX4_putIn 12 = .ok (.aload_n 0, 1) := by decide +kernel
theorem dX4_putIn_13 : decode cX4_putIn 13 = .ok (.getfield 37, 3) := by decide +kernel
theorem dX4_putIn_16 : decode cX4_putIn 16 = .ok (.iload 4, 2) := by decide +kernel
theorem dX4_putIn_18 : decode cX4_putIn 18 = .ok (.aload_n 0, 1) := by decide +kernel
theorem dX4_putIn_19 : decode cX4_putIn 19 = .ok (.getfield 34, 3) := by decide +kernel
theorem dX4_putIn_22 : decode cX4_putIn 22 = .ok (.iload 4, 2) := by decide +kernel
theorem dX4_putIn_24 : decode cX4_putIn 24 = .ok (.iaload, 1) := by decide +kernel
theorem dX4_putIn_25 : decode cX4_putIn 25 = .ok (.ifCond .ne 8, 3) := by decide +kernel
theorem dX4_putIn_28 : decode cX4_putIn 28 = .ok (.iload 4, 2) := by decide +kernel
theorem dX4_putIn_30 : decode cX4_putIn 30 = .ok (.goto 4, 3) := by decide +kernel
theorem dX4_putIn_33 : decode cX4_putIn 33 = .ok (.iconst (-1), 1) := by decide +kernel
theorem dX4_putIn_34 : decode cX4_putIn 34 = .ok (.iastore, 1) := by decide +kernel
theorem dX4_putIn_35 : decode cX4_putIn 35 = .ok (.iinc 4 1, 3) := by decide +kernel
theorem dX4_putIn_38 : decode cX4_putIn 38 = .ok (.goto (-35), 3) := by decide +kernel
theorem dX4_putIn_41 : decode cX4_putIn 41 = .ok (.aload_n 0, 1) := by decide +kernel
theorem dX4_putIn_42 : decode cX4_putIn 42 = .ok (.getfield 37, 3) := by decide +kernel
theorem dX4_putIn_45 : decode cX4_putIn 45 = .ok (.iconst 4, 1) := by decide +kernel
theorem dX4_putIn_46 : decode cX4_putIn 46 = .ok (.iload_n 2, 1) := by decide +kernel
theorem dX4_putIn_47 : decode cX4_putIn 47 = .ok (.iastore, 1) := by decide +kernel
theorem dX4_putIn_48 : decode cX4_putIn 48 = .ok (.aload_n 0, 1) := by decide +kernel
theorem dX4_putIn_49 : decode cX4_putIn 49 = .ok (.getfield 37, 3) := by decide +kernel
theorem dX4_putIn_52 : decode cX4_putIn 52 = .ok (.iconst 5, 1) := by decide +kernel
theorem dX4_putIn_53 : decode cX4_putIn 53 = .ok (.iload_n 3, 1) := by decide +kernel
theorem dX4_putIn_54 : decode cX4_putIn 54 = .ok (.iastore, 1) := by decide +kernel
theorem dX4_putIn_55 : decode cX4_putIn 55 = .ok (.aload_n 0, 1) := by decide +kernel
theorem dX4_putIn_56 : decode cX4_putIn 56 = .ok (.getfield 40, 3) := by decide +kernel
theorem dX4_putIn_59 : decode cX4_putIn 59 = .ok (.iconst 0, 1) := by decide +kernel
theorem dX4_putIn_60 : decode cX4_putIn 60 = .ok (.iload_n 1, 1) := by decide +kernel
theorem dX4_putIn_61 : decode cX4_putIn 61 = .ok (.iastore, 1) := by decide +kernel
theorem dX4_putIn_62 : decode cX4_putIn 62 = .ok (.aload_n 0, 1) := by decide +kernel
theorem dX4_putIn_63 : decode cX4_putIn 63 = .ok (.getfield 37, 3) := by decide +kernel
theorem dX4_putIn_66 : decode cX4_putIn 66 = .ok (.iload_n 1, 1) := by decide +kernel
theorem dX4_putIn_67 : decode cX4_putIn 67 = .ok (.iaload, 1) := by decide +kernel
theorem dX4_putIn_68 : decode cX4_putIn 68 = .ok (.iconst (-1), 1) := by decide +kernel
theorem dX4_putIn_69 : decode cX4_putIn 69 = .ok (.if_icmp .ne 7, 3) := by decide +kernel
theorem dX4_putIn_72 : decode cX4_putIn 72 = .ok (.iconst 1, 1) := by decide +kernel
theorem dX4_putIn_73 : decode cX4_putIn 73 = .ok (.goto 4, 3) := by decide +kernel
theorem dX4_putIn_76 : decode cX4_putIn 76 = .ok (.iconst 0, 1) := by decide +kernel
theorem dX4_putIn_77 : decode cX4_putIn 77 = .ok (.istore 4, 2) := by decide +kernel
theorem dX4_putIn_79 : decode cX4_putIn 79 = .ok (.iconst 0, 1) := by decide +kernel
theorem dX4_putIn_80 : decode cX4_putIn 80 = .ok (.istore 5, 2) := by decide +kernel
theorem dX4_putIn_82 : decode cX4_putIn 82 = .ok (.iload 4, 2) := by decide +kernel
theorem dX4_putIn_84 : decode cX4_putIn 84 = .ok (.ifCond .le 121, 3) := by decide +kernel
theorem dX4_putIn_87 : decode cX4_putIn 87 = .ok (.iload 5, 2) := by decide +kernel
theorem dX4_putIn_89 : decode cX4_putIn 89 = .ok (.sipush 160, 3) := by decide +kernel
theorem dX4_putIn_92 : decode cX4_putIn 92 = .ok (.if_icmp .ge 113, 3) := by decide +kernel
theorem dX4_putIn_95 : decode cX4_putIn 95 = .ok (.aload_n 0, 1) := by decide +kernel
theorem dX4_putIn_96 : decode cX4_putIn 96 = .ok (.getfield 40, 3) := by decide +kernel
theorem dX4_putIn_99 : decode cX4_putIn 99 = .ok (.iload 4, 2) := by decide +kernel
theorem dX4_putIn_101 : decode cX4_putIn 101 = .ok (.iconst 1, 1) := by decide +kernel
theorem dX4_putIn_102 : decode cX4_putIn 102 = .ok (.isub, 1) := by decide +kernel
theorem dX4_putIn_103 : decode cX4_putIn 103 = .ok (.iaload, 1) := by decide +kernel
theorem dX4_putIn_104 : decode cX4_putIn 104 = .ok (.istore 6, 2) := by decide +kernel
theorem dX4_putIn_106 : decode cX4_putIn 106 = .ok (.aload_n 0, 1) := by decide +kernel
theorem dX4_putIn_107 : decode cX4_putIn 107 = .ok (.iload 6, 2) := by decide +kernel
theorem dX4_putIn_109 : decode cX4_putIn 109 = .ok (.invokevirtual 61, 3) := by decide +kernel
theorem dX4_putIn_112 : decode cX4_putIn 112 = .ok (.istore 7, 2) := by decide +kernel
theorem dX4_putIn_114 : decode cX4_putIn 114 = .ok (.iload 7, 2) := by decide +kernel
theorem dX4_putIn_116 : decode cX4_putIn 116 = .ok (.iconst (-1), 1) := by decide +kernel
theorem dX4_putIn_117 : decode cX4_putIn 117 = .ok (.if_icmp .eq 25, 3) := by decide +kernel
theorem dX4_putIn_120 : decode cX4_putIn 120 = .ok (.iload 4, 2) := by decide +kernel
theorem dX4_putIn_122 : decode cX4_putIn 122 = .ok (.bipush 80, 2) := by decide +kernel
theorem dX4_putIn_124 : decode cX4_putIn 124 = .ok (.if_icmp .ge 18, 3) := by decide +kernel
theorem dX4_putIn_127 : decode cX4_putIn 127 = .ok (.aload_n 0, 1) := by decide +kernel
theorem dX4_putIn_128 : decode cX4_putIn 128 = .ok (.getfield 40, 3) := by decide +kernel
theorem dX4_putIn_131 : decode cX4_putIn 131 = .ok (.iload 4, 2) := by decide +kernel
theorem dX4_putIn_133 : decode cX4_putIn 133 = .ok (.iinc 4 1, 3) := by decide +kernel
theorem dX4_putIn_136 : decode cX4_putIn 136 = .ok (.iload 7, 2) := by decide +kernel
theorem dX4_putIn_138 : decode cX4_putIn 138 = .ok (.iastore, 1) := by decide +kernel
theorem dX4_putIn_139 : decode cX4_putIn 139 = .ok (.goto 60, 3) := by decide +kernel
theorem dX4_putIn_142 : decode cX4_putIn 142 = .ok (.aload_n 0, 1) := by decide +kernel
theorem dX4_putIn_143 : decode cX4_putIn 143 = .ok (.aload_n 0, 1) := by decide +kernel
theorem dX4_putIn_144 : decode cX4_putIn 144 = .ok (.getfield 25, 3) := by decide +kernel
theorem dX4_putIn_147 : decode cX4_putIn 147 = .ok (.iload 6, 2) := by decide +kernel
theorem dX4_putIn_149 : decode cX4_putIn 149 = .ok (.iaload, 1) := by decide +kernel
theorem dX4_putIn_150 : decode cX4_putIn 150 = .ok (.aload_n 0, 1) := by decide +kernel
theorem dX4_putIn_151 : decode cX4_putIn 151 = .ok (.aload_n 0, 1) := by decide +kernel
theorem dX4_putIn_152 : decode cX4_putIn 152 = .ok (.getfield 28, 3) := by decide +kernel
theorem dX4_putIn_155 : decode cX4_putIn 155 = .ok (.iload 6, 2) := by decide +kernel
theorem dX4_putIn_157 : decode cX4_putIn 157 = .ok (.iaload, 1) := by decide +kernel
theorem dX4_putIn_158 : decode cX4_putIn 158 = .ok (.invokevirtual 65, 3) := by decide +kernel
theorem dX4_putIn_161 : decode cX4_putIn 161 = .ok (.aload_n 0, 1) := by decide +kernel
theorem dX4_putIn_162 : decode cX4_putIn 162 = .ok (.aload_n 0, 1) := by decide +kernel
theorem dX4_putIn_163 : decode cX4_putIn 163 = .ok (.getfield 31, 3) := by decide +kernel
theorem dX4_putIn_166 : decode cX4_putIn 166 = .ok (.iload 6, 2) := by decide +kernel
theorem dX4_putIn_168 : decode cX4_putIn 168 = .ok (.iaload, 1) := by decide +kernel
theorem dX4_putIn_169 : decode cX4_putIn 169 = .ok (.invokevirtual 65, 3) := by decide +kernel
theorem dX4_putIn_172 : decode cX4_putIn 172 = .ok (.invokevirtual 53, 3) := by decide +kernel
theorem dX4_putIn_175 : decode cX4_putIn 175 = .ok (.istore 8, 2) := by decide +kernel
theorem dX4_putIn_177 : decode cX4_putIn 177 = .ok (.iload 8, 2) := by decide +kernel
theorem dX4_putIn_179 : decode cX4_putIn 179 = .ok (.bipush (-3), 2) := by decide +kernel
theorem dX4_putIn_181 : decode cX4_putIn 181 = .ok (.if_icmp .ne 6, 3) := by decide +kernel
theorem dX4_putIn_184 : decode cX4_putIn 184 = .ok (.bipush (-3), 2) := by decide +kernel
theorem dX4_putIn_186 : decode cX4_putIn 186 = .ok (.ireturn, 1) := by decide +kernel
theorem dX4_putIn_187 : decode cX4_putIn 187 = .ok (.aload_n 0, 1) := by decide +kernel
theorem dX4_putIn_188 : decode cX4_putIn 188 = .ok (.getfield 37, 3) := by decide +kernel
theorem dX4_putIn_191 : decode cX4_putIn 191 = .ok (.iload 6, 2) := by decide +kernel
theorem dX4_putIn_193 : decode cX4_putIn 193 = .ok (.iload 8, 2) := by decide +kernel
theorem dX4_putIn_195 : decode cX4_putIn 195 = .ok (.iastore, 1) := by decide +kernel
theorem dX4_putIn_196 : decode cX4_putIn 196 = .ok (.iinc 4 (-1), 3) := by decide +kernel
theorem dX4_putIn_199 : decode cX4_putIn 199 = .ok (.iinc 5 1, 3) := by decide +kernel
theorem dX4_putIn_202 : decode cX4_putIn 202 = .ok (.goto (-120), 3) := by decide +kernel
theorem dX4_putIn_205 : decode cX4_putIn 205 = .ok (.aload_n 0, 1) := by decide +kernel
theorem dX4_putIn_206 : decode cX4_putIn 206 = .ok (.getfield 37, 3) := by decide +kernel
theorem dX4_putIn_209 : decode cX4_putIn 209 = .ok (.iload_n 1, 1) := by decide +kernel
theorem dX4_putIn_210 : decode cX4_putIn 210 = .ok (.iaload, 1) := by decide +kernel
theorem dX4_putIn_211 : decode cX4_putIn 211 = .ok (.ireturn, 1) := by decide +kernel
theorem dX4_argumentWithoutImage_0 : decode cX4_argumentWithoutImage 0 = .ok (.aload_n 0, 1) := by decide +kernel
theorem dX4_argumentWithoutImage_1 : decode cX4_argumentWithoutImage 1 = .ok (.getfield 28, 3) := by decide +kernel
theorem dX4_argumentWithoutImage_4 : decode cX4_argumentWithoutImage 4 = .ok (.iload_n 1, 1) := by decide +kernel
theorem dX4_argumentWithoutImage_5 : decode cX4_argumentWithoutImage 5 = .ok (.iaload, 1) := by decide +kernel
theorem dX4_argumentWithoutImage_6 : decode cX4_argumentWithoutImage 6 = .ok (.bipush 6, 2) := by decide +kernel
theorem dX4_argumentWithoutImage_8 : decode cX4_argumentWithoutImage 8 = .ok (.if_icmp .lt 25, 3) := by decide +kernel
theorem dX4_argumentWithoutImage_11 : decode cX4_argumentWithoutImage 11 = .ok (.aload_n 0, 1) := by decide +kernel
theorem dX4_argumentWithoutImage_12 : decode cX4_argumentWithoutImage 12 = .ok (.getfield 37, 3) := by decide +kernel
theorem dX4_argumentWithoutImage_15 : decode cX4_argumentWithoutImage 15 = .ok (.aload_n 0, 1) := by decide +kernel
theorem dX4_argumentWithoutImage_16 : decode cX4_argumentWithoutImage 16 = .ok (.getfield 28, 3) := by decide +kernel
theorem dX4_argumentWithoutImage_19 : decode cX4_argumentWithoutImage 19 = .ok (.iload_n 1, 1) := by decide +kernel
theorem dX4_argumentWithoutImage_20 : decode cX4_argumentWithoutImage 20 = .ok (.iaload, 1) := by decide +kernel
theorem dX4_argumentWithoutImage_21 : decode cX4_argumentWithoutImage 21 = .ok (.iaload, 1) := by decide +kernel
theorem dX4_argumentWithoutImage_22 : decode cX4_argumentWithoutImage 22 = .ok (.iconst (-1), 1) := by decide +kernel
theorem dX4_argumentWithoutImage_23 : decode cX4_argumentWithoutImage 23 = .ok (.if_icmp .ne 10, 3) := by decide +kernel
theorem dX4_argumentWithoutImage_26 : decode cX4_argumentWithoutImage 26 = .ok (.aload_n 0, 1) := by decide +kernel
theorem dX4_argumentWithoutImage_27 : decode cX4_argumentWithoutImage 27 = .ok (.getfield 28, 3) := by decide +kernel
theorem dX4_argumentWithoutImage_30 : decode cX4_argumentWithoutImage 30 = .ok (.iload_n 1, 1) := by decide +kernel
theorem dX4_argumentWithoutImage_31 : decode cX4_argumentWithoutImage 31 = .ok (.iaload, 1) := by decide +kernel
theorem dX4_argumentWithoutImage_32 : decode cX4_argumentWithoutImage 32 = .ok (.ireturn, 1) := by decide +kernel
theorem dX4_argumentWithoutImage_33 : decode cX4_argumentWithoutImage 33 = .ok (.aload_n 0, 1) := by decide +kernel
theorem dX4_argumentWithoutImage_34 : decode cX4_argumentWithoutImage 34 = .ok (.getfield 31, 3) := by decide +kernel
theorem dX4_argumentWithoutImage_37 : decode cX4_argumentWithoutImage 37 = .ok (.iload_n 1, 1) := by decide +kernel
theorem dX4_argumentWithoutImage_38 : decode cX4_argumentWithoutImage 38 = .ok (.iaload, 1) := by decide +kernel
theorem dX4_argumentWithoutImage_39 : decode cX4_argumentWithoutImage 39 = .ok (.bipush 6, 2) := by decide +kernel
theorem dX4_argumentWithoutImage_41 : decode cX4_argumentWithoutImage 41 = .ok (.if_icmp .lt 25, 3) := by decide +kernel
theorem dX4_argumentWithoutImage_44 : decode cX4_argumentWithoutImage 44 = .ok (.aload_n 0, 1) := by decide +kernel
theorem dX4_argumentWithoutImage_45 : decode cX4_argumentWithoutImage 45 = .ok (.getfield 37, 3) := by decide +kernel
theorem dX4_argumentWithoutImage_48 : decode cX4_argumentWithoutImage 48 = .ok (.aload_n 0, 1) := by decide +kernel
theorem dX4_argumentWithoutImage_49 : decode cX4_argumentWithoutImage 49 = .ok (.getfield 31, 3) := by decide +kernel
theorem dX4_argumentWithoutImage_52 : decode cX4_argumentWithoutImage 52 = .ok (.iload_n 1, 1) := by decide +kernel
theorem dX4_argumentWithoutImage_53 : decode cX4_argumentWithoutImage 53 = .ok (.iaload, 1) := by decide +kernel
theorem dX4_argumentWithoutImage_54 : decode cX4_argumentWithoutImage 54 = .ok (.iaload, 1) := by decide +kernel
theorem dX4_argumentWithoutImage_55 : decode cX4_argumentWithoutImage 55 = .ok (.iconst (-1), 1) := by decide +kernel
theorem dX4_argumentWithoutImage_56 : decode cX4_argumentWithoutImage 56 = .ok (.if_icmp .ne 10, 3) := by decide +kernel
theorem dX4_argumentWithoutImage_59 : decode cX4_argumentWithoutImage 59 = .ok (.aload_n 0, 1) := by decide +kernel
theorem dX4_argumentWithoutImage_60 : decode cX4_argumentWithoutImage 60 = .ok (.getfield 31, 3) := by decide +kernel
theorem dX4_argumentWithoutImage_63 : decode cX4_argumentWithoutImage 63 = .ok (.iload_n 1, 1) := by decide +kernel
theorem dX4_argumentWithoutImage_64 : decode cX4_argumentWithoutImage 64 = .ok (.iaload, 1) := by decide +kernel
theorem dX4_argumentWithoutImage_65 : decode cX4_argumentWithoutImage 65 = .ok (.ireturn, 1) := by decide +kernel
theorem dX4_argumentWithoutImage_66 : decode cX4_argumentWithoutImage 66 = .ok (.iconst (-1), 1) := by decide +kernel
theorem dX4_argumentWithoutImage_67 : decode cX4_argumentWithoutImage 67 = .ok (.ireturn, 1) := by decide +kernel
theorem dX4_imageOf_0 : decode cX4_imageOf 0 = .ok (.iload_n 1, 1) := by decide +kernel
theorem dX4_imageOf_1 : decode cX4_imageOf 1 = .ok (.iconst (-1), 1) := by decide +kernel
theorem dX4_imageOf_2 : decode cX4_imageOf 2 = .ok (.if_icmp .ne 7, 3) := by decide +kernel
theorem dX4_imageOf_5 : decode cX4_imageOf 5 = .ok (.iconst (-1), 1) := by decide +kernel
theorem dX4_imageOf_6 : decode cX4_imageOf 6 = .ok (.goto 9, 3) := by decide +kernel
theorem dX4_imageOf_9 : decode cX4_imageOf 9 = .ok (.aload_n 0, 1) := by decide +kernel
theorem dX4_imageOf_10 : decode cX4_imageOf 10 = .ok (.getfield 37, 3) := by decide +kernel
theorem dX4_imageOf_13 : decode cX4_imageOf 13 = .ok (.iload_n 1, 1) := by decide +kernel
theorem dX4_imageOf_14 : decode cX4_imageOf 14 = .ok (.iaload, 1) := by decide +kernel
theorem dX4_imageOf_15 : decode cX4_imageOf 15 = .ok (.ireturn, 1) := by decide +kernel
set_option maxRecDepth 20000 in
theorem ggX4_isFrom_X4_classAbove : GoodIn wsX4_isFrom wsX4_classAbove := goodIn_r _ [5, 6, 7, 8, 9, 10, 11, 12, 13, 14, 15, 16, 17] (by decide +kernel) (by decide +kernel)
set_option maxRecDepth 20000 in
theorem gX4_isFrom_X4_classAbove : GoodIn wsX4_isFrom (wsV RX4 68 RX4 yX4_classAbove wsX4_classAbove) := goodIn_app (goodIn_of _ (by decide +kernel)) ggX4_isFrom_X4_classAbove
theorem dX4_isFrom_0 : decode cX4_isFrom 0 = .ok (.iload_n 1, 1) := by decide +kernel
theorem dX4_isFrom_1 : decode cX4_isFrom 1 = .ok (.istore_n 3, 1) := by decide +kernel
theorem dX4_isFrom_2 : decode cX4_isFrom 2 = .ok (.iconst 0, 1) := by decide +kernel
theorem dX4_isFrom_3 : decode cX4_isFrom 3 = .ok (.istore 4, 2) := by decide +kernel
theorem dX4_isFrom_5 : decode cX4_isFrom 5 = .ok (.iload_n 3, 1) := by decide +kernel
theorem dX4_isFrom_6 : decode cX4_isFrom 6 = .ok (.iload_n 2, 1) := by decide +kernel
theorem dX4_isFrom_7 : decode cX4_isFrom 7 = .ok (.if_icmp .le 22, 3) := by decide +kernel
theorem dX4_isFrom_10 : decode cX4_isFrom 10 = .ok (.iload 4, 2) := by decide +kernel
theorem dX4_isFrom_12 : decode cX4_isFrom 12 = .ok (.bipush 12, 2) := by decide +kernel
theorem dX4_isFrom_14 : decode cX4_isFrom 14 = .ok (.if_icmp .ge 15, 3) := by decide +kernel
theorem dX4_isFrom_17 : decode cX4_isFrom 17 = .ok (.aload_n 0, 1) := by decide +kernel
theorem dX4_isFrom_18 : decode cX4_isFrom 18 = .ok (.iload_n 3, 1) := by decide +kernel
theorem dX4_isFrom_19 : decode cX4_isFrom 19 = .ok (.invokevirtual 68, 3) := by decide +kernel
theorem dX4_isFrom_22 : decode cX4_isFrom 22 = .ok (.istore_n 3, 1) := by decide +kernel
theorem dX4_isFrom_23 : decode cX4_isFrom 23 = .ok (.iinc 4 1, 3) := by decide +kernel
theorem dX4_isFrom_26 : decode cX4_isFrom 26 = .ok (.goto (-21), 3) := by decide +kernel
theorem dX4_isFrom_29 : decode cX4_isFrom 29 = .ok (.iload_n 3, 1) := by decide +kernel
theorem dX4_isFrom_30 : decode cX4_isFrom 30 = .ok (.iload_n 2, 1) := by decide +kernel
theorem dX4_isFrom_31 : decode cX4_isFrom 31 = .ok (.if_icmp .ne 7, 3) := by decide +kernel
theorem dX4_isFrom_34 : decode cX4_isFrom 34 = .ok (.iconst 1, 1) := by decide +kernel
theorem dX4_isFrom_35 : decode cX4_isFrom 35 = .ok (.goto 4, 3) := by decide +kernel
theorem dX4_isFrom_38 : decode cX4_isFrom 38 = .ok (.iconst 0, 1) := by decide +kernel
theorem dX4_isFrom_39 : decode cX4_isFrom 39 = .ok (.ireturn, 1) := by decide +kernel
theorem dX4_classAbove_0 : decode cX4_classAbove 0 = .ok (.iload_n 1, 1) := by decide +kernel
theorem dX4_classAbove_1 : decode cX4_classAbove 1 = .ok (.ifCond .ne 7, 3) := by decide +kernel
theorem dX4_classAbove_4 : decode cX4_classAbove 4 = .ok (.iconst (-1), 1) := by decide +kernel
theorem dX4_classAbove_5 : decode cX4_classAbove 5 = .ok (.goto 14, 3) := by decide +kernel
theorem dX4_classAbove_8 : decode cX4_classAbove 8 = .ok (.aload_n 0, 1) := by decide +kernel
theorem dX4_classAbove_9 : decode cX4_classAbove 9 = .ok (.getfield 25, 3) := by decide +kernel
theorem dX4_classAbove_12 : decode cX4_classAbove 12 = .ok (.aload_n 0, 1) := by decide +kernel
theorem dX4_classAbove_13 : decode cX4_classAbove 13 = .ok (.getfield 19, 3) := by decide +kernel
theorem dX4_classAbove_16 : decode cX4_classAbove 16 = .ok (.iload_n 1, 1) := by decide +kernel
theorem dX4_classAbove_17 : decode cX4_classAbove 17 = .ok (.iaload, 1) := by decide +kernel
theorem dX4_classAbove_18 : decode cX4_classAbove 18 = .ok (.iaload, 1) := by decide +kernel
theorem dX4_classAbove_19 : decode cX4_classAbove 19 = .ok (.ireturn, 1) := by decide +kernel
set_option maxRecDepth 20000 in
theorem ggX4_seenAs_X4_isFrom : GoodIn wsX4_seenAs wsX4_isFrom := goodIn_r _ [9, 10, 11, 12, 8, 13, 1, 2, 34, 35, 36, 37, 38, 39, 40, 41, 42, 43] (by decide +kernel) (by decide +kernel)
set_option maxRecDepth 20000 in
theorem gX4_seenAs_X4_isFrom : GoodIn wsX4_seenAs (wsV RX4 71 RX4 yX4_isFrom wsX4_isFrom) := goodIn_app (goodIn_of _ (by decide +kernel)) ggX4_seenAs_X4_isFrom
set_option maxRecDepth 20000 in
theorem ggX4_seenAs_X4_putIn : GoodIn wsX4_seenAs wsX4_putIn := goodIn_r _ [17, 18, 19, 20, 21, 1, 3, 4, 22, 23, 24, 8, 25, 26, 27, 28, 29, 30, 31, 32, 33, 34, 35, 36, 37, 38, 39, 40, 41, 42, 43] (by decide +kernel) (by decide +kernel)
set_option maxRecDepth 20000 in
theorem gX4_seenAs_X4_putIn : GoodIn wsX4_seenAs (wsV RX4 75 RX4 yX4_putIn wsX4_putIn) := goodIn_app (goodIn_of _ (by decide +kernel)) ggX4_seenAs_X4_putIn
theorem dX4_seenAs_0 : decode cX4_seenAs 0 = .ok (.aload_n 0, 1) := by decide +kernel
theorem dX4_seenAs_1 : decode cX4_seenAs 1 = .ok (.aload_n 0, 1) := by decide +kernel
theorem dX4_seenAs_2 : decode cX4_seenAs 2 = .ok (.getfield 25, 3) := by decide +kernel
theorem dX4_seenAs_5 : decode cX4_seenAs 5 = .ok (.iload_n 1, 1) := by decide +kernel
theorem dX4_seenAs_6 : decode cX4_seenAs 6 = .ok (.iaload, 1) := by decide +kernel
theorem dX4_seenAs_7 : decode cX4_seenAs 7 = .ok (.iload_n 2, 1) := by decide +kernel
theorem dX4_seenAs_8 : decode cX4_seenAs 8 = .ok (.invokevirtual 71, 3) := by decide +kernel
theorem dX4_seenAs_11 : decode cX4_seenAs 11 = .ok (.ifCond .ne 5, 3) := by decide +kernel
theorem dX4_seenAs_14 : decode cX4_seenAs 14 = .ok (.iconst (-1), 1) := by decide +kernel
theorem dX4_seenAs_15 : decode cX4_seenAs 15 = .ok (.ireturn, 1) := by decide +kernel
theorem dX4_seenAs_16 : decode cX4_seenAs 16 = .ok (.iload_n 1, 1) := by decide +kernel
theorem dX4_seenAs_17 : decode cX4_seenAs 17 = .ok (.istore_n 3, 1) := by decide +kernel
theorem dX4_seenAs_18 : decode cX4_seenAs 18 = .ok (.iconst 0, 1) := by decide +kernel
theorem dX4_seenAs_19 : decode cX4_seenAs 19 = .ok (.istore 4, 2) := by decide +kernel
theorem dX4_seenAs_21 : decode cX4_seenAs 21 = .ok (.aload_n 0, 1) := by decide +kernel
theorem dX4_seenAs_22 : decode cX4_seenAs 22 = .ok (.getfield 25, 3) := by decide +kernel
theorem dX4_seenAs_25 : decode cX4_seenAs 25 = .ok (.iload_n 3, 1) := by decide +kernel
theorem dX4_seenAs_26 : decode cX4_seenAs 26 = .ok (.iaload, 1) := by decide +kernel
theorem dX4_seenAs_27 : decode cX4_seenAs 27 = .ok (.iload_n 2, 1) := by decide +kernel
theorem dX4_seenAs_28 : decode cX4_seenAs 28 = .ok (.if_icmp .eq 53, 3) := by decide +kernel
theorem dX4_seenAs_31 : decode cX4_seenAs 31 = .ok (.iload 4, 2) := by decide +kernel
theorem dX4_seenAs_33 : decode cX4_seenAs 33 = .ok (.bipush 12, 2) := by decide +kernel
theorem dX4_seenAs_35 : decode cX4_seenAs 35 = .ok (.if_icmp .ge 46, 3) := by decide +kernel
theorem dX4_seenAs_38 : decode cX4_seenAs 38 = .ok (.aload_n 0, 1) := by decide +kernel
theorem dX4_seenAs_39 : decode cX4_seenAs 39 = .ok (.aload_n 0, 1) := by decide +kernel
theorem dX4_seenAs_40 : decode cX4_seenAs 40 = .ok (.getfield 19, 3) := by decide +kernel
theorem dX4_seenAs_43 : decode cX4_seenAs 43 = .ok (.aload_n 0, 1) := by decide +kernel
theorem dX4_seenAs_44 : decode cX4_seenAs 44 = .ok (.getfield 25, 3) := by decide +kernel
theorem dX4_seenAs_47 : decode cX4_seenAs 47 = .ok (.iload_n 3, 1) := by decide +kernel
theorem dX4_seenAs_48 : decode cX4_seenAs 48 = .ok (.iaload, 1) := by decide +kernel
theorem dX4_seenAs_49 : decode cX4_seenAs 49 = .ok (.iaload, 1) := by decide +kernel
theorem dX4_seenAs_50 : decode cX4_seenAs 50 = .ok (.aload_n 0, 1) := by decide +kernel
theorem dX4_seenAs_51 : decode cX4_seenAs 51 = .ok (.getfield 28, 3) := by decide +kernel
theorem dX4_seenAs_54 : decode cX4_seenAs 54 = .ok (.iload_n 3, 1) := by decide +kernel
theorem dX4_seenAs_55 : decode cX4_seenAs 55 = .ok (.iaload, 1) := by decide +kernel
theorem dX4_seenAs_56 : decode cX4_seenAs 56 = .ok (.aload_n 0, 1) := by decide +kernel
theorem dX4_seenAs_57 : decode cX4_seenAs 57 = .ok (.getfield 31, 3) := by decide +kernel
theorem dX4_seenAs_60 : decode cX4_seenAs 60 = .ok (.iload_n 3, 1) := by decide +kernel
theorem dX4_seenAs_61 : decode cX4_seenAs 61 = .ok (.iaload, 1) := by decide +kernel
theorem dX4_seenAs_62 : decode cX4_seenAs 62 = .ok (.invokevirtual 75, 3) := by decide +kernel
theorem dX4_seenAs_65 : decode cX4_seenAs 65 = .ok (.istore_n 3, 1) := by decide +kernel
theorem dX4_seenAs_66 : decode cX4_seenAs 66 = .ok (.iload_n 3, 1) := by decide +kernel
theorem dX4_seenAs_67 : decode cX4_seenAs 67 = .ok (.bipush (-3), 2) := by decide +kernel
theorem dX4_seenAs_69 : decode cX4_seenAs 69 = .ok (.if_icmp .ne 6, 3) := by decide +kernel
theorem dX4_seenAs_72 : decode cX4_seenAs 72 = .ok (.bipush (-3), 2) := by decide +kernel
theorem dX4_seenAs_74 : decode cX4_seenAs 74 = .ok (.ireturn, 1) := by decide +kernel
theorem dX4_seenAs_75 : decode cX4_seenAs 75 = .ok (.iinc 4 1, 3) := by decide +kernel
theorem dX4_seenAs_78 : decode cX4_seenAs 78 = .ok (.goto (-57), 3) := by decide +kernel
theorem dX4_seenAs_81 : decode cX4_seenAs 81 = .ok (.iload_n 3, 1) := by decide +kernel
theorem dX4_seenAs_82 : decode cX4_seenAs 82 = .ok (.ireturn, 1) := by decide +kernel
set_option maxRecDepth 20000 in
theorem ggX4_goesFor_X6_widens : GoodIn wsX4_goesFor wsX6_widens := goodIn_r _ [4] (by decide +kernel) (by decide +kernel)
set_option maxRecDepth 20000 in
theorem gX4_goesFor_X6_widens_n78 : GoodIn wsX4_goesFor (wsX6_widens) := ggX4_goesFor_X6_widens
set_option maxRecDepth 20000 in
theorem ggX4_goesFor_X6_isPrimitive : GoodIn wsX4_goesFor wsX6_isPrimitive := goodIn_r _ [6] (by decide +kernel) (by decide +kernel)
set_option maxRecDepth 20000 in
theorem gX4_goesFor_X6_isPrimitive_n81 : GoodIn wsX4_goesFor (wsX6_isPrimitive) := ggX4_goesFor_X6_isPrimitive
set_option maxRecDepth 20000 in
theorem ggX4_goesFor_X4_seenAs : GoodIn wsX4_goesFor wsX4_seenAs := goodIn_r _ [11, 1, 12, 13, 14, 15, 16, 17, 10, 18, 19, 20, 21, 22, 23, 24, 25, 26, 27, 28, 29, 30, 31, 32, 33, 34, 35, 36, 37, 38, 39, 40, 41, 42, 43, 44, 45, 46, 47, 48, 49, 50, 51, 52] (by decide +kernel) (by decide +kernel)
set_option maxRecDepth 20000 in
theorem gX4_goesFor_X4_seenAs : GoodIn wsX4_goesFor (wsV RX4 84 RX4 yX4_seenAs wsX4_seenAs) := goodIn_app (goodIn_of _ (by decide +kernel)) ggX4_goesFor_X4_seenAs
theorem dX4_goesFor_0 : decode cX4_goesFor 0 = .ok (.iload_n 1, 1) := by decide +kernel
theorem dX4_goesFor_1 : decode cX4_goesFor 1 = .ok (.iload_n 2, 1) := by decide +kernel
theorem dX4_goesFor_2 : decode cX4_goesFor 2 = .ok (.if_icmp .eq 11, 3) := by decide +kernel
theorem dX4_goesFor_5 : decode cX4_goesFor 5 = .ok (.iload_n 1, 1) := by decide +kernel
theorem dX4_goesFor_6 : decode cX4_goesFor 6 = .ok (.iload_n 2, 1) := by decide +kernel
theorem dX4_goesFor_7 : decode cX4_goesFor 7 = .ok (.invokestatic 78, 3) := by decide +kernel
theorem dX4_goesFor_10 : decode cX4_goesFor 10 = .ok (.ifCond .eq 5, 3) := by decide +kernel
theorem dX4_goesFor_13 : decode cX4_goesFor 13 = .ok (.iconst 1, 1) := by decide +kernel
theorem dX4_goesFor_14 : decode cX4_goesFor 14 = .ok (.ireturn, 1) := by decide +kernel
theorem dX4_goesFor_15 : decode cX4_goesFor 15 = .ok (.iload_n 1, 1) := by decide +kernel
theorem dX4_goesFor_16 : decode cX4_goesFor 16 = .ok (.invokestatic 81, 3) := by decide +kernel
theorem dX4_goesFor_19 : decode cX4_goesFor 19 = .ok (.ifCond .ne 10, 3) := by decide +kernel
theorem dX4_goesFor_22 : decode cX4_goesFor 22 = .ok (.iload_n 2, 1) := by decide +kernel
theorem dX4_goesFor_23 : decode cX4_goesFor 23 = .ok (.invokestatic 81, 3) := by decide +kernel
theorem dX4_goesFor_26 : decode cX4_goesFor 26 = .ok (.ifCond .eq 5, 3) := by decide +kernel
theorem dX4_goesFor_29 : decode cX4_goesFor 29 = .ok (.iconst 0, 1) := by decide +kernel
theorem dX4_goesFor_30 : decode cX4_goesFor 30 = .ok (.ireturn, 1) := by decide +kernel
theorem dX4_goesFor_31 : decode cX4_goesFor 31 = .ok (.aload_n 0, 1) := by decide +kernel
theorem dX4_goesFor_32 : decode cX4_goesFor 32 = .ok (.iload_n 1, 1) := by decide +kernel
theorem dX4_goesFor_33 : decode cX4_goesFor 33 = .ok (.aload_n 0, 1) := by decide +kernel
theorem dX4_goesFor_34 : decode cX4_goesFor 34 = .ok (.getfield 25, 3) := by decide +kernel
theorem dX4_goesFor_37 : decode cX4_goesFor 37 = .ok (.iload_n 2, 1) := by decide +kernel
theorem dX4_goesFor_38 : decode cX4_goesFor 38 = .ok (.iaload, 1) := by decide +kernel
theorem dX4_goesFor_39 : decode cX4_goesFor 39 = .ok (.invokevirtual 84, 3) := by decide +kernel
theorem dX4_goesFor_42 : decode cX4_goesFor 42 = .ok (.istore_n 3, 1) := by decide +kernel
theorem dX4_goesFor_43 : decode cX4_goesFor 43 = .ok (.iload_n 3, 1) := by decide +kernel
theorem dX4_goesFor_44 : decode cX4_goesFor 44 = .ok (.bipush (-3), 2) := by decide +kernel
theorem dX4_goesFor_46 : decode cX4_goesFor 46 = .ok (.if_icmp .ne 6, 3) := by decide +kernel
theorem dX4_goesFor_49 : decode cX4_goesFor 49 = .ok (.bipush (-3), 2) := by decide +kernel
theorem dX4_goesFor_51 : decode cX4_goesFor 51 = .ok (.ireturn, 1) := by decide +kernel
theorem dX4_goesFor_52 : decode cX4_goesFor 52 = .ok (.iload_n 3, 1) := by decide +kernel
theorem dX4_goesFor_53 : decode cX4_goesFor 53 = .ok (.iload_n 2, 1) := by decide +kernel
theorem dX4_goesFor_54 : decode cX4_goesFor 54 = .ok (.if_icmp .ne 7, 3) := by decide +kernel
theorem dX4_goesFor_57 : decode cX4_goesFor 57 = .ok (.iconst 1, 1) := by decide +kernel
theorem dX4_goesFor_58 : decode cX4_goesFor 58 = .ok (.goto 4, 3) := by decide +kernel
theorem dX4_goesFor_61 : decode cX4_goesFor 61 = .ok (.iconst 0, 1) := by decide +kernel
theorem dX4_goesFor_62 : decode cX4_goesFor 62 = .ok (.ireturn, 1) := by decide +kernel
set_option maxRecDepth 20000 in
theorem ggX4_commonOf_X6_widens : GoodIn wsX4_commonOf wsX6_widens := goodIn_r _ [4] (by decide +kernel) (by decide +kernel)
set_option maxRecDepth 20000 in
theorem gX4_commonOf_X6_widens_n78 : GoodIn wsX4_commonOf (wsX6_widens) := ggX4_commonOf_X6_widens
set_option maxRecDepth 20000 in
theorem ggX4_commonOf_X6_isPrimitive : GoodIn wsX4_commonOf wsX6_isPrimitive := goodIn_r _ [6] (by decide +kernel) (by decide +kernel)
set_option maxRecDepth 20000 in
theorem gX4_commonOf_X6_isPrimitive_n81 : GoodIn wsX4_commonOf (wsX6_isPrimitive) := ggX4_commonOf_X6_isPrimitive
set_option maxRecDepth 20000 in
theorem ggX4_commonOf_X4_isFrom : GoodIn wsX4_commonOf wsX4_isFrom := goodIn_r _ [11, 12, 13, 14, 10, 15, 1, 16, 43, 44, 45, 46, 47, 48, 49, 50, 51, 52] (by decide +kernel) (by decide +kernel)
set_option maxRecDepth 20000 in
theorem gX4_commonOf_X4_isFrom : GoodIn wsX4_commonOf (wsV RX4 71 RX4 yX4_isFrom wsX4_isFrom) := goodIn_app (goodIn_of _ (by decide +kernel)) ggX4_commonOf_X4_isFrom
set_option maxRecDepth 20000 in
theorem ggX4_commonOf_X4_seenAs : GoodIn wsX4_commonOf wsX4_seenAs := goodIn_r _ [20, 1, 16, 21, 22, 7, 8, 9, 10, 11, 12, 13, 14, 15, 23, 24, 25, 26, 27, 28, 29, 30, 31, 32, 33, 34, 35, 36, 37, 38, 39, 40, 41, 42, 43, 44, 45, 46, 47, 48, 49, 50, 51, 52] (by decide +kernel) (by decide +kernel)
set_option maxRecDepth 20000 in
theorem gX4_commonOf_X4_seenAs : GoodIn wsX4_commonOf (wsV RX4 84 RX4 yX4_seenAs wsX4_seenAs) := goodIn_app (goodIn_of _ (by decide +kernel)) ggX4_commonOf_X4_seenAs
set_option maxRecDepth 20000 in
theorem ggX4_commonOf_X4_classAbove : GoodIn wsX4_commonOf wsX4_classAbove := goodIn_r _ [15, 1, 16, 43, 44, 45, 46, 47, 48, 49, 50, 51, 52] (by decide +kernel) (by decide +kernel)
set_option maxRecDepth 20000 in
theorem gX4_commonOf_X4_classAbove : GoodIn wsX4_commonOf (wsV RX4 68 RX4 yX4_classAbove wsX4_classAbove) := goodIn_app (goodIn_of _ (by decide +kernel)) ggX4_commonOf_X4_classAbove
theorem dX4_commonOf_0 : decode cX4_commonOf 0 = .ok (.iload_n 1, 1) := by decide +kernel
theorem dX4_commonOf_1 : decode cX4_commonOf 1 = .ok (.iload_n 2, 1) := by decide +kernel
theorem dX4_commonOf_2 : decode cX4_commonOf 2 = .ok (.if_icmp .eq 11, 3) := by decide +kernel
theorem dX4_commonOf_5 : decode cX4_commonOf 5 = .ok (.iload_n 2, 1) := by decide +kernel
theorem dX4_commonOf_6 : decode cX4_commonOf 6 = .ok (.iload_n 1, 1) := by decide +kernel
theorem dX4_commonOf_7 : decode cX4_commonOf 7 = .ok (.invokestatic 78, 3) := by decide +kernel
theorem dX4_commonOf_10 : decode cX4_commonOf 10 = .ok (.ifCond .eq 5, 3) := by decide +kernel
theorem dX4_commonOf_13 : decode cX4_commonOf 13 = .ok (.iload_n 1, 1) := by decide +kernel
theorem dX4_commonOf_14 : decode cX4_commonOf 14 = .ok (.ireturn, 1) := by decide +kernel
theorem dX4_commonOf_15 : decode cX4_commonOf 15 = .ok (.iload_n 1, 1) := by decide +kernel
theorem dX4_commonOf_16 : decode cX4_commonOf 16 = .ok (.iload_n 2, 1) := by decide +kernel
theorem dX4_commonOf_17 : decode cX4_commonOf 17 = .ok (.invokestatic 78, 3) := by decide +kernel
theorem dX4_commonOf_20 : decode cX4_commonOf 20 = .ok (.ifCond .eq 5, 3) := by decide +kernel
theorem dX4_commonOf_23 : decode cX4_commonOf 23 = .ok (.iload_n 2, 1) := by decide +kernel
theorem dX4_commonOf_24 : decode cX4_commonOf 24 = .ok (.ireturn, 1) := by decide +kernel
theorem dX4_commonOf_25 : decode cX4_commonOf 25 = .ok (.iload_n 1, 1) := by decide +kernel
theorem dX4_commonOf_26 : decode cX4_commonOf 26 = .ok (.invokestatic 81, 3) := by decide +kernel
theorem dX4_commonOf_29 : decode cX4_commonOf 29 = .ok (.ifCond .ne 10, 3) := by decide +kernel
theorem dX4_commonOf_32 : decode cX4_commonOf 32 = .ok (.iload_n 2, 1) := by decide +kernel
theorem dX4_commonOf_33 : decode cX4_commonOf 33 = .ok (.invokestatic 81, 3) := by decide +kernel
theorem dX4_commonOf_36 : decode cX4_commonOf 36 = .ok (.ifCond .eq 5, 3) := by decide +kernel
theorem dX4_commonOf_39 : decode cX4_commonOf 39 = .ok (.iconst (-1), 1) := by decide +kernel
theorem dX4_commonOf_40 : decode cX4_commonOf 40 = .ok (.ireturn, 1) := by decide +kernel
theorem dX4_commonOf_41 : decode cX4_commonOf 41 = .ok (.aload_n 0, 1) := by decide +kernel
theorem dX4_commonOf_42 : decode cX4_commonOf 42 = .ok (.getfield 25, 3) := by decide +kernel
theorem dX4_commonOf_45 : decode cX4_commonOf 45 = .ok (.iload_n 1, 1) := by decide +kernel
theorem dX4_commonOf_46 : decode cX4_commonOf 46 = .ok (.iaload, 1) := by decide +kernel
theorem dX4_commonOf_47 : decode cX4_commonOf 47 = .ok (.istore_n 3, 1) := by decide +kernel
theorem dX4_commonOf_48 : decode cX4_commonOf 48 = .ok (.iconst 0, 1) := by decide +kernel
theorem dX4_commonOf_49 : decode cX4_commonOf 49 = .ok (.istore 4, 2) := by decide +kernel
theorem dX4_commonOf_51 : decode cX4_commonOf 51 = .ok (.iload_n 3, 1) := by decide +kernel
theorem dX4_commonOf_52 : decode cX4_commonOf 52 = .ok (.iconst (-1), 1) := by decide +kernel
theorem dX4_commonOf_53 : decode cX4_commonOf 53 = .ok (.if_icmp .eq 79, 3) := by decide +kernel
theorem dX4_commonOf_56 : decode cX4_commonOf 56 = .ok (.iload 4, 2) := by decide +kernel
theorem dX4_commonOf_58 : decode cX4_commonOf 58 = .ok (.bipush 12, 2) := by decide +kernel
theorem dX4_commonOf_60 : decode cX4_commonOf 60 = .ok (.if_icmp .ge 72, 3) := by decide +kernel
theorem dX4_commonOf_63 : decode cX4_commonOf 63 = .ok (.aload_n 0, 1) := by decide +kernel
theorem dX4_commonOf_64 : decode cX4_commonOf 64 = .ok (.aload_n 0, 1) := by decide +kernel
theorem dX4_commonOf_65 : decode cX4_commonOf 65 = .ok (.getfield 25, 3) := by decide +kernel
theorem dX4_commonOf_68 : decode cX4_commonOf 68 = .ok (.iload_n 2, 1) := by decide +kernel
theorem dX4_commonOf_69 : decode cX4_commonOf 69 = .ok (.iaload, 1) := by decide +kernel
theorem dX4_commonOf_70 : decode cX4_commonOf 70 = .ok (.iload_n 3, 1) := by decide +kernel
theorem dX4_commonOf_71 : decode cX4_commonOf 71 = .ok (.invokevirtual 71, 3) := by decide +kernel
theorem dX4_commonOf_74 : decode cX4_commonOf 74 = .ok (.ifCond .eq 46, 3) := by decide +kernel
theorem dX4_commonOf_77 : decode cX4_commonOf 77 = .ok (.aload_n 0, 1) := by decide +kernel
theorem dX4_commonOf_78 : decode cX4_commonOf 78 = .ok (.iload_n 1, 1) := by decide +kernel
theorem dX4_commonOf_79 : decode cX4_commonOf 79 = .ok (.iload_n 3, 1) := by decide +kernel
theorem dX4_commonOf_80 : decode cX4_commonOf 80 = .ok (.invokevirtual 84, 3) := by decide +kernel
theorem dX4_commonOf_83 : decode cX4_commonOf 83 = .ok (.istore 5, 2) := by decide +kernel
theorem dX4_commonOf_85 : decode cX4_commonOf 85 = .ok (.iload 5, 2) := by decide +kernel
theorem dX4_commonOf_87 : decode cX4_commonOf 87 = .ok (.bipush (-3), 2) := by decide +kernel
theorem dX4_commonOf_89 : decode cX4_commonOf 89 = .ok (.if_icmp .ne 6, 3) := by decide +kernel
theorem dX4_commonOf_92 : decode cX4_commonOf 92 = .ok (.bipush (-3), 2) := by decide +kernel
theorem dX4_commonOf_94 : decode cX4_commonOf 94 = .ok (.ireturn, 1) := by decide +kernel
theorem dX4_commonOf_95 : decode cX4_commonOf 95 = .ok (.aload_n 0, 1) := by decide +kernel
theorem dX4_commonOf_96 : decode cX4_commonOf 96 = .ok (.iload_n 2, 1) := by decide +kernel
theorem dX4_commonOf_97 : decode cX4_commonOf 97 = .ok (.iload_n 3, 1) := by decide +kernel
theorem dX4_commonOf_98 : decode cX4_commonOf 98 = .ok (.invokevirtual 84, 3) := by decide +kernel
theorem dX4_commonOf_101 : decode cX4_commonOf 101 = .ok (.istore 6, 2) := by decide +kernel
theorem dX4_commonOf_103 : decode cX4_commonOf 103 = .ok (.iload 6, 2) := by decide +kernel
theorem dX4_commonOf_105 : decode cX4_commonOf 105 = .ok (.bipush (-3), 2) := by decide +kernel
theorem dX4_commonOf_107 : decode cX4_commonOf 107 = .ok (.if_icmp .eq 10, 3) := by decide +kernel
theorem dX4_commonOf_110 : decode cX4_commonOf 110 = .ok (.iload 6, 2) := by decide +kernel
theorem dX4_commonOf_112 : decode cX4_commonOf 112 = .ok (.iload 5, 2) := by decide +kernel
theorem dX4_commonOf_114 : decode cX4_commonOf 114 = .ok (.if_icmp .ne 6, 3) := by decide +kernel
theorem dX4_commonOf_117 : decode cX4_commonOf 117 = .ok (.iload 6, 2) := by decide +kernel
theorem dX4_commonOf_119 : decode cX4_commonOf 119 = .ok (.ireturn, 1) := by decide +kernel
theorem dX4_commonOf_120 : decode cX4_commonOf 120 = .ok (.aload_n 0, 1) := by decide +kernel
theorem dX4_commonOf_121 : decode cX4_commonOf 121 = .ok (.iload_n 3, 1) := by decide +kernel
theorem dX4_commonOf_122 : decode cX4_commonOf 122 = .ok (.invokevirtual 68, 3) := by decide +kernel
theorem dX4_commonOf_125 : decode cX4_commonOf 125 = .ok (.istore_n 3, 1) := by decide +kernel
theorem dX4_commonOf_126 : decode cX4_commonOf 126 = .ok (.iinc 4 1, 3) := by decide +kernel
theorem dX4_commonOf_129 : decode cX4_commonOf 129 = .ok (.goto (-78), 3) := by decide +kernel
theorem dX4_commonOf_132 : decode cX4_commonOf 132 = .ok (.iconst (-1), 1) := by decide +kernel
theorem dX4_commonOf_133 : decode cX4_commonOf 133 = .ok (.ireturn, 1) := by decide +kernel
