set_option maxRecDepth 20000 in
theorem ggX2_init_X2_fill : GoodIn wsX2_init wsX2_fill := goodIn_r _ [15] (by decide +kernel) (by decide +kernel)
set_option maxRecDepth 20000 in
theorem gX2_init_X2_fill : GoodIn wsX2_init (va_wsS RX2 31 yX2_fill wsX2_fill) := goodIn_app (goodIn_of _ (by decide +kernel)) ggX2_init_X2_fill
theorem dX2_init_0 : decode cX2_init 0 = .ok (.aload_n 0, 1) := by decide +kernel
theorem dX2_init_1 : decode cX2_init 1 = .ok (.invokespecial 1, 3) := by decide +kernel
theorem dX2_init_4 : decode cX2_init 4 = .ok (.aload_n 0, 1) := by decide +kernel
theorem dX2_init_5 : decode cX2_init 5 = .ok (.bipush 120, 2) := by decide +kernel
theorem dX2_init_7 : decode cX2_init 7 = .ok (.newarray .int, 2) := by decide +kernel
theorem dX2_init_9 : decode cX2_init 9 = .ok (.putfield 9, 3) := by decide +kernel
theorem dX2_init_12 : decode cX2_init 12 = .ok (.aload_n 0, 1) := by decide +kernel
theorem dX2_init_13 : decode cX2_init 13 = .ok (.bipush 120, 2) := by decide +kernel
theorem dX2_init_15 : decode cX2_init 15 = .ok (.newarray .int, 2) := by decide +kernel
theorem dX2_init_17 : decode cX2_init 17 = .ok (.putfield 13, 3) := by decide +kernel
theorem dX2_init_20 : decode cX2_init 20 = .ok (.aload_n 0, 1) := by decide +kernel
theorem dX2_init_21 : decode cX2_init 21 = .ok (.bipush 120, 2) := by decide +kernel
theorem dX2_init_23 : decode cX2_init 23 = .ok (.newarray .int, 2) := by decide +kernel
theorem dX2_init_25 : decode cX2_init 25 = .ok (.putfield 16, 3) := by decide +kernel
theorem dX2_init_28 : decode cX2_init 28 = .ok (.aload_n 0, 1) := by decide +kernel
theorem dX2_init_29 : decode cX2_init 29 = .ok (.bipush 120, 2) := by decide +kernel
theorem dX2_init_31 : decode cX2_init 31 = .ok (.newarray .int, 2) := by decide +kernel
theorem dX2_init_33 : decode cX2_init 33 = .ok (.putfield 19, 3) := by decide +kernel
theorem dX2_init_36 : decode cX2_init 36 = .ok (.aload_n 0, 1) := by decide +kernel
theorem dX2_init_37 : decode cX2_init 37 = .ok (.bipush 16, 2) := by decide +kernel
theorem dX2_init_39 : decode cX2_init 39 = .ok (.newarray .int, 2) := by decide +kernel
theorem dX2_init_41 : decode cX2_init 41 = .ok (.putfield 22, 3) := by decide +kernel
theorem dX2_init_44 : decode cX2_init 44 = .ok (.aload_n 0, 1) := by decide +kernel
theorem dX2_init_45 : decode cX2_init 45 = .ok (.bipush 12, 2) := by decide +kernel
theorem dX2_init_47 : decode cX2_init 47 = .ok (.newarray .int, 2) := by decide +kernel
theorem dX2_init_49 : decode cX2_init 49 = .ok (.dup, 1) := by decide +kernel
theorem dX2_init_50 : decode cX2_init 50 = .ok (.iconst 0, 1) := by decide +kernel
theorem dX2_init_51 : decode cX2_init 51 = .ok (.iconst 2, 1) := by decide +kernel
theorem dX2_init_52 : decode cX2_init 52 = .ok (.iastore, 1) := by decide +kernel
theorem dX2_init_53 : decode cX2_init 53 = .ok (.dup, 1) := by decide +kernel
theorem dX2_init_54 : decode cX2_init 54 = .ok (.iconst 1, 1) := by decide +kernel
theorem dX2_init_55 : decode cX2_init 55 = .ok (.iconst 4, 1) := by decide +kernel
theorem dX2_init_56 : decode cX2_init 56 = .ok (.iastore, 1) := by decide +kernel
theorem dX2_init_57 : decode cX2_init 57 = .ok (.dup, 1) := by decide +kernel
theorem dX2_init_58 : decode cX2_init 58 = .ok (.iconst 2, 1) := by decide +kernel
theorem dX2_init_59 : decode cX2_init 59 = .ok (.bipush 7, 2) := by decide +kernel
theorem dX2_init_61 : decode cX2_init 61 = .ok (.iastore, 1) := by decide +kernel
theorem dX2_init_62 : decode cX2_init 62 = .ok (.dup, 1) := by decide +kernel
theorem dX2_init_63 : decode cX2_init 63 = .ok (.iconst 3, 1) := by decide +kernel
theorem dX2_init_64 : decode cX2_init 64 = .ok (.bipush 9, 2) := by decide +kernel
theorem dX2_init_66 : decode cX2_init 66 = .ok (.iastore, 1) := by decide +kernel
theorem dX2_init_67 : decode cX2_init 67 = .ok (.dup, 1) := by decide +kernel
theorem dX2_init_68 : decode cX2_init 68 = .ok (.iconst 4, 1) := by decide +kernel
theorem dX2_init_69 : decode cX2_init 69 = .ok (.bipush 10, 2) := by decide +kernel
theorem dX2_init_71 : decode cX2_init 71 = .ok (.iastore, 1) := by decide +kernel
theorem dX2_init_72 : decode cX2_init 72 = .ok (.dup, 1) := by decide +kernel
theorem dX2_init_73 : decode cX2_init 73 = .ok (.iconst 5, 1) := by decide +kernel
theorem dX2_init_74 : decode cX2_init 74 = .ok (.bipush 10, 2) := by decide +kernel
theorem dX2_init_76 : decode cX2_init 76 = .ok (.iastore, 1) := by decide +kernel
theorem dX2_init_77 : decode cX2_init 77 = .ok (.dup, 1) := by decide +kernel
theorem dX2_init_78 : decode cX2_init 78 = .ok (.bipush 6, 2) := by decide +kernel
theorem dX2_init_80 : decode cX2_init 80 = .ok (.bipush 9, 2) := by decide +kernel
theorem dX2_init_82 : decode cX2_init 82 = .ok (.iastore, 1) := by decide +kernel
theorem dX2_init_83 : decode cX2_init 83 = .ok (.dup, 1) := by decide +kernel
theorem dX2_init_84 : decode cX2_init 84 = .ok (.bipush 7, 2) := by decide +kernel
theorem dX2_init_86 : decode cX2_init 86 = .ok (.bipush 7, 2) := by decide +kernel
theorem dX2_init_88 : decode cX2_init 88 = .ok (.iastore, 1) := by decide +kernel
theorem dX2_init_89 : decode cX2_init 89 = .ok (.dup, 1) := by decide +kernel
theorem dX2_init_90 : decode cX2_init 90 = .ok (.bipush 8, 2) := by decide +kernel
theorem dX2_init_92 : decode cX2_init 92 = .ok (.iconst 5, 1) := by decide +kernel
theorem dX2_init_93 : decode cX2_init 93 = .ok (.iastore, 1) := by decide +kernel
theorem dX2_init_94 : decode cX2_init 94 = .ok (.dup, 1) := by decide +kernel
theorem dX2_init_95 : decode cX2_init 95 = .ok (.bipush 9, 2) := by decide +kernel
theorem dX2_init_97 : decode cX2_init 97 = .ok (.iconst 3, 1) := by decide +kernel
theorem dX2_init_98 : decode cX2_init 98 = .ok (.iastore, 1) := by decide +kernel
theorem dX2_init_99 : decode cX2_init 99 = .ok (.dup, 1) := by decide +kernel
theorem dX2_init_100 : decode cX2_init 100 = .ok (.bipush 10, 2) := by decide +kernel
theorem dX2_init_102 : decode cX2_init 102 = .ok (.iconst 2, 1) := by decide +kernel
theorem dX2_init_103 : decode cX2_init 103 = .ok (.iastore, 1) := by decide +kernel
theorem dX2_init_104 : decode cX2_init 104 = .ok (.dup, 1) := by decide +kernel
theorem dX2_init_105 : decode cX2_init 105 = .ok (.bipush 11, 2) := by decide +kernel
theorem dX2_init_107 : decode cX2_init 107 = .ok (.iconst 1, 1) := by decide +kernel
theorem dX2_init_108 : decode cX2_init 108 = .ok (.iastore, 1) := by decide +kernel
theorem dX2_init_109 : decode cX2_init 109 = .ok (.putfield 25, 3) := by decide +kernel
theorem dX2_init_112 : decode cX2_init 112 = .ok (.aload_n 0, 1) := by decide +kernel
theorem dX2_init_113 : decode cX2_init 113 = .ok (.bipush 120, 2) := by decide +kernel
theorem dX2_init_115 : decode cX2_init 115 = .ok (.newarray .int, 2) := by decide +kernel
theorem dX2_init_117 : decode cX2_init 117 = .ok (.putfield 28, 3) := by decide +kernel
theorem dX2_init_120 : decode cX2_init 120 = .ok (.aload_n 0, 1) := by decide +kernel
theorem dX2_init_121 : decode cX2_init 121 = .ok (.getfield 9, 3) := by decide +kernel
theorem dX2_init_124 : decode cX2_init 124 = .ok (.iconst 4, 1) := by decide +kernel
theorem dX2_init_125 : decode cX2_init 125 = .ok (.invokestatic 31, 3) := by decide +kernel
theorem dX2_init_128 : decode cX2_init 128 = .ok (.return_, 1) := by decide +kernel
theorem dX2_fill_0 : decode cX2_fill 0 = .ok (.iconst 0, 1) := by decide +kernel
theorem dX2_fill_1 : decode cX2_fill 1 = .ok (.istore_n 2, 1) := by decide +kernel
theorem dX2_fill_2 : decode cX2_fill 2 = .ok (.iload_n 2, 1) := by decide +kernel
theorem dX2_fill_3 : decode cX2_fill 3 = .ok (.aload_n 0, 1) := by decide +kernel
theorem dX2_fill_4 : decode cX2_fill 4 = .ok (.arraylength, 1) := by decide +kernel
theorem dX2_fill_5 : decode cX2_fill 5 = .ok (.if_icmp .ge 13, 3) := by decide +kernel
theorem dX2_fill_8 : decode cX2_fill 8 = .ok (.aload_n 0, 1) := by decide +kernel
theorem dX2_fill_9 : decode cX2_fill 9 = .ok (.iload_n 2, 1) := by decide +kernel
theorem dX2_fill_10 : decode cX2_fill 10 = .ok (.iload_n 1, 1) := by decide +kernel
theorem dX2_fill_11 : decode cX2_fill 11 = .ok (.iastore, 1) := by decide +kernel
theorem dX2_fill_12 : decode cX2_fill 12 = .ok (.iinc 2 1, 3) := by decide +kernel
theorem dX2_fill_15 : decode cX2_fill 15 = .ok (.goto (-13), 3) := by decide +kernel
theorem dX2_fill_18 : decode cX2_fill 18 = .ok (.return_, 1) := by decide +kernel
theorem dX2_thrown_0 : decode cX2_thrown 0 = .ok (.aload_n 0, 1) := by decide +kernel
theorem dX2_thrown_1 : decode cX2_thrown 1 = .ok (.getfield 35, 3) := by decide +kernel
theorem dX2_thrown_4 : decode cX2_thrown 4 = .ok (.ireturn, 1) := by decide +kernel
theorem dX2_fail_0 : decode cX2_fail 0 = .ok (.aload_n 0, 1) := by decide +kernel
theorem dX2_fail_1 : decode cX2_fail 1 = .ok (.iload_n 1, 1) := by decide +kernel
theorem dX2_fail_2 : decode cX2_fail 2 = .ok (.putfield 35, 3) := by decide +kernel
theorem dX2_fail_5 : decode cX2_fail 5 = .ok (.iconst 0, 1) := by decide +kernel
theorem dX2_fail_6 : decode cX2_fail 6 = .ok (.ireturn, 1) := by decide +kernel
theorem dX2_isIn_0 : decode cX2_isIn 0 = .ok (.iload_n 0, 1) := by decide +kernel
theorem dX2_isIn_1 : decode cX2_isIn 1 = .ok (.iload_n 1, 1) := by decide +kernel
theorem dX2_isIn_2 : decode cX2_isIn 2 = .ok (.if_icmp .lt 12, 3) := by decide +kernel
theorem dX2_isIn_5 : decode cX2_isIn 5 = .ok (.iload_n 0, 1) := by decide +kernel
theorem dX2_isIn_6 : decode cX2_isIn 6 = .ok (.iload_n 2, 1) := by decide +kernel
theorem dX2_isIn_7 : decode cX2_isIn 7 = .ok (.if_icmp .gt 7, 3) := by decide +kernel
theorem dX2_isIn_10 : decode cX2_isIn 10 = .ok (.iconst 1, 1) := by decide +kernel
theorem dX2_isIn_11 : decode cX2_isIn 11 = .ok (.goto 4, 3) := by decide +kernel
theorem dX2_isIn_14 : decode cX2_isIn 14 = .ok (.iconst 0, 1) := by decide +kernel
theorem dX2_isIn_15 : decode cX2_isIn 15 = .ok (.ireturn, 1) := by decide +kernel
set_option maxRecDepth 20000 in
theorem ggX2_isTeam_X2_isIn : GoodIn wsX2_isTeam wsX2_isIn := goodIn_r _ [5] (by decide +kernel) (by decide +kernel)
set_option maxRecDepth 20000 in
theorem gX2_isTeam_X2_isIn : GoodIn wsX2_isTeam (va_wsS RX2 42 yX2_isIn wsX2_isIn) := goodIn_app (goodIn_of _ (by decide +kernel)) ggX2_isTeam_X2_isIn
theorem dX2_isTeam_0 : decode cX2_isTeam 0 = .ok (.iload_n 1, 1) := by decide +kernel
theorem dX2_isTeam_1 : decode cX2_isTeam 1 = .ok (.iconst 0, 1) := by decide +kernel
theorem dX2_isTeam_2 : decode cX2_isTeam 2 = .ok (.aload_n 0, 1) := by decide +kernel
theorem dX2_isTeam_3 : decode cX2_isTeam 3 = .ok (.getfield 39, 3) := by decide +kernel
theorem dX2_isTeam_6 : decode cX2_isTeam 6 = .ok (.iconst 1, 1) := by decide +kernel
theorem dX2_isTeam_7 : decode cX2_isTeam 7 = .ok (.isub, 1) := by decide +kernel
theorem dX2_isTeam_8 : decode cX2_isTeam 8 = .ok (.invokestatic 42, 3) := by decide +kernel
theorem dX2_isTeam_11 : decode cX2_isTeam 11 = .ok (.ireturn, 1) := by decide +kernel
theorem dX2_get_0 : decode cX2_get 0 = .ok (.aload_n 0, 1) := by decide +kernel
theorem dX2_get_1 : decode cX2_get 1 = .ok (.getfield 22, 3) := by decide +kernel
theorem dX2_get_4 : decode cX2_get 4 = .ok (.iconst 4, 1) := by decide +kernel
theorem dX2_get_5 : decode cX2_get 5 = .ok (.iload_n 1, 1) := by decide +kernel
theorem dX2_get_6 : decode cX2_get 6 = .ok (.imul, 1) := by decide +kernel
theorem dX2_get_7 : decode cX2_get 7 = .ok (.iload_n 2, 1) := by decide +kernel
theorem dX2_get_8 : decode cX2_get 8 = .ok (.iadd, 1) := by decide +kernel
theorem dX2_get_9 : decode cX2_get 9 = .ok (.iaload, 1) := by decide +kernel
theorem dX2_get_10 : decode cX2_get 10 = .ok (.ireturn, 1) := by decide +kernel
theorem dX2_add_0 : decode cX2_add 0 = .ok (.aload_n 0, 1) := by decide +kernel
theorem dX2_add_1 : decode cX2_add 1 = .ok (.getfield 22, 3) := by decide +kernel
theorem dX2_add_4 : decode cX2_add 4 = .ok (.iconst 4, 1) := by decide +kernel
theorem dX2_add_5 : decode cX2_add 5 = .ok (.iload_n 1, 1) := by decide +kernel
theorem dX2_add_6 : decode cX2_add 6 = .ok (.imul, 1) := by decide +kernel
theorem dX2_add_7 : decode cX2_add 7 = .ok (.iload_n 2, 1) := by decide +kernel
theorem dX2_add_8 : decode cX2_add 8 = .ok (.iadd, 1) := by decide +kernel
theorem dX2_add_9 : decode cX2_add 9 = .ok (.dup2, 1) := by decide +kernel
theorem dX2_add_10 : decode cX2_add 10 = .ok (.iaload, 1) := by decide +kernel
theorem dX2_add_11 : decode cX2_add 11 = .ok (.iload_n 3, 1) := by decide +kernel
theorem dX2_add_12 : decode cX2_add 12 = .ok (.iadd, 1) := by decide +kernel
theorem dX2_add_13 : decode cX2_add 13 = .ok (.iastore, 1) := by decide +kernel
theorem dX2_add_14 : decode cX2_add 14 = .ok (.return_, 1) := by decide +kernel
theorem dX2_height_0 : decode cX2_height 0 = .ok (.iconst 2, 1) := by decide +kernel
theorem dX2_height_1 : decode cX2_height 1 = .ok (.iload_n 1, 1) := by decide +kernel
theorem dX2_height_2 : decode cX2_height 2 = .ok (.bipush 12, 2) := by decide +kernel
theorem dX2_height_4 : decode cX2_height 4 = .ok (.idiv, 1) := by decide +kernel
theorem dX2_height_5 : decode cX2_height 5 = .ok (.imul, 1) := by decide +kernel
theorem dX2_height_6 : decode cX2_height 6 = .ok (.aload_n 0, 1) := by decide +kernel
theorem dX2_height_7 : decode cX2_height 7 = .ok (.getfield 9, 3) := by decide +kernel
theorem dX2_height_10 : decode cX2_height 10 = .ok (.iload_n 1, 1) := by decide +kernel
theorem dX2_height_11 : decode cX2_height 11 = .ok (.iaload, 1) := by decide +kernel
theorem dX2_height_12 : decode cX2_height 12 = .ok (.iadd, 1) := by decide +kernel
theorem dX2_height_13 : decode cX2_height 13 = .ok (.ireturn, 1) := by decide +kernel
theorem dX2_teamOf_0 : decode cX2_teamOf 0 = .ok (.iload_n 0, 1) := by decide +kernel
theorem dX2_teamOf_1 : decode cX2_teamOf 1 = .ok (.bipush 12, 2) := by decide +kernel
theorem dX2_teamOf_3 : decode cX2_teamOf 3 = .ok (.irem, 1) := by decide +kernel
theorem dX2_teamOf_4 : decode cX2_teamOf 4 = .ok (.iconst 3, 1) := by decide +kernel
theorem dX2_teamOf_5 : decode cX2_teamOf 5 = .ok (.idiv, 1) := by decide +kernel
theorem dX2_teamOf_6 : decode cX2_teamOf 6 = .ok (.ireturn, 1) := by decide +kernel
theorem dX2_beside_0 : decode cX2_beside 0 = .ok (.iload_n 1, 1) := by decide +kernel
theorem dX2_beside_1 : decode cX2_beside 1 = .ok (.ifCond .ne 18, 3) := by decide +kernel
theorem dX2_beside_4 : decode cX2_beside 4 = .ok (.iload_n 0, 1) := by decide +kernel
theorem dX2_beside_5 : decode cX2_beside 5 = .ok (.bipush 12, 2) := by decide +kernel
theorem dX2_beside_7 : decode cX2_beside 7 = .ok (.if_icmp .ge 7, 3) := by decide +kernel
theorem dX2_beside_10 : decode cX2_beside 10 = .ok (.iconst (-1), 1) := by decide +kernel
theorem dX2_beside_11 : decode cX2_beside 11 = .ok (.goto 7, 3) := by decide +kernel
theorem dX2_beside_14 : decode cX2_beside 14 = .ok (.iload_n 0, 1) := by decide +kernel
theorem dX2_beside_15 : decode cX2_beside 15 = .ok (.bipush 12, 2) := by decide +kernel
theorem dX2_beside_17 : decode cX2_beside 17 = .ok (.isub, 1) := by decide +kernel
theorem dX2_beside_18 : decode cX2_beside 18 = .ok (.ireturn, 1) := by decide +kernel
theorem dX2_beside_19 : decode cX2_beside 19 = .ok (.iload_n 1, 1) := by decide +kernel
theorem dX2_beside_20 : decode cX2_beside 20 = .ok (.iconst 1, 1) := by decide +kernel
theorem dX2_beside_21 : decode cX2_beside 21 = .ok (.if_icmp .ne 18, 3) := by decide +kernel
theorem dX2_beside_24 : decode cX2_beside 24 = .ok (.iload_n 0, 1) := by decide +kernel
theorem dX2_beside_25 : decode cX2_beside 25 = .ok (.bipush 12, 2) := by decide +kernel
theorem dX2_beside_27 : decode cX2_beside 27 = .ok (.irem, 1) := by decide +kernel
theorem dX2_beside_28 : decode cX2_beside 28 = .ok (.ifCond .ne 7, 3) := by decide +kernel
theorem dX2_beside_31 : decode cX2_beside 31 = .ok (.iconst (-1), 1) := by decide +kernel
theorem dX2_beside_32 : decode cX2_beside 32 = .ok (.goto 6, 3) := by decide +kernel
theorem dX2_beside_35 : decode cX2_beside 35 = .ok (.iload_n 0, 1) := by decide +kernel
theorem dX2_beside_36 : decode cX2_beside 36 = .ok (.iconst 1, 1) := by decide +kernel
theorem dX2_beside_37 : decode cX2_beside 37 = .ok (.isub, 1) := by decide +kernel
theorem dX2_beside_38 : decode cX2_beside 38 = .ok (.ireturn, 1) := by decide +kernel
theorem dX2_beside_39 : decode cX2_beside 39 = .ok (.iload_n 1, 1) := by decide +kernel
theorem dX2_beside_40 : decode cX2_beside 40 = .ok (.iconst 2, 1) := by decide +kernel
theorem dX2_beside_41 : decode cX2_beside 41 = .ok (.if_icmp .ne 20, 3) := by decide +kernel
theorem dX2_beside_44 : decode cX2_beside 44 = .ok (.iload_n 0, 1) := by decide +kernel
theorem dX2_beside_45 : decode cX2_beside 45 = .ok (.bipush 12, 2) := by decide +kernel
theorem dX2_beside_47 : decode cX2_beside 47 = .ok (.irem, 1) := by decide +kernel
theorem dX2_beside_48 : decode cX2_beside 48 = .ok (.bipush 11, 2) := by decide +kernel
theorem dX2_beside_50 : decode cX2_beside 50 = .ok (.if_icmp .ne 7, 3) := by decide +kernel
theorem dX2_beside_53 : decode cX2_beside 53 = .ok (.iconst (-1), 1) := by decide +kernel
theorem dX2_beside_54 : decode cX2_beside 54 = .ok (.goto 6, 3) := by decide +kernel
theorem dX2_beside_57 : decode cX2_beside 57 = .ok (.iload_n 0, 1) := by decide +kernel
theorem dX2_beside_58 : decode cX2_beside 58 = .ok (.iconst 1, 1) := by decide +kernel
theorem dX2_beside_59 : decode cX2_beside 59 = .ok (.iadd, 1) := by decide +kernel
theorem dX2_beside_60 : decode cX2_beside 60 = .ok (.ireturn, 1) := by decide +kernel
theorem dX2_beside_61 : decode cX2_beside 61 = .ok (.iload_n 0, 1) := by decide +kernel
theorem dX2_beside_62 : decode cX2_beside 62 = .ok (.bipush 108, 2) := by decide +kernel
theorem dX2_beside_64 : decode cX2_beside 64 = .ok (.if_icmp .lt 7, 3) := by decide +kernel
theorem dX2_beside_67 : decode cX2_beside 67 = .ok (.iconst (-1), 1) := by decide +kernel
theorem dX2_beside_68 : decode cX2_beside 68 = .ok (.goto 7, 3) := by decide +kernel
theorem dX2_beside_71 : decode cX2_beside 71 = .ok (.iload_n 0, 1) := by decide +kernel
theorem dX2_beside_72 : decode cX2_beside 72 = .ok (.bipush 12, 2) := by decide +kernel
theorem dX2_beside_74 : decode cX2_beside 74 = .ok (.iadd, 1) := by decide +kernel
theorem dX2_beside_75 : decode cX2_beside 75 = .ok (.ireturn, 1) := by decide +kernel
set_option maxRecDepth 20000 in
theorem ggX2_addTeam_X2_fail : GoodIn wsX2_addTeam wsX2_fail := goodIn_r _ [8, 1, 9, 10, 11, 12, 13, 14, 15, 16, 17, 18, 19, 20, 21, 22] (by decide +kernel) (by decide +kernel)
set_option maxRecDepth 20000 in
theorem gX2_addTeam_X2_fail : GoodIn wsX2_addTeam (wsV RX2 46 RX2 yX2_fail wsX2_fail) := goodIn_app (goodIn_of _ (by decide +kernel)) ggX2_addTeam_X2_fail
theorem dX2_addTeam_0 : decode cX2_addTeam 0 = .ok (.aload_n 0, 1) := by decide +kernel
theorem dX2_addTeam_1 : decode cX2_addTeam 1 = .ok (.iconst 0, 1) := by decide +kernel
theorem dX2_addTeam_2 : decode cX2_addTeam 2 = .ok (.putfield 35, 3) := by decide +kernel
theorem dX2_addTeam_5 : decode cX2_addTeam 5 = .ok (.aload_n 0, 1) := by decide +kernel
theorem dX2_addTeam_6 : decode cX2_addTeam 6 = .ok (.getfield 39, 3) := by decide +kernel
theorem dX2_addTeam_9 : decode cX2_addTeam 9 = .ok (.iconst 4, 1) := by decide +kernel
theorem dX2_addTeam_10 : decode cX2_addTeam 10 = .ok (.if_icmp .ne 9, 3) := by decide +kernel
theorem dX2_addTeam_13 : decode cX2_addTeam 13 = .ok (.aload_n 0, 1) := by decide +kernel
theorem dX2_addTeam_14 : decode cX2_addTeam 14 = .ok (.iconst 1, 1) := by decide +kernel
theorem dX2_addTeam_15 : decode cX2_addTeam 15 = .ok (.invokevirtual 46, 3) := by decide +kernel
theorem dX2_addTeam_18 : decode cX2_addTeam 18 = .ok (.ireturn, 1) := by decide +kernel
theorem dX2_addTeam_19 : decode cX2_addTeam 19 = .ok (.aload_n 0, 1) := by decide +kernel
theorem dX2_addTeam_20 : decode cX2_addTeam 20 = .ok (.getfield 22, 3) := by decide +kernel
theorem dX2_addTeam_23 : decode cX2_addTeam 23 = .ok (.iconst 4, 1) := by decide +kernel
theorem dX2_addTeam_24 : decode cX2_addTeam 24 = .ok (.aload_n 0, 1) := by decide +kernel
theorem dX2_addTeam_25 : decode cX2_addTeam 25 = .ok (.getfield 39, 3) := by decide +kernel
theorem dX2_addTeam_28 : decode cX2_addTeam 28 = .ok (.imul, 1) := by decide +kernel
theorem dX2_addTeam_29 : decode cX2_addTeam 29 = .ok (.iconst 1, 1) := by decide +kernel
theorem dX2_addTeam_30 : decode cX2_addTeam 30 = .ok (.iadd, 1) := by decide +kernel
theorem dX2_addTeam_31 : decode cX2_addTeam 31 = .ok (.bipush 20, 2) := by decide +kernel
theorem dX2_addTeam_33 : decode cX2_addTeam 33 = .ok (.iastore, 1) := by decide +kernel
theorem dX2_addTeam_34 : decode cX2_addTeam 34 = .ok (.aload_n 0, 1) := by decide +kernel
theorem dX2_addTeam_35 : decode cX2_addTeam 35 = .ok (.dup, 1) := by decide +kernel
theorem dX2_addTeam_36 : decode cX2_addTeam 36 = .ok (.getfield 39, 3) := by decide +kernel
theorem dX2_addTeam_39 : decode cX2_addTeam 39 = .ok (.iconst 1, 1) := by decide +kernel
theorem dX2_addTeam_40 : decode cX2_addTeam 40 = .ok (.iadd, 1) := by decide +kernel
theorem dX2_addTeam_41 : decode cX2_addTeam 41 = .ok (.putfield 39, 3) := by decide +kernel
theorem dX2_addTeam_44 : decode cX2_addTeam 44 = .ok (.aload_n 0, 1) := by decide +kernel
theorem dX2_addTeam_45 : decode cX2_addTeam 45 = .ok (.getfield 39, 3) := by decide +kernel
theorem dX2_addTeam_48 : decode cX2_addTeam 48 = .ok (.iconst 1, 1) := by decide +kernel
theorem dX2_addTeam_49 : decode cX2_addTeam 49 = .ok (.isub, 1) := by decide +kernel
theorem dX2_addTeam_50 : decode cX2_addTeam 50 = .ok (.ireturn, 1) := by decide +kernel
set_option maxRecDepth 20000 in
theorem ggX2_setTide_X2_isIn : GoodIn wsX2_setTide wsX2_isIn := goodIn_r _ [6] (by decide +kernel) (by decide +kernel)
set_option maxRecDepth 20000 in
theorem gX2_setTide_X2_isIn : GoodIn wsX2_setTide (va_wsS RX2 42 yX2_isIn wsX2_isIn) := goodIn_app (goodIn_of _ (by decide +kernel)) ggX2_setTide_X2_isIn
set_option maxRecDepth 20000 in
theorem ggX2_setTide_X2_fail : GoodIn wsX2_setTide wsX2_fail := goodIn_r _ [10, 1, 11, 12, 13, 14, 15, 16, 17, 18, 19, 20, 21, 22, 23, 24] (by decide +kernel) (by decide +kernel)
set_option maxRecDepth 20000 in
theorem gX2_setTide_X2_fail : GoodIn wsX2_setTide (wsV RX2 46 RX2 yX2_fail wsX2_fail) := goodIn_app (goodIn_of _ (by decide +kernel)) ggX2_setTide_X2_fail
theorem dX2_setTide_0 : decode cX2_setTide 0 = .ok (.aload_n 0, 1) := by decide +kernel
theorem dX2_setTide_1 : decode cX2_setTide 1 = .ok (.iconst 0, 1) := by decide +kernel
theorem dX2_setTide_2 : decode cX2_setTide 2 = .ok (.putfield 35, 3) := by decide +kernel
theorem dX2_setTide_5 : decode cX2_setTide 5 = .ok (.iload_n 1, 1) := by decide +kernel
theorem dX2_setTide_6 : decode cX2_setTide 6 = .ok (.iconst 0, 1) := by decide +kernel
theorem dX2_setTide_7 : decode cX2_setTide 7 = .ok (.bipush 11, 2) := by decide +kernel
theorem dX2_setTide_9 : decode cX2_setTide 9 = .ok (.invokestatic 42, 3) := by decide +kernel
theorem dX2_setTide_12 : decode cX2_setTide 12 = .ok (.ifCond .ne 9, 3) := by decide +kernel
theorem dX2_setTide_15 : decode cX2_setTide 15 = .ok (.aload_n 0, 1) := by decide +kernel
theorem dX2_setTide_16 : decode cX2_setTide 16 = .ok (.iconst 1, 1) := by decide +kernel
theorem dX2_setTide_17 : decode cX2_setTide 17 = .ok (.invokevirtual 46, 3) := by decide +kernel
theorem dX2_setTide_20 : decode cX2_setTide 20 = .ok (.ireturn, 1) := by decide +kernel
theorem dX2_setTide_21 : decode cX2_setTide 21 = .ok (.iload_n 2, 1) := by decide +kernel
theorem dX2_setTide_22 : decode cX2_setTide 22 = .ok (.iconst 0, 1) := by decide +kernel
theorem dX2_setTide_23 : decode cX2_setTide 23 = .ok (.bipush 30, 2) := by decide +kernel
theorem dX2_setTide_25 : decode cX2_setTide 25 = .ok (.invokestatic 42, 3) := by decide +kernel
theorem dX2_setTide_28 : decode cX2_setTide 28 = .ok (.ifCond .ne 9, 3) := by decide +kernel
theorem dX2_setTide_31 : decode cX2_setTide 31 = .ok (.aload_n 0, 1) := by decide +kernel
theorem dX2_setTide_32 : decode cX2_setTide 32 = .ok (.iconst 2, 1) := by decide +kernel
theorem dX2_setTide_33 : decode cX2_setTide 33 = .ok (.invokevirtual 46, 3) := by decide +kernel
theorem dX2_setTide_36 : decode cX2_setTide 36 = .ok (.ireturn, 1) := by decide +kernel
theorem dX2_setTide_37 : decode cX2_setTide 37 = .ok (.aload_n 0, 1) := by decide +kernel
theorem dX2_setTide_38 : decode cX2_setTide 38 = .ok (.getfield 25, 3) := by decide +kernel
theorem dX2_setTide_41 : decode cX2_setTide 41 = .ok (.iload_n 1, 1) := by decide +kernel
theorem dX2_setTide_42 : decode cX2_setTide 42 = .ok (.iaload, 1) := by decide +kernel
theorem dX2_setTide_43 : decode cX2_setTide 43 = .ok (.istore_n 3, 1) := by decide +kernel
theorem dX2_setTide_44 : decode cX2_setTide 44 = .ok (.aload_n 0, 1) := by decide +kernel
theorem dX2_setTide_45 : decode cX2_setTide 45 = .ok (.getfield 25, 3) := by decide +kernel
theorem dX2_setTide_48 : decode cX2_setTide 48 = .ok (.iload_n 1, 1) := by decide +kernel
theorem dX2_setTide_49 : decode cX2_setTide 49 = .ok (.iload_n 2, 1) := by decide +kernel
theorem dX2_setTide_50 : decode cX2_setTide 50 = .ok (.iastore, 1) := by decide +kernel
theorem dX2_setTide_51 : decode cX2_setTide 51 = .ok (.iload_n 3, 1) := by decide +kernel
theorem dX2_setTide_52 : decode cX2_setTide 52 = .ok (.ireturn, 1) := by decide +kernel
set_option maxRecDepth 20000 in
theorem ggX2_deed_X2_isTeam : GoodIn wsX2_deed wsX2_isTeam := goodIn_r _ [6, 7, 8, 9, 5, 10, 16, 17, 18, 19, 20, 21, 22, 23, 24, 25, 26, 27, 28, 29] (by decide +kernel) (by decide +kernel)
set_option maxRecDepth 20000 in
theorem gX2_deed_X2_isTeam : GoodIn wsX2_deed (wsV RX2 50 RX2 yX2_isTeam wsX2_isTeam) := goodIn_app (goodIn_of _ (by decide +kernel)) ggX2_deed_X2_isTeam
set_option maxRecDepth 20000 in
theorem ggX2_deed_X2_isIn : GoodIn wsX2_deed wsX2_isIn := goodIn_r _ [10] (by decide +kernel) (by decide +kernel)
set_option maxRecDepth 20000 in
theorem gX2_deed_X2_isIn : GoodIn wsX2_deed (va_wsS RX2 42 yX2_isIn wsX2_isIn) := goodIn_app (goodIn_of _ (by decide +kernel)) ggX2_deed_X2_isIn
set_option maxRecDepth 20000 in
theorem ggX2_deed_X2_get : GoodIn wsX2_deed wsX2_get := goodIn_r _ [14, 15, 16, 17, 18, 19, 20, 21, 22, 23, 24, 25, 26, 27, 28, 29] (by decide +kernel) (by decide +kernel)
set_option maxRecDepth 20000 in
theorem gX2_deed_X2_get : GoodIn wsX2_deed (wsV RX2 54 RX2 yX2_get wsX2_get) := goodIn_app (goodIn_of _ (by decide +kernel)) ggX2_deed_X2_get
theorem dX2_deed_0 : decode cX2_deed 0 = .ok (.aload_n 0, 1) := by decide +kernel
theorem dX2_deed_1 : decode cX2_deed 1 = .ok (.aload_n 0, 1) := by decide +kernel
theorem dX2_deed_2 : decode cX2_deed 2 = .ok (.iload_n 1, 1) := by decide +kernel
theorem dX2_deed_3 : decode cX2_deed 3 = .ok (.invokevirtual 50, 3) := by decide +kernel
theorem dX2_deed_6 : decode cX2_deed 6 = .ok (.ifCond .ne 7, 3) := by decide +kernel
theorem dX2_deed_9 : decode cX2_deed 9 = .ok (.iconst 1, 1) := by decide +kernel
theorem dX2_deed_10 : decode cX2_deed 10 = .ok (.goto 56, 3) := by decide +kernel
theorem dX2_deed_13 : decode cX2_deed 13 = .ok (.iload_n 2, 1) := by decide +kernel
theorem dX2_deed_14 : decode cX2_deed 14 = .ok (.iconst 3, 1) := by decide +kernel
theorem dX2_deed_15 : decode cX2_deed 15 = .ok (.iload_n 1, 1) := by decide +kernel
theorem dX2_deed_16 : decode cX2_deed 16 = .ok (.imul, 1) := by decide +kernel
theorem dX2_deed_17 : decode cX2_deed 17 = .ok (.iconst 3, 1) := by decide +kernel
theorem dX2_deed_18 : decode cX2_deed 18 = .ok (.iload_n 1, 1) := by decide +kernel
theorem dX2_deed_19 : decode cX2_deed 19 = .ok (.imul, 1) := by decide +kernel
theorem dX2_deed_20 : decode cX2_deed 20 = .ok (.iconst 2, 1) := by decide +kernel
theorem dX2_deed_21 : decode cX2_deed 21 = .ok (.iadd, 1) := by decide +kernel
theorem dX2_deed_22 : decode cX2_deed 22 = .ok (.invokestatic 42, 3) := by decide +kernel
theorem dX2_deed_25 : decode cX2_deed 25 = .ok (.ifCond .eq 23, 3) := by decide +kernel
theorem dX2_deed_28 : decode cX2_deed 28 = .ok (.iload_n 3, 1) := by decide +kernel
theorem dX2_deed_29 : decode cX2_deed 29 = .ok (.iconst 0, 1) := by decide +kernel
theorem dX2_deed_30 : decode cX2_deed 30 = .ok (.bipush 9, 2) := by decide +kernel
theorem dX2_deed_32 : decode cX2_deed 32 = .ok (.invokestatic 42, 3) := by decide +kernel
theorem dX2_deed_35 : decode cX2_deed 35 = .ok (.ifCond .eq 13, 3) := by decide +kernel
theorem dX2_deed_38 : decode cX2_deed 38 = .ok (.iload 4, 2) := by decide +kernel
theorem dX2_deed_40 : decode cX2_deed 40 = .ok (.iconst 1, 1) := by decide +kernel
theorem dX2_deed_41 : decode cX2_deed 41 = .ok (.iconst 5, 1) := by decide +kernel
theorem dX2_deed_42 : decode cX2_deed 42 = .ok (.invokestatic 42, 3) := by decide +kernel
theorem dX2_deed_45 : decode cX2_deed 45 = .ok (.ifCond .ne 7, 3) := by decide +kernel
theorem dX2_deed_48 : decode cX2_deed 48 = .ok (.iconst 2, 1) := by decide +kernel
theorem dX2_deed_49 : decode cX2_deed 49 = .ok (.goto 17, 3) := by decide +kernel
theorem dX2_deed_52 : decode cX2_deed 52 = .ok (.aload_n 0, 1) := by decide +kernel
theorem dX2_deed_53 : decode cX2_deed 53 = .ok (.iload_n 1, 1) := by decide +kernel
theorem dX2_deed_54 : decode cX2_deed 54 = .ok (.iconst 1, 1) := by decide +kernel
theorem dX2_deed_55 : decode cX2_deed 55 = .ok (.invokevirtual 54, 3) := by decide +kernel
theorem dX2_deed_58 : decode cX2_deed 58 = .ok (.ifCond .ne 7, 3) := by decide +kernel
theorem dX2_deed_61 : decode cX2_deed 61 = .ok (.iconst 3, 1) := by decide +kernel
theorem dX2_deed_62 : decode cX2_deed 62 = .ok (.goto 4, 3) := by decide +kernel
theorem dX2_deed_65 : decode cX2_deed 65 = .ok (.iconst 0, 1) := by decide +kernel
theorem dX2_deed_66 : decode cX2_deed 66 = .ok (.putfield 35, 3) := by decide +kernel
theorem dX2_deed_69 : decode cX2_deed 69 = .ok (.aload_n 0, 1) := by decide +kernel
theorem dX2_deed_70 : decode cX2_deed 70 = .ok (.getfield 35, 3) := by decide +kernel
theorem dX2_deed_73 : decode cX2_deed 73 = .ok (.ifCond .ne 12, 3) := by decide +kernel
theorem dX2_deed_76 : decode cX2_deed 76 = .ok (.iload_n 2, 1) := by decide +kernel
theorem dX2_deed_77 : decode cX2_deed 77 = .ok (.bipush 12, 2) := by decide +kernel
theorem dX2_deed_79 : decode cX2_deed 79 = .ok (.iload_n 3, 1) := by decide +kernel
theorem dX2_deed_80 : decode cX2_deed 80 = .ok (.imul, 1) := by decide +kernel
theorem dX2_deed_81 : decode cX2_deed 81 = .ok (.iadd, 1) := by decide +kernel
theorem dX2_deed_82 : decode cX2_deed 82 = .ok (.goto 4, 3) := by decide +kernel
theorem dX2_deed_85 : decode cX2_deed 85 = .ok (.iconst (-1), 1) := by decide +kernel
theorem dX2_deed_86 : decode cX2_deed 86 = .ok (.ireturn, 1) := by decide +kernel
set_option maxRecDepth 20000 in
theorem ggX2_dig_X2_deed : GoodIn wsX2_dig wsX2_deed := goodIn_r _ [11, 12, 13, 14, 15, 10, 16, 17, 18, 19, 20, 21, 22, 23, 24, 25, 30, 31, 32, 33, 34, 35, 36, 37, 38, 39, 40, 41, 42, 43] (by decide +kernel) (by decide +kernel)
set_option maxRecDepth 20000 in
theorem gX2_dig_X2_deed : GoodIn wsX2_dig (wsV RX2 58 RX2 yX2_deed wsX2_deed) := goodIn_app (goodIn_of _ (by decide +kernel)) ggX2_dig_X2_deed
set_option maxRecDepth 20000 in
theorem ggX2_dig_X2_get : GoodIn wsX2_dig wsX2_get := goodIn_r _ [24, 25, 30, 31, 32, 33, 34, 35, 36, 37, 38, 39, 40, 41, 42, 43] (by decide +kernel) (by decide +kernel)
set_option maxRecDepth 20000 in
theorem gX2_dig_X2_get : GoodIn wsX2_dig (wsV RX2 54 RX2 yX2_get wsX2_get) := goodIn_app (goodIn_of _ (by decide +kernel)) ggX2_dig_X2_get
set_option maxRecDepth 20000 in
theorem ggX2_dig_X2_add : GoodIn wsX2_dig wsX2_add := goodIn_r _ [29, 25, 30, 31, 32, 33, 34, 35, 36, 37, 38, 39, 40, 41, 42, 43] (by decide +kernel) (by decide +kernel)
set_option maxRecDepth 20000 in
theorem gX2_dig_X2_add : GoodIn wsX2_dig (wsV RX2 67 RX2 yX2_add wsX2_add) := goodIn_app (goodIn_of _ (by decide +kernel)) ggX2_dig_X2_add
theorem dX2_dig_0 : decode cX2_dig 0 = .ok (.aload_n 0, 1) := by decide +kernel
theorem dX2_dig_1 : decode cX2_dig 1 = .ok (.iload_n 1, 1) := by decide +kernel
theorem dX2_dig_2 : decode cX2_dig 2 = .ok (.iload_n 2, 1) := by decide +kernel
theorem dX2_dig_3 : decode cX2_dig 3 = .ok (.iload_n 3, 1) := by decide +kernel
theorem dX2_dig_4 : decode cX2_dig 4 = .ok (.iload 4, 2) := by decide +kernel
theorem dX2_dig_6 : decode cX2_dig 6 = .ok (.invokevirtual 58, 3) := by decide +kernel
theorem dX2_dig_9 : decode cX2_dig 9 = .ok (.istore 5, 2) := by decide +kernel
theorem dX2_dig_11 : decode cX2_dig 11 = .ok (.iload 5, 2) := by decide +kernel
theorem dX2_dig_13 : decode cX2_dig 13 = .ok (.iconst (-1), 1) := by decide +kernel
theorem dX2_dig_14 : decode cX2_dig 14 = .ok (.if_icmp .ne 5, 3) := by decide +kernel
theorem dX2_dig_17 : decode cX2_dig 17 = .ok (.iconst 0, 1) := by decide +kernel
theorem dX2_dig_18 : decode cX2_dig 18 = .ok (.ireturn, 1) := by decide +kernel
theorem dX2_dig_19 : decode cX2_dig 19 = .ok (.iload 4, 2) := by decide +kernel
theorem dX2_dig_21 : decode cX2_dig 21 = .ok (.aload_n 0, 1) := by decide +kernel
theorem dX2_dig_22 : decode cX2_dig 22 = .ok (.getfield 9, 3) := by decide +kernel
theorem dX2_dig_25 : decode cX2_dig 25 = .ok (.iload 5, 2) := by decide +kernel
theorem dX2_dig_27 : decode cX2_dig 27 = .ok (.iaload, 1) := by decide +kernel
theorem dX2_dig_28 : decode cX2_dig 28 = .ok (.bipush 40, 2) := by decide +kernel
theorem dX2_dig_30 : decode cX2_dig 30 = .ok (.aload_n 0, 1) := by decide +kernel
theorem dX2_dig_31 : decode cX2_dig 31 = .ok (.iload_n 1, 1) := by decide +kernel
theorem dX2_dig_32 : decode cX2_dig 32 = .ok (.iconst 0, 1) := by decide +kernel
theorem dX2_dig_33 : decode cX2_dig 33 = .ok (.invokevirtual 54, 3) := by decide +kernel
theorem dX2_dig_36 : decode cX2_dig 36 = .ok (.isub, 1) := by decide +kernel
theorem dX2_dig_37 : decode cX2_dig 37 = .ok (.invokestatic 62, 3) := by decide +kernel
theorem dX2_dig_40 : decode cX2_dig 40 = .ok (.invokestatic 62, 3) := by decide +kernel
theorem dX2_dig_43 : decode cX2_dig 43 = .ok (.istore 6, 2) := by decide +kernel
theorem dX2_dig_45 : decode cX2_dig 45 = .ok (.aload_n 0, 1) := by decide +kernel
theorem dX2_dig_46 : decode cX2_dig 46 = .ok (.getfield 9, 3) := by decide +kernel
theorem dX2_dig_49 : decode cX2_dig 49 = .ok (.iload 5, 2) := by decide +kernel
theorem dX2_dig_51 : decode cX2_dig 51 = .ok (.dup2, 1) := by decide +kernel
theorem dX2_dig_52 : decode cX2_dig 52 = .ok (.iaload, 1) := by decide +kernel
theorem dX2_dig_53 : decode cX2_dig 53 = .ok (.iload 6, 2) := by decide +kernel
theorem dX2_dig_55 : decode cX2_dig 55 = .ok (.isub, 1) := by decide +kernel
theorem dX2_dig_56 : decode cX2_dig 56 = .ok (.iastore, 1) := by decide +kernel
theorem dX2_dig_57 : decode cX2_dig 57 = .ok (.aload_n 0, 1) := by decide +kernel
theorem dX2_dig_58 : decode cX2_dig 58 = .ok (.getfield 13, 3) := by decide +kernel
theorem dX2_dig_61 : decode cX2_dig 61 = .ok (.iload 5, 2) := by decide +kernel
theorem dX2_dig_63 : decode cX2_dig 63 = .ok (.iconst 0, 1) := by decide +kernel
theorem dX2_dig_64 : decode cX2_dig 64 = .ok (.iastore, 1) := by decide +kernel
theorem dX2_dig_65 : decode cX2_dig 65 = .ok (.aload_n 0, 1) := by decide +kernel
theorem dX2_dig_66 : decode cX2_dig 66 = .ok (.iload_n 1, 1) := by decide +kernel
theorem dX2_dig_67 : decode cX2_dig 67 = .ok (.iconst 0, 1) := by decide +kernel
theorem dX2_dig_68 : decode cX2_dig 68 = .ok (.iload 6, 2) := by decide +kernel
theorem dX2_dig_70 : decode cX2_dig 70 = .ok (.invokevirtual 67, 3) := by decide +kernel
theorem dX2_dig_73 : decode cX2_dig 73 = .ok (.aload_n 0, 1) := by decide +kernel
theorem dX2_dig_74 : decode cX2_dig 74 = .ok (.iload_n 1, 1) := by decide +kernel
theorem dX2_dig_75 : decode cX2_dig 75 = .ok (.iconst 1, 1) := by decide +kernel
theorem dX2_dig_76 : decode cX2_dig 76 = .ok (.iconst (-1), 1) := by decide +kernel
theorem dX2_dig_77 : decode cX2_dig 77 = .ok (.invokevirtual 67, 3) := by decide +kernel
theorem dX2_dig_80 : decode cX2_dig 80 = .ok (.iload 6, 2) := by decide +kernel
theorem dX2_dig_82 : decode cX2_dig 82 = .ok (.ireturn, 1) := by decide +kernel
set_option maxRecDepth 20000 in
theorem ggX2_pile_X2_deed : GoodIn wsX2_pile wsX2_deed := goodIn_r _ [14, 15, 16, 17, 18, 13, 19, 20, 21, 22, 23, 24, 25, 26, 27, 28, 33, 34, 35, 36, 37, 38, 39, 40, 41, 42, 43, 44, 45, 46] (by decide +kernel) (by decide +kernel)
set_option maxRecDepth 20000 in
theorem gX2_pile_X2_deed : GoodIn wsX2_pile (wsV RX2 58 RX2 yX2_deed wsX2_deed) := goodIn_app (goodIn_of _ (by decide +kernel)) ggX2_pile_X2_deed
set_option maxRecDepth 20000 in
theorem ggX2_pile_X2_get : GoodIn wsX2_pile wsX2_get := goodIn_r _ [27, 28, 33, 34, 35, 36, 37, 38, 39, 40, 41, 42, 43, 44, 45, 46] (by decide +kernel) (by decide +kernel)
set_option maxRecDepth 20000 in
theorem gX2_pile_X2_get : GoodIn wsX2_pile (wsV RX2 54 RX2 yX2_get wsX2_get) := goodIn_app (goodIn_of _ (by decide +kernel)) ggX2_pile_X2_get
set_option maxRecDepth 20000 in
theorem ggX2_pile_X2_add : GoodIn wsX2_pile wsX2_add := goodIn_r _ [32, 28, 33, 34, 35, 36, 37, 38, 39, 40, 41, 42, 43, 44, 45, 46] (by decide +kernel) (by decide +kernel)
set_option maxRecDepth 20000 in
theorem gX2_pile_X2_add : GoodIn wsX2_pile (wsV RX2 67 RX2 yX2_add wsX2_add) := goodIn_app (goodIn_of _ (by decide +kernel)) ggX2_pile_X2_add
theorem dX2_pile_0 : decode cX2_pile 0 = .ok (.aload_n 0, 1) := by decide +kernel
theorem dX2_pile_1 : decode cX2_pile 1 = .ok (.iload_n 1, 1) := by decide +kernel
theorem dX2_pile_2 : decode cX2_pile 2 = .ok (.iload_n 2, 1) := by decide +kernel
theorem dX2_pile_3 : decode cX2_pile 3 = .ok (.iload_n 3, 1) := by decide +kernel
theorem dX2_pile_4 : decode cX2_pile 4 = .ok (.iload 4, 2) := by decide +kernel
theorem dX2_pile_6 : decode cX2_pile 6 = .ok (.invokevirtual 58, 3) := by decide +kernel
theorem dX2_pile_9 : decode cX2_pile 9 = .ok (.istore 5, 2) := by decide +kernel
theorem dX2_pile_11 : decode cX2_pile 11 = .ok (.iload 5, 2) := by decide +kernel
theorem dX2_pile_13 : decode cX2_pile 13 = .ok (.iconst (-1), 1) := by decide +kernel
theorem dX2_pile_14 : decode cX2_pile 14 = .ok (.if_icmp .ne 5, 3) := by decide +kernel
theorem dX2_pile_17 : decode cX2_pile 17 = .ok (.iconst 0, 1) := by decide +kernel
theorem dX2_pile_18 : decode cX2_pile 18 = .ok (.ireturn, 1) := by decide +kernel
theorem dX2_pile_19 : decode cX2_pile 19 = .ok (.iload 4, 2) := by decide +kernel
theorem dX2_pile_21 : decode cX2_pile 21 = .ok (.aload_n 0, 1) := by decide +kernel
theorem dX2_pile_22 : decode cX2_pile 22 = .ok (.iload_n 1, 1) := by decide +kernel
theorem dX2_pile_23 : decode cX2_pile 23 = .ok (.iconst 0, 1) := by decide +kernel
theorem dX2_pile_24 : decode cX2_pile 24 = .ok (.invokevirtual 54, 3) := by decide +kernel
theorem dX2_pile_27 : decode cX2_pile 27 = .ok (.bipush 20, 2) := by decide +kernel
theorem dX2_pile_29 : decode cX2_pile 29 = .ok (.aload_n 0, 1) := by decide +kernel
theorem dX2_pile_30 : decode cX2_pile 30 = .ok (.getfield 9, 3) := by decide +kernel
theorem dX2_pile_33 : decode cX2_pile 33 = .ok (.iload 5, 2) := by decide +kernel
theorem dX2_pile_35 : decode cX2_pile 35 = .ok (.iaload, 1) := by decide +kernel
theorem dX2_pile_36 : decode cX2_pile 36 = .ok (.isub, 1) := by decide +kernel
theorem dX2_pile_37 : decode cX2_pile 37 = .ok (.invokestatic 62, 3) := by decide +kernel
theorem dX2_pile_40 : decode cX2_pile 40 = .ok (.invokestatic 62, 3) := by decide +kernel
theorem dX2_pile_43 : decode cX2_pile 43 = .ok (.istore 6, 2) := by decide +kernel
theorem dX2_pile_45 : decode cX2_pile 45 = .ok (.aload_n 0, 1) := by decide +kernel
theorem dX2_pile_46 : decode cX2_pile 46 = .ok (.getfield 9, 3) := by decide +kernel
theorem dX2_pile_49 : decode cX2_pile 49 = .ok (.iload 5, 2) := by decide +kernel
theorem dX2_pile_51 : decode cX2_pile 51 = .ok (.dup2, 1) := by decide +kernel
theorem dX2_pile_52 : decode cX2_pile 52 = .ok (.iaload, 1) := by decide +kernel
theorem dX2_pile_53 : decode cX2_pile 53 = .ok (.iload 6, 2) := by decide +kernel
theorem dX2_pile_55 : decode cX2_pile 55 = .ok (.iadd, 1) := by decide +kernel
theorem dX2_pile_56 : decode cX2_pile 56 = .ok (.iastore, 1) := by decide +kernel
theorem dX2_pile_57 : decode cX2_pile 57 = .ok (.iload 6, 2) := by decide +kernel
theorem dX2_pile_59 : decode cX2_pile 59 = .ok (.ifCond .le 23, 3) := by decide +kernel
theorem dX2_pile_62 : decode cX2_pile 62 = .ok (.aload_n 0, 1) := by decide +kernel
theorem dX2_pile_63 : decode cX2_pile 63 = .ok (.getfield 13, 3) := by decide +kernel
theorem dX2_pile_66 : decode cX2_pile 66 = .ok (.iload 5, 2) := by decide +kernel
theorem dX2_pile_68 : decode cX2_pile 68 = .ok (.iconst 0, 1) := by decide +kernel
theorem dX2_pile_69 : decode cX2_pile 69 = .ok (.aload_n 0, 1) := by decide +kernel
theorem dX2_pile_70 : decode cX2_pile 70 = .ok (.getfield 13, 3) := by decide +kernel
theorem dX2_pile_73 : decode cX2_pile 73 = .ok (.iload 5, 2) := by decide +kernel
theorem dX2_pile_75 : decode cX2_pile 75 = .ok (.iaload, 1) := by decide +kernel
theorem dX2_pile_76 : decode cX2_pile 76 = .ok (.iconst 1, 1) := by decide +kernel
theorem dX2_pile_77 : decode cX2_pile 77 = .ok (.isub, 1) := by decide +kernel
theorem dX2_pile_78 : decode cX2_pile 78 = .ok (.invokestatic 71, 3) := by decide +kernel
theorem dX2_pile_81 : decode cX2_pile 81 = .ok (.iastore, 1) := by decide +kernel
theorem dX2_pile_82 : decode cX2_pile 82 = .ok (.aload_n 0, 1) := by decide +kernel
theorem dX2_pile_83 : decode cX2_pile 83 = .ok (.iload_n 1, 1) := by decide +kernel
theorem dX2_pile_84 : decode cX2_pile 84 = .ok (.iconst 0, 1) := by decide +kernel
theorem dX2_pile_85 : decode cX2_pile 85 = .ok (.iload 6, 2) := by decide +kernel
theorem dX2_pile_87 : decode cX2_pile 87 = .ok (.ineg, 1) := by decide +kernel
theorem dX2_pile_88 : decode cX2_pile 88 = .ok (.invokevirtual 67, 3) := by decide +kernel
theorem dX2_pile_91 : decode cX2_pile 91 = .ok (.aload_n 0, 1) := by decide +kernel
theorem dX2_pile_92 : decode cX2_pile 92 = .ok (.iload_n 1, 1) := by decide +kernel
theorem dX2_pile_93 : decode cX2_pile 93 = .ok (.iconst 1, 1) := by decide +kernel
theorem dX2_pile_94 : decode cX2_pile 94 = .ok (.iconst (-1), 1) := by decide +kernel
theorem dX2_pile_95 : decode cX2_pile 95 = .ok (.invokevirtual 67, 3) := by decide +kernel
theorem dX2_pile_98 : decode cX2_pile 98 = .ok (.iload 6, 2) := by decide +kernel
theorem dX2_pile_100 : decode cX2_pile 100 = .ok (.ireturn, 1) := by decide +kernel
set_option maxRecDepth 20000 in
theorem ggX2_pack_X2_deed : GoodIn wsX2_pack wsX2_deed := goodIn_r _ [12, 13, 14, 15, 16, 11, 17, 18, 19, 20, 21, 22, 23, 24, 25, 26, 31, 32, 33, 34, 35, 36, 37, 38, 39, 40, 41, 42, 43, 44] (by decide +kernel) (by decide +kernel)
set_option maxRecDepth 20000 in
theorem gX2_pack_X2_deed : GoodIn wsX2_pack (wsV RX2 58 RX2 yX2_deed wsX2_deed) := goodIn_app (goodIn_of _ (by decide +kernel)) ggX2_pack_X2_deed
set_option maxRecDepth 20000 in
theorem ggX2_pack_X2_add : GoodIn wsX2_pack wsX2_add := goodIn_r _ [30, 26, 31, 32, 33, 34, 35, 36, 37, 38, 39, 40, 41, 42, 43, 44] (by decide +kernel) (by decide +kernel)
set_option maxRecDepth 20000 in
theorem gX2_pack_X2_add : GoodIn wsX2_pack (wsV RX2 67 RX2 yX2_add wsX2_add) := goodIn_app (goodIn_of _ (by decide +kernel)) ggX2_pack_X2_add
theorem dX2_pack_0 : decode cX2_pack 0 = .ok (.aload_n 0, 1) := by decide +kernel
theorem dX2_pack_1 : decode cX2_pack 1 = .ok (.iload_n 1, 1) := by decide +kernel
theorem dX2_pack_2 : decode cX2_pack 2 = .ok (.iload_n 2, 1) := by decide +kernel
theorem dX2_pack_3 : decode cX2_pack 3 = .ok (.iload_n 3, 1) := by decide +kernel
theorem dX2_pack_4 : decode cX2_pack 4 = .ok (.iconst 1, 1) := by decide +kernel
theorem dX2_pack_5 : decode cX2_pack 5 = .ok (.invokevirtual 58, 3) := by decide +kernel
theorem dX2_pack_8 : decode cX2_pack 8 = .ok (.istore 4, 2) := by decide +kernel
theorem dX2_pack_10 : decode cX2_pack 10 = .ok (.iload 4, 2) := by decide +kernel
theorem dX2_pack_12 : decode cX2_pack 12 = .ok (.iconst (-1), 1) := by decide +kernel
theorem dX2_pack_13 : decode cX2_pack 13 = .ok (.if_icmp .ne 5, 3) := by decide +kernel
theorem dX2_pack_16 : decode cX2_pack 16 = .ok (.iconst 0, 1) := by decide +kernel
theorem dX2_pack_17 : decode cX2_pack 17 = .ok (.ireturn, 1) := by decide +kernel
theorem dX2_pack_18 : decode cX2_pack 18 = .ok (.aload_n 0, 1) := by decide +kernel
theorem dX2_pack_19 : decode cX2_pack 19 = .ok (.getfield 9, 3) := by decide +kernel
theorem dX2_pack_22 : decode cX2_pack 22 = .ok (.iload 4, 2) := by decide +kernel
theorem dX2_pack_24 : decode cX2_pack 24 = .ok (.iaload, 1) := by decide +kernel
theorem dX2_pack_25 : decode cX2_pack 25 = .ok (.ifCond .le 33, 3) := by decide +kernel
theorem dX2_pack_28 : decode cX2_pack 28 = .ok (.aload_n 0, 1) := by decide +kernel
theorem dX2_pack_29 : decode cX2_pack 29 = .ok (.getfield 16, 3) := by decide +kernel
theorem dX2_pack_32 : decode cX2_pack 32 = .ok (.iload 4, 2) := by decide +kernel
theorem dX2_pack_34 : decode cX2_pack 34 = .ok (.iaload, 1) := by decide +kernel
theorem dX2_pack_35 : decode cX2_pack 35 = .ok (.ifCond .ne 23, 3) := by decide +kernel
theorem dX2_pack_38 : decode cX2_pack 38 = .ok (.aload_n 0, 1) := by decide +kernel
theorem dX2_pack_39 : decode cX2_pack 39 = .ok (.getfield 13, 3) := by decide +kernel
theorem dX2_pack_42 : decode cX2_pack 42 = .ok (.iload 4, 2) := by decide +kernel
theorem dX2_pack_44 : decode cX2_pack 44 = .ok (.iconst 5, 1) := by decide +kernel
theorem dX2_pack_45 : decode cX2_pack 45 = .ok (.aload_n 0, 1) := by decide +kernel
theorem dX2_pack_46 : decode cX2_pack 46 = .ok (.getfield 13, 3) := by decide +kernel
theorem dX2_pack_49 : decode cX2_pack 49 = .ok (.iload 4, 2) := by decide +kernel
theorem dX2_pack_51 : decode cX2_pack 51 = .ok (.iaload, 1) := by decide +kernel
theorem dX2_pack_52 : decode cX2_pack 52 = .ok (.iconst 1, 1) := by decide +kernel
theorem dX2_pack_53 : decode cX2_pack 53 = .ok (.iadd, 1) := by decide +kernel
theorem dX2_pack_54 : decode cX2_pack 54 = .ok (.invokestatic 62, 3) := by decide +kernel
theorem dX2_pack_57 : decode cX2_pack 57 = .ok (.iastore, 1) := by decide +kernel
theorem dX2_pack_58 : decode cX2_pack 58 = .ok (.aload_n 0, 1) := by decide +kernel
theorem dX2_pack_59 : decode cX2_pack 59 = .ok (.iload_n 1, 1) := by decide +kernel
theorem dX2_pack_60 : decode cX2_pack 60 = .ok (.iconst 1, 1) := by decide +kernel
theorem dX2_pack_61 : decode cX2_pack 61 = .ok (.iconst (-1), 1) := by decide +kernel
theorem dX2_pack_62 : decode cX2_pack 62 = .ok (.invokevirtual 67, 3) := by decide +kernel
theorem dX2_pack_65 : decode cX2_pack 65 = .ok (.aload_n 0, 1) := by decide +kernel
theorem dX2_pack_66 : decode cX2_pack 66 = .ok (.getfield 13, 3) := by decide +kernel
theorem dX2_pack_69 : decode cX2_pack 69 = .ok (.iload 4, 2) := by decide +kernel
theorem dX2_pack_71 : decode cX2_pack 71 = .ok (.iaload, 1) := by decide +kernel
theorem dX2_pack_72 : decode cX2_pack 72 = .ok (.ireturn, 1) := by decide +kernel
set_option maxRecDepth 20000 in
theorem ggX2_sticksOf_X2_teamOf : GoodIn wsX2_sticksOf wsX2_teamOf := goodIn_r _ [5] (by decide +kernel) (by decide +kernel)
set_option maxRecDepth 20000 in
theorem gX2_sticksOf_X2_teamOf : GoodIn wsX2_sticksOf (va_wsS RX2 74 yX2_teamOf wsX2_teamOf) := goodIn_app (goodIn_of _ (by decide +kernel)) ggX2_sticksOf_X2_teamOf
theorem dX2_sticksOf_0 : decode cX2_sticksOf 0 = .ok (.iconst 0, 1) := by decide +kernel
theorem dX2_sticksOf_1 : decode cX2_sticksOf 1 = .ok (.istore_n 2, 1) := by decide +kernel
theorem dX2_sticksOf_2 : decode cX2_sticksOf 2 = .ok (.iconst 0, 1) := by decide +kernel
theorem dX2_sticksOf_3 : decode cX2_sticksOf 3 = .ok (.istore_n 3, 1) := by decide +kernel
theorem dX2_sticksOf_4 : decode cX2_sticksOf 4 = .ok (.iload_n 3, 1) := by decide +kernel
theorem dX2_sticksOf_5 : decode cX2_sticksOf 5 = .ok (.bipush 120, 2) := by decide +kernel
theorem dX2_sticksOf_7 : decode cX2_sticksOf 7 = .ok (.if_icmp .ge 39, 3) := by decide +kernel
theorem dX2_sticksOf_10 : decode cX2_sticksOf 10 = .ok (.iload_n 2, 1) := by decide +kernel
theorem dX2_sticksOf_11 : decode cX2_sticksOf 11 = .ok (.aload_n 0, 1) := by decide +kernel
theorem dX2_sticksOf_12 : decode cX2_sticksOf 12 = .ok (.getfield 19, 3) := by decide +kernel
theorem dX2_sticksOf_15 : decode cX2_sticksOf 15 = .ok (.iload_n 3, 1) := by decide +kernel
theorem dX2_sticksOf_16 : decode cX2_sticksOf 16 = .ok (.iaload, 1) := by decide +kernel
theorem dX2_sticksOf_17 : decode cX2_sticksOf 17 = .ok (.ifCond .le 20, 3) := by decide +kernel
theorem dX2_sticksOf_20 : decode cX2_sticksOf 20 = .ok (.iload_n 1, 1) := by decide +kernel
theorem dX2_sticksOf_21 : decode cX2_sticksOf 21 = .ok (.iconst (-1), 1) := by decide +kernel
theorem dX2_sticksOf_22 : decode cX2_sticksOf 22 = .ok (.if_icmp .eq 11, 3) := by decide +kernel
theorem dX2_sticksOf_25 : decode cX2_sticksOf 25 = .ok (.iload_n 3, 1) := by decide +kernel
theorem dX2_sticksOf_26 : decode cX2_sticksOf 26 = .ok (.invokestatic 74, 3) := by decide +kernel
theorem dX2_sticksOf_29 : decode cX2_sticksOf 29 = .ok (.iload_n 1, 1) := by decide +kernel
theorem dX2_sticksOf_30 : decode cX2_sticksOf 30 = .ok (.if_icmp .ne 7, 3) := by decide +kernel
theorem dX2_sticksOf_33 : decode cX2_sticksOf 33 = .ok (.iconst 1, 1) := by decide +kernel
theorem dX2_sticksOf_34 : decode cX2_sticksOf 34 = .ok (.goto 4, 3) := by decide +kernel
theorem dX2_sticksOf_37 : decode cX2_sticksOf 37 = .ok (.iconst 0, 1) := by decide +kernel
theorem dX2_sticksOf_38 : decode cX2_sticksOf 38 = .ok (.iadd, 1) := by decide +kernel
theorem dX2_sticksOf_39 : decode cX2_sticksOf 39 = .ok (.istore_n 2, 1) := by decide +kernel
theorem dX2_sticksOf_40 : decode cX2_sticksOf 40 = .ok (.iinc 3 1, 3) := by decide +kernel
theorem dX2_sticksOf_43 : decode cX2_sticksOf 43 = .ok (.goto (-39), 3) := by decide +kernel
theorem dX2_sticksOf_46 : decode cX2_sticksOf 46 = .ok (.iload_n 2, 1) := by decide +kernel
theorem dX2_sticksOf_47 : decode cX2_sticksOf 47 = .ok (.ireturn, 1) := by decide +kernel
set_option maxRecDepth 20000 in
theorem ggX2_plant_X2_deed : GoodIn wsX2_plant wsX2_deed := goodIn_r _ [7, 8, 9, 10, 11, 6, 12, 13, 14, 15, 16, 17, 18, 19, 20, 21, 42, 43, 44, 45, 46, 47, 48, 49, 50, 51, 52, 53, 54, 55] (by decide +kernel) (by decide +kernel)
set_option maxRecDepth 20000 in
theorem gX2_plant_X2_deed : GoodIn wsX2_plant (wsV RX2 58 RX2 yX2_deed wsX2_deed) := goodIn_app (goodIn_of _ (by decide +kernel)) ggX2_plant_X2_deed
set_option maxRecDepth 20000 in
theorem ggX2_plant_X2_sticksOf : GoodIn wsX2_plant wsX2_sticksOf := goodIn_r _ [25, 1, 26, 27, 6, 28, 42, 43, 44, 45, 46, 47, 48, 49, 50, 51, 52, 53, 54, 55] (by decide +kernel) (by decide +kernel)
set_option maxRecDepth 20000 in
theorem gX2_plant_X2_sticksOf : GoodIn wsX2_plant (wsV RX2 77 RX2 yX2_sticksOf wsX2_sticksOf) := goodIn_app (goodIn_of _ (by decide +kernel)) ggX2_plant_X2_sticksOf
set_option maxRecDepth 20000 in
theorem ggX2_plant_X2_fail : GoodIn wsX2_plant wsX2_fail := goodIn_r _ [32, 8, 42, 43, 44, 45, 46, 47, 48, 49, 50, 51, 52, 53, 54, 55] (by decide +kernel) (by decide +kernel)
set_option maxRecDepth 20000 in
theorem gX2_plant_X2_fail : GoodIn wsX2_plant (wsV RX2 46 RX2 yX2_fail wsX2_fail) := goodIn_app (goodIn_of _ (by decide +kernel)) ggX2_plant_X2_fail
set_option maxRecDepth 20000 in
theorem ggX2_plant_X2_height : GoodIn wsX2_plant wsX2_height := goodIn_r _ [36, 37, 42, 43, 44, 45, 46, 47, 48, 49, 50, 51, 52, 53, 54, 55] (by decide +kernel) (by decide +kernel)
set_option maxRecDepth 20000 in
theorem gX2_plant_X2_height : GoodIn wsX2_plant (wsV RX2 80 RX2 yX2_height wsX2_height) := goodIn_app (goodIn_of _ (by decide +kernel)) ggX2_plant_X2_height
set_option maxRecDepth 20000 in
theorem ggX2_plant_X2_add : GoodIn wsX2_plant wsX2_add := goodIn_r _ [41, 21, 42, 43, 44, 45, 46, 47, 48, 49, 50, 51, 52, 53, 54, 55] (by decide +kernel) (by decide +kernel)
set_option maxRecDepth 20000 in
theorem gX2_plant_X2_add : GoodIn wsX2_plant (wsV RX2 67 RX2 yX2_add wsX2_add) := goodIn_app (goodIn_of _ (by decide +kernel)) ggX2_plant_X2_add
theorem dX2_plant_0 : decode cX2_plant 0 = .ok (.aload_n 0, 1) := by decide +kernel
theorem dX2_plant_1 : decode cX2_plant 1 = .ok (.iload_n 1, 1) := by decide +kernel
theorem dX2_plant_2 : decode cX2_plant 2 = .ok (.iload_n 2, 1) := by decide +kernel
theorem dX2_plant_3 : decode cX2_plant 3 = .ok (.iload_n 3, 1) := by decide +kernel
theorem dX2_plant_4 : decode cX2_plant 4 = .ok (.iconst 1, 1) := by decide +kernel
theorem dX2_plant_5 : decode cX2_plant 5 = .ok (.invokevirtual 58, 3) := by decide +kernel
theorem dX2_plant_8 : decode cX2_plant 8 = .ok (.istore 4, 2) := by decide +kernel
theorem dX2_plant_10 : decode cX2_plant 10 = .ok (.iload 4, 2) := by decide +kernel
theorem dX2_plant_12 : decode cX2_plant 12 = .ok (.iconst (-1), 1) := by decide +kernel
theorem dX2_plant_13 : decode cX2_plant 13 = .ok (.if_icmp .ne 5, 3) := by decide +kernel
theorem dX2_plant_16 : decode cX2_plant 16 = .ok (.iconst 0, 1) := by decide +kernel
theorem dX2_plant_17 : decode cX2_plant 17 = .ok (.ireturn, 1) := by decide +kernel
theorem dX2_plant_18 : decode cX2_plant 18 = .ok (.aload_n 0, 1) := by decide +kernel
theorem dX2_plant_19 : decode cX2_plant 19 = .ok (.iload_n 1, 1) := by decide +kernel
theorem dX2_plant_20 : decode cX2_plant 20 = .ok (.invokevirtual 77, 3) := by decide +kernel
theorem dX2_plant_23 : decode cX2_plant 23 = .ok (.iconst 3, 1) := by decide +kernel
theorem dX2_plant_24 : decode cX2_plant 24 = .ok (.if_icmp .eq 24, 3) := by decide +kernel
theorem dX2_plant_27 : decode cX2_plant 27 = .ok (.aload_n 0, 1) := by decide +kernel
theorem dX2_plant_28 : decode cX2_plant 28 = .ok (.getfield 19, 3) := by decide +kernel
theorem dX2_plant_31 : decode cX2_plant 31 = .ok (.iload 4, 2) := by decide +kernel
theorem dX2_plant_33 : decode cX2_plant 33 = .ok (.iaload, 1) := by decide +kernel
theorem dX2_plant_34 : decode cX2_plant 34 = .ok (.ifCond .gt 14, 3) := by decide +kernel
theorem dX2_plant_37 : decode cX2_plant 37 = .ok (.aload_n 0, 1) := by decide +kernel
theorem dX2_plant_38 : decode cX2_plant 38 = .ok (.getfield 16, 3) := by decide +kernel
theorem dX2_plant_41 : decode cX2_plant 41 = .ok (.iload 4, 2) := by decide +kernel
theorem dX2_plant_43 : decode cX2_plant 43 = .ok (.iaload, 1) := by decide +kernel
theorem dX2_plant_44 : decode cX2_plant 44 = .ok (.iconst 1, 1) := by decide +kernel
theorem dX2_plant_45 : decode cX2_plant 45 = .ok (.if_icmp .ne 9, 3) := by decide +kernel
theorem dX2_plant_48 : decode cX2_plant 48 = .ok (.aload_n 0, 1) := by decide +kernel
theorem dX2_plant_49 : decode cX2_plant 49 = .ok (.iconst 3, 1) := by decide +kernel
theorem dX2_plant_50 : decode cX2_plant 50 = .ok (.invokevirtual 46, 3) := by decide +kernel
theorem dX2_plant_53 : decode cX2_plant 53 = .ok (.ireturn, 1) := by decide +kernel
theorem dX2_plant_54 : decode cX2_plant 54 = .ok (.aload_n 0, 1) := by decide +kernel
theorem dX2_plant_55 : decode cX2_plant 55 = .ok (.getfield 19, 3) := by decide +kernel
theorem dX2_plant_58 : decode cX2_plant 58 = .ok (.iload 4, 2) := by decide +kernel
theorem dX2_plant_60 : decode cX2_plant 60 = .ok (.aload_n 0, 1) := by decide +kernel
theorem dX2_plant_61 : decode cX2_plant 61 = .ok (.iload 4, 2) := by decide +kernel
theorem dX2_plant_63 : decode cX2_plant 63 = .ok (.invokevirtual 80, 3) := by decide +kernel
theorem dX2_plant_66 : decode cX2_plant 66 = .ok (.iconst 1, 1) := by decide +kernel
theorem dX2_plant_67 : decode cX2_plant 67 = .ok (.iadd, 1) := by decide +kernel
theorem dX2_plant_68 : decode cX2_plant 68 = .ok (.iastore, 1) := by decide +kernel
theorem dX2_plant_69 : decode cX2_plant 69 = .ok (.aload_n 0, 1) := by decide +kernel
theorem dX2_plant_70 : decode cX2_plant 70 = .ok (.iload_n 1, 1) := by decide +kernel
theorem dX2_plant_71 : decode cX2_plant 71 = .ok (.iconst 1, 1) := by decide +kernel
theorem dX2_plant_72 : decode cX2_plant 72 = .ok (.iconst (-1), 1) := by decide +kernel
theorem dX2_plant_73 : decode cX2_plant 73 = .ok (.invokevirtual 67, 3) := by decide +kernel
theorem dX2_plant_76 : decode cX2_plant 76 = .ok (.aload_n 0, 1) := by decide +kernel
theorem dX2_plant_77 : decode cX2_plant 77 = .ok (.iload_n 1, 1) := by decide +kernel
theorem dX2_plant_78 : decode cX2_plant 78 = .ok (.invokevirtual 77, 3) := by decide +kernel
theorem dX2_plant_81 : decode cX2_plant 81 = .ok (.ireturn, 1) := by decide +kernel
set_option maxRecDepth 20000 in
theorem ggX2_cellTold_X2_height : GoodIn wsX2_cellTold wsX2_height := goodIn_r _ [13, 1, 14, 15, 16, 17, 18, 19, 20, 21, 22, 23, 24, 25, 26, 27] (by decide +kernel) (by decide +kernel)
set_option maxRecDepth 20000 in
theorem gX2_cellTold_X2_height : GoodIn wsX2_cellTold (wsV RX2 80 RX2 yX2_height wsX2_height) := goodIn_app (goodIn_of _ (by decide +kernel)) ggX2_cellTold_X2_height
theorem dX2_cellTold_0 : decode cX2_cellTold 0 = .ok (.iload_n 2, 1) := by decide +kernel
theorem dX2_cellTold_1 : decode cX2_cellTold 1 = .ok (.tableswitch 77 0 4 #[35, 42, 49, 55, 62], 35) := by decide +kernel
theorem dX2_cellTold_36 : decode cX2_cellTold 36 = .ok (.aload_n 0, 1) := by decide +kernel
theorem dX2_cellTold_37 : decode cX2_cellTold 37 = .ok (.getfield 9, 3) := by decide +kernel
theorem dX2_cellTold_40 : decode cX2_cellTold 40 = .ok (.iload_n 1, 1) := by decide +kernel
theorem dX2_cellTold_41 : decode cX2_cellTold 41 = .ok (.iaload, 1) := by decide +kernel
theorem dX2_cellTold_42 : decode cX2_cellTold 42 = .ok (.ireturn, 1) := by decide +kernel
theorem dX2_cellTold_43 : decode cX2_cellTold 43 = .ok (.aload_n 0, 1) := by decide +kernel
theorem dX2_cellTold_44 : decode cX2_cellTold 44 = .ok (.getfield 13, 3) := by decide +kernel
theorem dX2_cellTold_47 : decode cX2_cellTold 47 = .ok (.iload_n 1, 1) := by decide +kernel
theorem dX2_cellTold_48 : decode cX2_cellTold 48 = .ok (.iaload, 1) := by decide +kernel
theorem dX2_cellTold_49 : decode cX2_cellTold 49 = .ok (.ireturn, 1) := by decide +kernel
theorem dX2_cellTold_50 : decode cX2_cellTold 50 = .ok (.aload_n 0, 1) := by decide +kernel
theorem dX2_cellTold_51 : decode cX2_cellTold 51 = .ok (.iload_n 1, 1) := by decide +kernel
theorem dX2_cellTold_52 : decode cX2_cellTold 52 = .ok (.invokevirtual 80, 3) := by decide +kernel
theorem dX2_cellTold_55 : decode cX2_cellTold 55 = .ok (.ireturn, 1) := by decide +kernel
theorem dX2_cellTold_56 : decode cX2_cellTold 56 = .ok (.aload_n 0, 1) := by decide +kernel
theorem dX2_cellTold_57 : decode cX2_cellTold 57 = .ok (.getfield 16, 3) := by decide +kernel
theorem dX2_cellTold_60 : decode cX2_cellTold 60 = .ok (.iload_n 1, 1) := by decide +kernel
theorem dX2_cellTold_61 : decode cX2_cellTold 61 = .ok (.iaload, 1) := by decide +kernel
theorem dX2_cellTold_62 : decode cX2_cellTold 62 = .ok (.ireturn, 1) := by decide +kernel
theorem dX2_cellTold_63 : decode cX2_cellTold 63 = .ok (.aload_n 0, 1) := by decide +kernel
theorem dX2_cellTold_64 : decode cX2_cellTold 64 = .ok (.getfield 19, 3) := by decide +kernel
theorem dX2_cellTold_67 : decode cX2_cellTold 67 = .ok (.iload_n 1, 1) := by decide +kernel
theorem dX2_cellTold_68 : decode cX2_cellTold 68 = .ok (.iaload, 1) := by decide +kernel
theorem dX2_cellTold_69 : decode cX2_cellTold 69 = .ok (.ifCond .le 7, 3) := by decide +kernel
theorem dX2_cellTold_72 : decode cX2_cellTold 72 = .ok (.iconst 1, 1) := by decide +kernel
theorem dX2_cellTold_73 : decode cX2_cellTold 73 = .ok (.goto 4, 3) := by decide +kernel
theorem dX2_cellTold_76 : decode cX2_cellTold 76 = .ok (.iconst 0, 1) := by decide +kernel
theorem dX2_cellTold_77 : decode cX2_cellTold 77 = .ok (.ireturn, 1) := by decide +kernel
theorem dX2_cellTold_78 : decode cX2_cellTold 78 = .ok (.iconst 0, 1) := by decide +kernel
theorem dX2_cellTold_79 : decode cX2_cellTold 79 = .ok (.aload_n 0, 1) := by decide +kernel
theorem dX2_cellTold_80 : decode cX2_cellTold 80 = .ok (.getfield 19, 3) := by decide +kernel
theorem dX2_cellTold_83 : decode cX2_cellTold 83 = .ok (.iload_n 1, 1) := by decide +kernel
theorem dX2_cellTold_84 : decode cX2_cellTold 84 = .ok (.iaload, 1) := by decide +kernel
theorem dX2_cellTold_85 : decode cX2_cellTold 85 = .ok (.iconst 1, 1) := by decide +kernel
theorem dX2_cellTold_86 : decode cX2_cellTold 86 = .ok (.isub, 1) := by decide +kernel
theorem dX2_cellTold_87 : decode cX2_cellTold 87 = .ok (.invokestatic 71, 3) := by decide +kernel
theorem dX2_cellTold_90 : decode cX2_cellTold 90 = .ok (.ireturn, 1) := by decide +kernel
set_option maxRecDepth 20000 in
theorem ggX2_cell_X2_isIn : GoodIn wsX2_cell wsX2_isIn := goodIn_r _ [5] (by decide +kernel) (by decide +kernel)
set_option maxRecDepth 20000 in
theorem gX2_cell_X2_isIn : GoodIn wsX2_cell (va_wsS RX2 42 yX2_isIn wsX2_isIn) := goodIn_app (goodIn_of _ (by decide +kernel)) ggX2_cell_X2_isIn
set_option maxRecDepth 20000 in
theorem ggX2_cell_X2_cellTold : GoodIn wsX2_cell wsX2_cellTold := goodIn_r _ [9, 10, 11, 12, 13, 14, 15, 16, 17, 18, 19, 20, 4, 21, 26, 27, 28, 29, 30, 31, 32, 33, 34, 35, 36, 37, 38, 39] (by decide +kernel) (by decide +kernel)
set_option maxRecDepth 20000 in
theorem gX2_cell_X2_cellTold : GoodIn wsX2_cell (wsV RX2 83 RX2 yX2_cellTold wsX2_cellTold) := goodIn_app (goodIn_of _ (by decide +kernel)) ggX2_cell_X2_cellTold
set_option maxRecDepth 20000 in
theorem ggX2_cell_X2_fail : GoodIn wsX2_cell wsX2_fail := goodIn_r _ [25, 1, 26, 27, 28, 29, 30, 31, 32, 33, 34, 35, 36, 37, 38, 39] (by decide +kernel) (by decide +kernel)
set_option maxRecDepth 20000 in
theorem gX2_cell_X2_fail : GoodIn wsX2_cell (wsV RX2 46 RX2 yX2_fail wsX2_fail) := goodIn_app (goodIn_of _ (by decide +kernel)) ggX2_cell_X2_fail
theorem dX2_cell_0 : decode cX2_cell 0 = .ok (.aload_n 0, 1) := by decide +kernel
theorem dX2_cell_1 : decode cX2_cell 1 = .ok (.iconst 0, 1) := by decide +kernel
theorem dX2_cell_2 : decode cX2_cell 2 = .ok (.putfield 35, 3) := by decide +kernel
theorem dX2_cell_5 : decode cX2_cell 5 = .ok (.iload_n 1, 1) := by decide +kernel
theorem dX2_cell_6 : decode cX2_cell 6 = .ok (.iconst 0, 1) := by decide +kernel
theorem dX2_cell_7 : decode cX2_cell 7 = .ok (.bipush 11, 2) := by decide +kernel
theorem dX2_cell_9 : decode cX2_cell 9 = .ok (.invokestatic 42, 3) := by decide +kernel
theorem dX2_cell_12 : decode cX2_cell 12 = .ok (.ifCond .eq 36, 3) := by decide +kernel
theorem dX2_cell_15 : decode cX2_cell 15 = .ok (.iload_n 2, 1) := by decide +kernel
theorem dX2_cell_16 : decode cX2_cell 16 = .ok (.iconst 0, 1) := by decide +kernel
theorem dX2_cell_17 : decode cX2_cell 17 = .ok (.bipush 9, 2) := by decide +kernel
theorem dX2_cell_19 : decode cX2_cell 19 = .ok (.invokestatic 42, 3) := by decide +kernel
theorem dX2_cell_22 : decode cX2_cell 22 = .ok (.ifCond .eq 26, 3) := by decide +kernel
theorem dX2_cell_25 : decode cX2_cell 25 = .ok (.iload_n 3, 1) := by decide +kernel
theorem dX2_cell_26 : decode cX2_cell 26 = .ok (.iconst 0, 1) := by decide +kernel
theorem dX2_cell_27 : decode cX2_cell 27 = .ok (.iconst 5, 1) := by decide +kernel
theorem dX2_cell_28 : decode cX2_cell 28 = .ok (.invokestatic 42, 3) := by decide +kernel
theorem dX2_cell_31 : decode cX2_cell 31 = .ok (.ifCond .eq 17, 3) := by decide +kernel
theorem dX2_cell_34 : decode cX2_cell 34 = .ok (.aload_n 0, 1) := by decide +kernel
theorem dX2_cell_35 : decode cX2_cell 35 = .ok (.iload_n 1, 1) := by decide +kernel
theorem dX2_cell_36 : decode cX2_cell 36 = .ok (.bipush 12, 2) := by decide +kernel
theorem dX2_cell_38 : decode cX2_cell 38 = .ok (.iload_n 2, 1) := by decide +kernel
theorem dX2_cell_39 : decode cX2_cell 39 = .ok (.imul, 1) := by decide +kernel
theorem dX2_cell_40 : decode cX2_cell 40 = .ok (.iadd, 1) := by decide +kernel
theorem dX2_cell_41 : decode cX2_cell 41 = .ok (.iload_n 3, 1) := by decide +kernel
theorem dX2_cell_42 : decode cX2_cell 42 = .ok (.invokevirtual 83, 3) := by decide +kernel
theorem dX2_cell_45 : decode cX2_cell 45 = .ok (.goto 8, 3) := by decide +kernel
theorem dX2_cell_48 : decode cX2_cell 48 = .ok (.aload_n 0, 1) := by decide +kernel
theorem dX2_cell_49 : decode cX2_cell 49 = .ok (.iconst 1, 1) := by decide +kernel
theorem dX2_cell_50 : decode cX2_cell 50 = .ok (.invokevirtual 46, 3) := by decide +kernel
theorem dX2_cell_53 : decode cX2_cell 53 = .ok (.ireturn, 1) := by decide +kernel
set_option maxRecDepth 20000 in
theorem ggX2_areaOf_X2_teamOf : GoodIn wsX2_areaOf wsX2_teamOf := goodIn_r _ [10] (by decide +kernel) (by decide +kernel)
set_option maxRecDepth 20000 in
theorem gX2_areaOf_X2_teamOf : GoodIn wsX2_areaOf (va_wsS RX2 74 yX2_teamOf wsX2_teamOf) := goodIn_app (goodIn_of _ (by decide +kernel)) ggX2_areaOf_X2_teamOf
set_option maxRecDepth 20000 in
theorem ggX2_areaOf_X2_height : GoodIn wsX2_areaOf wsX2_height := goodIn_r _ [14, 5, 15, 16, 17, 18, 19, 20, 21, 22, 23, 24, 25, 26, 27, 28] (by decide +kernel) (by decide +kernel)
set_option maxRecDepth 20000 in
theorem gX2_areaOf_X2_height : GoodIn wsX2_areaOf (wsV RX2 80 RX2 yX2_height wsX2_height) := goodIn_app (goodIn_of _ (by decide +kernel)) ggX2_areaOf_X2_height
theorem dX2_areaOf_0 : decode cX2_areaOf 0 = .ok (.iconst 0, 1) := by decide +kernel
theorem dX2_areaOf_1 : decode cX2_areaOf 1 = .ok (.istore_n 3, 1) := by decide +kernel
theorem dX2_areaOf_2 : decode cX2_areaOf 2 = .ok (.iconst 0, 1) := by decide +kernel
theorem dX2_areaOf_3 : decode cX2_areaOf 3 = .ok (.istore 4, 2) := by decide +kernel
theorem dX2_areaOf_5 : decode cX2_areaOf 5 = .ok (.iload 4, 2) := by decide +kernel
theorem dX2_areaOf_7 : decode cX2_areaOf 7 = .ok (.bipush 120, 2) := by decide +kernel
theorem dX2_areaOf_9 : decode cX2_areaOf 9 = .ok (.if_icmp .ge 69, 3) := by decide +kernel
theorem dX2_areaOf_12 : decode cX2_areaOf 12 = .ok (.iload_n 1, 1) := by decide +kernel
theorem dX2_areaOf_13 : decode cX2_areaOf 13 = .ok (.iconst (-1), 1) := by decide +kernel
theorem dX2_areaOf_14 : decode cX2_areaOf 14 = .ok (.if_icmp .eq 15, 3) := by decide +kernel
theorem dX2_areaOf_17 : decode cX2_areaOf 17 = .ok (.iload 4, 2) := by decide +kernel
theorem dX2_areaOf_19 : decode cX2_areaOf 19 = .ok (.invokestatic 74, 3) := by decide +kernel
theorem dX2_areaOf_22 : decode cX2_areaOf 22 = .ok (.iload_n 1, 1) := by decide +kernel
theorem dX2_areaOf_23 : decode cX2_areaOf 23 = .ok (.if_icmp .eq 6, 3) := by decide +kernel
theorem dX2_areaOf_26 : decode cX2_areaOf 26 = .ok (.goto 46, 3) := by decide +kernel
theorem dX2_areaOf_29 : decode cX2_areaOf 29 = .ok (.iload_n 2, 1) := by decide +kernel
theorem dX2_areaOf_30 : decode cX2_areaOf 30 = .ok (.iconst 5, 1) := by decide +kernel
theorem dX2_areaOf_31 : decode cX2_areaOf 31 = .ok (.if_icmp .ne 16, 3) := by decide +kernel
theorem dX2_areaOf_34 : decode cX2_areaOf 34 = .ok (.iload_n 3, 1) := by decide +kernel
theorem dX2_areaOf_35 : decode cX2_areaOf 35 = .ok (.aload_n 0, 1) := by decide +kernel
theorem dX2_areaOf_36 : decode cX2_areaOf 36 = .ok (.iload 4, 2) := by decide +kernel
theorem dX2_areaOf_38 : decode cX2_areaOf 38 = .ok (.invokevirtual 80, 3) := by decide +kernel
theorem dX2_areaOf_41 : decode cX2_areaOf 41 = .ok (.invokestatic 71, 3) := by decide +kernel
theorem dX2_areaOf_44 : decode cX2_areaOf 44 = .ok (.goto 27, 3) := by decide +kernel
theorem dX2_areaOf_47 : decode cX2_areaOf 47 = .ok (.iload_n 3, 1) := by decide +kernel
theorem dX2_areaOf_48 : decode cX2_areaOf 48 = .ok (.iload_n 2, 1) := by decide +kernel
theorem dX2_areaOf_49 : decode cX2_areaOf 49 = .ok (.iconst 4, 1) := by decide +kernel
theorem dX2_areaOf_50 : decode cX2_areaOf 50 = .ok (.if_icmp .ne 13, 3) := by decide +kernel
theorem dX2_areaOf_53 : decode cX2_areaOf 53 = .ok (.aload_n 0, 1) := by decide +kernel
theorem dX2_areaOf_54 : decode cX2_areaOf 54 = .ok (.getfield 9, 3) := by decide +kernel
theorem dX2_areaOf_57 : decode cX2_areaOf 57 = .ok (.iload 4, 2) := by decide +kernel
theorem dX2_areaOf_59 : decode cX2_areaOf 59 = .ok (.iaload, 1) := by decide +kernel
theorem dX2_areaOf_60 : decode cX2_areaOf 60 = .ok (.goto 10, 3) := by decide +kernel
theorem dX2_areaOf_63 : decode cX2_areaOf 63 = .ok (.aload_n 0, 1) := by decide +kernel
theorem dX2_areaOf_64 : decode cX2_areaOf 64 = .ok (.getfield 16, 3) := by decide +kernel
theorem dX2_areaOf_67 : decode cX2_areaOf 67 = .ok (.iload 4, 2) := by decide +kernel
theorem dX2_areaOf_69 : decode cX2_areaOf 69 = .ok (.iaload, 1) := by decide +kernel
theorem dX2_areaOf_70 : decode cX2_areaOf 70 = .ok (.iadd, 1) := by decide +kernel
theorem dX2_areaOf_71 : decode cX2_areaOf 71 = .ok (.istore_n 3, 1) := by decide +kernel
theorem dX2_areaOf_72 : decode cX2_areaOf 72 = .ok (.iinc 4 1, 3) := by decide +kernel
theorem dX2_areaOf_75 : decode cX2_areaOf 75 = .ok (.goto (-70), 3) := by decide +kernel
theorem dX2_areaOf_78 : decode cX2_areaOf 78 = .ok (.iload_n 3, 1) := by decide +kernel
theorem dX2_areaOf_79 : decode cX2_areaOf 79 = .ok (.ireturn, 1) := by decide +kernel
set_option maxRecDepth 20000 in
theorem ggX2_teamTold_X2_get : GoodIn wsX2_teamTold wsX2_get := goodIn_r _ [5, 6, 29, 30, 31, 32, 33, 34, 35, 36, 37, 38, 39, 40, 41, 42] (by decide +kernel) (by decide +kernel)
set_option maxRecDepth 20000 in
theorem gX2_teamTold_X2_get : GoodIn wsX2_teamTold (wsV RX2 54 RX2 yX2_get wsX2_get) := goodIn_app (goodIn_of _ (by decide +kernel)) ggX2_teamTold_X2_get
set_option maxRecDepth 20000 in
theorem ggX2_teamTold_X2_sticksOf : GoodIn wsX2_teamTold wsX2_sticksOf := goodIn_r _ [10, 11, 12, 13, 4, 14, 29, 30, 31, 32, 33, 34, 35, 36, 37, 38, 39, 40, 41, 42] (by decide +kernel) (by decide +kernel)
set_option maxRecDepth 20000 in
theorem gX2_teamTold_X2_sticksOf : GoodIn wsX2_teamTold (wsV RX2 77 RX2 yX2_sticksOf wsX2_sticksOf) := goodIn_app (goodIn_of _ (by decide +kernel)) ggX2_teamTold_X2_sticksOf
set_option maxRecDepth 20000 in
theorem ggX2_teamTold_X2_areaOf : GoodIn wsX2_teamTold wsX2_areaOf := goodIn_r _ [18, 19, 20, 21, 22, 23, 24, 12, 13, 4, 14, 25, 26, 27, 28, 29, 30, 31, 32, 33, 34, 35, 36, 37, 38, 39, 40, 41, 42] (by decide +kernel) (by decide +kernel)
set_option maxRecDepth 20000 in
theorem gX2_teamTold_X2_areaOf : GoodIn wsX2_teamTold (wsV RX2 86 RX2 yX2_areaOf wsX2_areaOf) := goodIn_app (goodIn_of _ (by decide +kernel)) ggX2_teamTold_X2_areaOf
theorem dX2_teamTold_0 : decode cX2_teamTold 0 = .ok (.iload_n 2, 1) := by decide +kernel
theorem dX2_teamTold_1 : decode cX2_teamTold 1 = .ok (.iconst 3, 1) := by decide +kernel
theorem dX2_teamTold_2 : decode cX2_teamTold 2 = .ok (.if_icmp .ge 10, 3) := by decide +kernel
theorem dX2_teamTold_5 : decode cX2_teamTold 5 = .ok (.aload_n 0, 1) := by decide +kernel
theorem dX2_teamTold_6 : decode cX2_teamTold 6 = .ok (.iload_n 1, 1) := by decide +kernel
theorem dX2_teamTold_7 : decode cX2_teamTold 7 = .ok (.iload_n 2, 1) := by decide +kernel
theorem dX2_teamTold_8 : decode cX2_teamTold 8 = .ok (.invokevirtual 54, 3) := by decide +kernel
theorem dX2_teamTold_11 : decode cX2_teamTold 11 = .ok (.ireturn, 1) := by decide +kernel
theorem dX2_teamTold_12 : decode cX2_teamTold 12 = .ok (.iload_n 2, 1) := by decide +kernel
theorem dX2_teamTold_13 : decode cX2_teamTold 13 = .ok (.iconst 3, 1) := by decide +kernel
theorem dX2_teamTold_14 : decode cX2_teamTold 14 = .ok (.if_icmp .ne 11, 3) := by decide +kernel
theorem dX2_teamTold_17 : decode cX2_teamTold 17 = .ok (.aload_n 0, 1) := by decide +kernel
theorem dX2_teamTold_18 : decode cX2_teamTold 18 = .ok (.iload_n 1, 1) := by decide +kernel
theorem dX2_teamTold_19 : decode cX2_teamTold 19 = .ok (.invokevirtual 77, 3) := by decide +kernel
theorem dX2_teamTold_22 : decode cX2_teamTold 22 = .ok (.goto 24, 3) := by decide +kernel
theorem dX2_teamTold_25 : decode cX2_teamTold 25 = .ok (.iload_n 2, 1) := by decide +kernel
theorem dX2_teamTold_26 : decode cX2_teamTold 26 = .ok (.bipush 7, 2) := by decide +kernel
theorem dX2_teamTold_28 : decode cX2_teamTold 28 = .ok (.if_icmp .ne 12, 3) := by decide +kernel
theorem dX2_teamTold_31 : decode cX2_teamTold 31 = .ok (.aload_n 0, 1) := by decide +kernel
theorem dX2_teamTold_32 : decode cX2_teamTold 32 = .ok (.iload_n 1, 1) := by decide +kernel
theorem dX2_teamTold_33 : decode cX2_teamTold 33 = .ok (.iconst 3, 1) := by decide +kernel
theorem dX2_teamTold_34 : decode cX2_teamTold 34 = .ok (.invokevirtual 54, 3) := by decide +kernel
theorem dX2_teamTold_37 : decode cX2_teamTold 37 = .ok (.goto 9, 3) := by decide +kernel
theorem dX2_teamTold_40 : decode cX2_teamTold 40 = .ok (.aload_n 0, 1) := by decide +kernel
theorem dX2_teamTold_41 : decode cX2_teamTold 41 = .ok (.iload_n 1, 1) := by decide +kernel
theorem dX2_teamTold_42 : decode cX2_teamTold 42 = .ok (.iload_n 2, 1) := by decide +kernel
theorem dX2_teamTold_43 : decode cX2_teamTold 43 = .ok (.invokevirtual 86, 3) := by decide +kernel
theorem dX2_teamTold_46 : decode cX2_teamTold 46 = .ok (.ireturn, 1) := by decide +kernel
set_option maxRecDepth 20000 in
theorem ggX2_team_X2_isTeam : GoodIn wsX2_team wsX2_isTeam := goodIn_r _ [6, 7, 8, 9, 5, 10, 46, 47, 48, 49, 50, 51, 52, 53, 54, 55, 56, 57, 58, 59] (by decide +kernel) (by decide +kernel)
set_option maxRecDepth 20000 in
theorem gX2_team_X2_isTeam : GoodIn wsX2_team (wsV RX2 50 RX2 yX2_isTeam wsX2_isTeam) := goodIn_app (goodIn_of _ (by decide +kernel)) ggX2_team_X2_isTeam
set_option maxRecDepth 20000 in
theorem ggX2_team_X2_isIn : GoodIn wsX2_team wsX2_isIn := goodIn_r _ [10] (by decide +kernel) (by decide +kernel)
set_option maxRecDepth 20000 in
theorem gX2_team_X2_isIn : GoodIn wsX2_team (va_wsS RX2 42 yX2_isIn wsX2_isIn) := goodIn_app (goodIn_of _ (by decide +kernel)) ggX2_team_X2_isIn
set_option maxRecDepth 20000 in
theorem ggX2_team_X2_teamTold : GoodIn wsX2_team wsX2_teamTold := goodIn_r _ [14, 15, 16, 17, 5, 18, 19, 20, 21, 22, 23, 24, 25, 26, 27, 28, 29, 30, 31, 32, 33, 34, 35, 36, 37, 38, 39, 40, 41, 46, 47, 48, 49, 50, 51, 52, 53, 54, 55, 56, 57, 58, 59] (by decide +kernel) (by decide +kernel)
set_option maxRecDepth 20000 in
theorem gX2_team_X2_teamTold : GoodIn wsX2_team (wsV RX2 89 RX2 yX2_teamTold wsX2_teamTold) := goodIn_app (goodIn_of _ (by decide +kernel)) ggX2_team_X2_teamTold
set_option maxRecDepth 20000 in
theorem ggX2_team_X2_fail : GoodIn wsX2_team wsX2_fail := goodIn_r _ [45, 1, 46, 47, 48, 49, 50, 51, 52, 53, 54, 55, 56, 57, 58, 59] (by decide +kernel) (by decide +kernel)
set_option maxRecDepth 20000 in
theorem gX2_team_X2_fail : GoodIn wsX2_team (wsV RX2 46 RX2 yX2_fail wsX2_fail) := goodIn_app (goodIn_of _ (by decide +kernel)) ggX2_team_X2_fail
theorem dX2_team_0 : decode cX2_team 0 = .ok (.aload_n 0, 1) := by decide +kernel
theorem dX2_team_1 : decode cX2_team 1 = .ok (.iconst 0, 1) := by decide +kernel
theorem dX2_team_2 : decode cX2_team 2 = .ok (.putfield 35, 3) := by decide +kernel
theorem dX2_team_5 : decode cX2_team 5 = .ok (.aload_n 0, 1) := by decide +kernel
theorem dX2_team_6 : decode cX2_team 6 = .ok (.iload_n 1, 1) := by decide +kernel
theorem dX2_team_7 : decode cX2_team 7 = .ok (.invokevirtual 50, 3) := by decide +kernel
theorem dX2_team_10 : decode cX2_team 10 = .ok (.ifCond .eq 22, 3) := by decide +kernel
theorem dX2_team_13 : decode cX2_team 13 = .ok (.iload_n 2, 1) := by decide +kernel
theorem dX2_team_14 : decode cX2_team 14 = .ok (.iconst 0, 1) := by decide +kernel
theorem dX2_team_15 : decode cX2_team 15 = .ok (.bipush 7, 2) := by decide +kernel
theorem dX2_team_17 : decode cX2_team 17 = .ok (.invokestatic 42, 3) := by decide +kernel
theorem dX2_team_20 : decode cX2_team 20 = .ok (.ifCond .eq 12, 3) := by decide +kernel
theorem dX2_team_23 : decode cX2_team 23 = .ok (.aload_n 0, 1) := by decide +kernel
theorem dX2_team_24 : decode cX2_team 24 = .ok (.iload_n 1, 1) := by decide +kernel
theorem dX2_team_25 : decode cX2_team 25 = .ok (.iload_n 2, 1) := by decide +kernel
theorem dX2_team_26 : decode cX2_team 26 = .ok (.invokevirtual 89, 3) := by decide +kernel
theorem dX2_team_29 : decode cX2_team 29 = .ok (.goto 8, 3) := by decide +kernel
theorem dX2_team_32 : decode cX2_team 32 = .ok (.aload_n 0, 1) := by decide +kernel
theorem dX2_team_33 : decode cX2_team 33 = .ok (.iconst 1, 1) := by decide +kernel
theorem dX2_team_34 : decode cX2_team 34 = .ok (.invokevirtual 46, 3) := by decide +kernel
theorem dX2_team_37 : decode cX2_team 37 = .ok (.ireturn, 1) := by decide +kernel
set_option maxRecDepth 20000 in
theorem ggX2_counted_X2_areaOf : GoodIn wsX2_counted wsX2_areaOf := goodIn_r _ [11, 12, 13, 14, 15, 16, 17, 18, 19, 10, 20, 21, 22, 23, 24, 30, 31, 32, 33, 34, 35, 36, 37, 38, 39, 40, 41, 42, 43] (by decide +kernel) (by decide +kernel)
set_option maxRecDepth 20000 in
theorem gX2_counted_X2_areaOf : GoodIn wsX2_counted (wsV RX2 86 RX2 yX2_areaOf wsX2_areaOf) := goodIn_app (goodIn_of _ (by decide +kernel)) ggX2_counted_X2_areaOf
set_option maxRecDepth 20000 in
theorem ggX2_counted_X2_sticksOf : GoodIn wsX2_counted wsX2_sticksOf := goodIn_r _ [28, 29, 18, 19, 10, 20, 30, 31, 32, 33, 34, 35, 36, 37, 38, 39, 40, 41, 42, 43] (by decide +kernel) (by decide +kernel)
set_option maxRecDepth 20000 in
theorem gX2_counted_X2_sticksOf : GoodIn wsX2_counted (wsV RX2 77 RX2 yX2_sticksOf wsX2_sticksOf) := goodIn_app (goodIn_of _ (by decide +kernel)) ggX2_counted_X2_sticksOf
theorem dX2_counted_0 : decode cX2_counted 0 = .ok (.iload_n 1, 1) := by decide +kernel
theorem dX2_counted_1 : decode cX2_counted 1 = .ok (.tableswitch 93 0 7 #[47, 52, 57, 65, 72, 77, 82, 88], 47) := by decide +kernel
theorem dX2_counted_48 : decode cX2_counted 48 = .ok (.aload_n 0, 1) := by decide +kernel
theorem dX2_counted_49 : decode cX2_counted 49 = .ok (.getfield 92, 3) := by decide +kernel
theorem dX2_counted_52 : decode cX2_counted 52 = .ok (.ireturn, 1) := by decide +kernel
theorem dX2_counted_53 : decode cX2_counted 53 = .ok (.aload_n 0, 1) := by decide +kernel
theorem dX2_counted_54 : decode cX2_counted 54 = .ok (.getfield 39, 3) := by decide +kernel
theorem dX2_counted_57 : decode cX2_counted 57 = .ok (.ireturn, 1) := by decide +kernel
theorem dX2_counted_58 : decode cX2_counted 58 = .ok (.aload_n 0, 1) := by decide +kernel
theorem dX2_counted_59 : decode cX2_counted 59 = .ok (.iconst (-1), 1) := by decide +kernel
theorem dX2_counted_60 : decode cX2_counted 60 = .ok (.bipush 6, 2) := by decide +kernel
theorem dX2_counted_62 : decode cX2_counted 62 = .ok (.invokevirtual 86, 3) := by decide +kernel
theorem dX2_counted_65 : decode cX2_counted 65 = .ok (.ireturn, 1) := by decide +kernel
theorem dX2_counted_66 : decode cX2_counted 66 = .ok (.aload_n 0, 1) := by decide +kernel
theorem dX2_counted_67 : decode cX2_counted 67 = .ok (.iconst (-1), 1) := by decide +kernel
theorem dX2_counted_68 : decode cX2_counted 68 = .ok (.iconst 4, 1) := by decide +kernel
theorem dX2_counted_69 : decode cX2_counted 69 = .ok (.invokevirtual 86, 3) := by decide +kernel
theorem dX2_counted_72 : decode cX2_counted 72 = .ok (.ireturn, 1) := by decide +kernel
theorem dX2_counted_73 : decode cX2_counted 73 = .ok (.aload_n 0, 1) := by decide +kernel
theorem dX2_counted_74 : decode cX2_counted 74 = .ok (.getfield 95, 3) := by decide +kernel
theorem dX2_counted_77 : decode cX2_counted 77 = .ok (.ireturn, 1) := by decide +kernel
theorem dX2_counted_78 : decode cX2_counted 78 = .ok (.aload_n 0, 1) := by decide +kernel
theorem dX2_counted_79 : decode cX2_counted 79 = .ok (.getfield 98, 3) := by decide +kernel
theorem dX2_counted_82 : decode cX2_counted 82 = .ok (.ireturn, 1) := by decide +kernel
theorem dX2_counted_83 : decode cX2_counted 83 = .ok (.aload_n 0, 1) := by decide +kernel
theorem dX2_counted_84 : decode cX2_counted 84 = .ok (.iconst (-1), 1) := by decide +kernel
theorem dX2_counted_85 : decode cX2_counted 85 = .ok (.invokevirtual 77, 3) := by decide +kernel
theorem dX2_counted_88 : decode cX2_counted 88 = .ok (.ireturn, 1) := by decide +kernel
theorem dX2_counted_89 : decode cX2_counted 89 = .ok (.aload_n 0, 1) := by decide +kernel
theorem dX2_counted_90 : decode cX2_counted 90 = .ok (.getfield 101, 3) := by decide +kernel
theorem dX2_counted_93 : decode cX2_counted 93 = .ok (.ireturn, 1) := by decide +kernel
theorem dX2_counted_94 : decode cX2_counted 94 = .ok (.aload_n 0, 1) := by decide +kernel
theorem dX2_counted_95 : decode cX2_counted 95 = .ok (.getfield 104, 3) := by decide +kernel
theorem dX2_counted_98 : decode cX2_counted 98 = .ok (.ireturn, 1) := by decide +kernel
set_option maxRecDepth 20000 in
theorem ggX2_count_X2_isIn : GoodIn wsX2_count wsX2_isIn := goodIn_r _ [5] (by decide +kernel) (by decide +kernel)
set_option maxRecDepth 20000 in
theorem gX2_count_X2_isIn : GoodIn wsX2_count (va_wsS RX2 42 yX2_isIn wsX2_isIn) := goodIn_app (goodIn_of _ (by decide +kernel)) ggX2_count_X2_isIn
set_option maxRecDepth 20000 in
theorem ggX2_count_X2_counted : GoodIn wsX2_count wsX2_counted := goodIn_r _ [9, 10, 11, 12, 13, 14, 15, 16, 17, 18, 4, 19, 20, 21, 22, 23, 24, 25, 26, 27, 28, 29, 30, 31, 32, 33, 34, 35, 36, 37, 42, 43, 44, 45, 46, 47, 48, 49, 50, 51, 52, 53, 54, 55] (by decide +kernel) (by decide +kernel)
set_option maxRecDepth 20000 in
theorem gX2_count_X2_counted : GoodIn wsX2_count (wsV RX2 107 RX2 yX2_counted wsX2_counted) := goodIn_app (goodIn_of _ (by decide +kernel)) ggX2_count_X2_counted
set_option maxRecDepth 20000 in
theorem ggX2_count_X2_fail : GoodIn wsX2_count wsX2_fail := goodIn_r _ [41, 1, 42, 43, 44, 45, 46, 47, 48, 49, 50, 51, 52, 53, 54, 55] (by decide +kernel) (by decide +kernel)
set_option maxRecDepth 20000 in
theorem gX2_count_X2_fail : GoodIn wsX2_count (wsV RX2 46 RX2 yX2_fail wsX2_fail) := goodIn_app (goodIn_of _ (by decide +kernel)) ggX2_count_X2_fail
theorem dX2_count_0 : decode cX2_count 0 = .ok (.aload_n 0, 1) := by decide +kernel
theorem dX2_count_1 : decode cX2_count 1 = .ok (.iconst 0, 1) := by decide +kernel
theorem dX2_count_2 : decode cX2_count 2 = .ok (.putfield 35, 3) := by decide +kernel
theorem dX2_count_5 : decode cX2_count 5 = .ok (.iload_n 1, 1) := by decide +kernel
theorem dX2_count_6 : decode cX2_count 6 = .ok (.iconst 0, 1) := by decide +kernel
theorem dX2_count_7 : decode cX2_count 7 = .ok (.bipush 8, 2) := by decide +kernel
theorem dX2_count_9 : decode cX2_count 9 = .ok (.invokestatic 42, 3) := by decide +kernel
theorem dX2_count_12 : decode cX2_count 12 = .ok (.ifCond .eq 11, 3) := by decide +kernel
theorem dX2_count_15 : decode cX2_count 15 = .ok (.aload_n 0, 1) := by decide +kernel
theorem dX2_count_16 : decode cX2_count 16 = .ok (.iload_n 1, 1) := by decide +kernel
theorem dX2_count_17 : decode cX2_count 17 = .ok (.invokevirtual 107, 3) := by decide +kernel
theorem dX2_count_20 : decode cX2_count 20 = .ok (.goto 8, 3) := by decide +kernel
theorem dX2_count_23 : decode cX2_count 23 = .ok (.aload_n 0, 1) := by decide +kernel
theorem dX2_count_24 : decode cX2_count 24 = .ok (.iconst 1, 1) := by decide +kernel
theorem dX2_count_25 : decode cX2_count 25 = .ok (.invokevirtual 46, 3) := by decide +kernel
theorem dX2_count_28 : decode cX2_count 28 = .ok (.ireturn, 1) := by decide +kernel
set_option maxRecDepth 20000 in
theorem ggX2_findOver_X2_height : GoodIn wsX2_findOver wsX2_height := goodIn_r _ [10, 11, 15, 16, 17, 18, 19, 20, 21, 22, 23, 24, 25, 26, 27, 28] (by decide +kernel) (by decide +kernel)
set_option maxRecDepth 20000 in
theorem gX2_findOver_X2_height : GoodIn wsX2_findOver (wsV RX2 80 RX2 yX2_height wsX2_height) := goodIn_app (goodIn_of _ (by decide +kernel)) ggX2_findOver_X2_height
set_option maxRecDepth 20000 in
theorem ggX2_findOver_X2_beside : GoodIn wsX2_findOver wsX2_beside := goodIn_r _ [14] (by decide +kernel) (by decide +kernel)
set_option maxRecDepth 20000 in
theorem gX2_findOver_X2_beside : GoodIn wsX2_findOver (va_wsS RX2 110 yX2_beside wsX2_beside) := goodIn_app (goodIn_of _ (by decide +kernel)) ggX2_findOver_X2_beside
theorem dX2_findOver_0 : decode cX2_findOver 0 = .ok (.iconst 0, 1) := by decide +kernel
theorem dX2_findOver_1 : decode cX2_findOver 1 = .ok (.istore_n 1, 1) := by decide +kernel
theorem dX2_findOver_2 : decode cX2_findOver 2 = .ok (.iload_n 1, 1) := by decide +kernel
theorem dX2_findOver_3 : decode cX2_findOver 3 = .ok (.bipush 120, 2) := by decide +kernel
theorem dX2_findOver_5 : decode cX2_findOver 5 = .ok (.if_icmp .ge 31, 3) := by decide +kernel
theorem dX2_findOver_8 : decode cX2_findOver 8 = .ok (.aload_n 0, 1) := by decide +kernel
theorem dX2_findOver_9 : decode cX2_findOver 9 = .ok (.getfield 28, 3) := by decide +kernel
theorem dX2_findOver_12 : decode cX2_findOver 12 = .ok (.iload_n 1, 1) := by decide +kernel
theorem dX2_findOver_13 : decode cX2_findOver 13 = .ok (.iload_n 1, 1) := by decide +kernel
theorem dX2_findOver_14 : decode cX2_findOver 14 = .ok (.bipush 12, 2) := by decide +kernel
theorem dX2_findOver_16 : decode cX2_findOver 16 = .ok (.if_icmp .ge 11, 3) := by decide +kernel
theorem dX2_findOver_19 : decode cX2_findOver 19 = .ok (.aload_n 0, 1) := by decide +kernel
theorem dX2_findOver_20 : decode cX2_findOver 20 = .ok (.iload_n 1, 1) := by decide +kernel
theorem dX2_findOver_21 : decode cX2_findOver 21 = .ok (.invokevirtual 80, 3) := by decide +kernel
theorem dX2_findOver_24 : decode cX2_findOver 24 = .ok (.goto 5, 3) := by decide +kernel
theorem dX2_findOver_27 : decode cX2_findOver 27 = .ok (.bipush 99, 2) := by decide +kernel
theorem dX2_findOver_29 : decode cX2_findOver 29 = .ok (.iastore, 1) := by decide +kernel
theorem dX2_findOver_30 : decode cX2_findOver 30 = .ok (.iinc 1 1, 3) := by decide +kernel
theorem dX2_findOver_33 : decode cX2_findOver 33 = .ok (.goto (-31), 3) := by decide +kernel
theorem dX2_findOver_36 : decode cX2_findOver 36 = .ok (.iconst 1, 1) := by decide +kernel
theorem dX2_findOver_37 : decode cX2_findOver 37 = .ok (.istore_n 1, 1) := by decide +kernel
theorem dX2_findOver_38 : decode cX2_findOver 38 = .ok (.iload_n 1, 1) := by decide +kernel
theorem dX2_findOver_39 : decode cX2_findOver 39 = .ok (.ifCond .eq 98, 3) := by decide +kernel
theorem dX2_findOver_42 : decode cX2_findOver 42 = .ok (.iconst 0, 1) := by decide +kernel
theorem dX2_findOver_43 : decode cX2_findOver 43 = .ok (.istore_n 1, 1) := by decide +kernel
theorem dX2_findOver_44 : decode cX2_findOver 44 = .ok (.iconst 0, 1) := by decide +kernel
theorem dX2_findOver_45 : decode cX2_findOver 45 = .ok (.istore_n 2, 1) := by decide +kernel
theorem dX2_findOver_46 : decode cX2_findOver 46 = .ok (.iload_n 2, 1) := by decide +kernel
theorem dX2_findOver_47 : decode cX2_findOver 47 = .ok (.bipush 120, 2) := by decide +kernel
theorem dX2_findOver_49 : decode cX2_findOver 49 = .ok (.if_icmp .ge 85, 3) := by decide +kernel
theorem dX2_findOver_52 : decode cX2_findOver 52 = .ok (.iconst 0, 1) := by decide +kernel
theorem dX2_findOver_53 : decode cX2_findOver 53 = .ok (.istore_n 3, 1) := by decide +kernel
theorem dX2_findOver_54 : decode cX2_findOver 54 = .ok (.iload_n 3, 1) := by decide +kernel
theorem dX2_findOver_55 : decode cX2_findOver 55 = .ok (.iconst 4, 1) := by decide +kernel
theorem dX2_findOver_56 : decode cX2_findOver 56 = .ok (.if_icmp .ge 72, 3) := by decide +kernel
theorem dX2_findOver_59 : decode cX2_findOver 59 = .ok (.iload_n 2, 1) := by decide +kernel
theorem dX2_findOver_60 : decode cX2_findOver 60 = .ok (.iload_n 3, 1) := by decide +kernel
theorem dX2_findOver_61 : decode cX2_findOver 61 = .ok (.invokestatic 110, 3) := by decide +kernel
theorem dX2_findOver_64 : decode cX2_findOver 64 = .ok (.istore 4, 2) := by decide +kernel
theorem dX2_findOver_66 : decode cX2_findOver 66 = .ok (.iload 4, 2) := by decide +kernel
theorem dX2_findOver_68 : decode cX2_findOver 68 = .ok (.iconst (-1), 1) := by decide +kernel
theorem dX2_findOver_69 : decode cX2_findOver 69 = .ok (.if_icmp .eq 53, 3) := by decide +kernel
theorem dX2_findOver_72 : decode cX2_findOver 72 = .ok (.aload_n 0, 1) := by decide +kernel
theorem dX2_findOver_73 : decode cX2_findOver 73 = .ok (.getfield 28, 3) := by decide +kernel
theorem dX2_findOver_76 : decode cX2_findOver 76 = .ok (.iload 4, 2) := by decide +kernel
theorem dX2_findOver_78 : decode cX2_findOver 78 = .ok (.iaload, 1) := by decide +kernel
theorem dX2_findOver_79 : decode cX2_findOver 79 = .ok (.aload_n 0, 1) := by decide +kernel
theorem dX2_findOver_80 : decode cX2_findOver 80 = .ok (.iload_n 2, 1) := by decide +kernel
theorem dX2_findOver_81 : decode cX2_findOver 81 = .ok (.invokevirtual 80, 3) := by decide +kernel
theorem dX2_findOver_84 : decode cX2_findOver 84 = .ok (.invokestatic 71, 3) := by decide +kernel
theorem dX2_findOver_87 : decode cX2_findOver 87 = .ok (.aload_n 0, 1) := by decide +kernel
theorem dX2_findOver_88 : decode cX2_findOver 88 = .ok (.getfield 28, 3) := by decide +kernel
theorem dX2_findOver_91 : decode cX2_findOver 91 = .ok (.iload_n 2, 1) := by decide +kernel
theorem dX2_findOver_92 : decode cX2_findOver 92 = .ok (.iaload, 1) := by decide +kernel
theorem dX2_findOver_93 : decode cX2_findOver 93 = .ok (.if_icmp .lt 6, 3) := by decide +kernel
theorem dX2_findOver_96 : decode cX2_findOver 96 = .ok (.goto 26, 3) := by decide +kernel
theorem dX2_findOver_99 : decode cX2_findOver 99 = .ok (.aload_n 0, 1) := by decide +kernel
theorem dX2_findOver_100 : decode cX2_findOver 100 = .ok (.getfield 28, 3) := by decide +kernel
theorem dX2_findOver_103 : decode cX2_findOver 103 = .ok (.iload_n 2, 1) := by decide +kernel
theorem dX2_findOver_104 : decode cX2_findOver 104 = .ok (.aload_n 0, 1) := by decide +kernel
theorem dX2_findOver_105 : decode cX2_findOver 105 = .ok (.getfield 28, 3) := by decide +kernel
theorem dX2_findOver_108 : decode cX2_findOver 108 = .ok (.iload 4, 2) := by decide +kernel
theorem dX2_findOver_110 : decode cX2_findOver 110 = .ok (.iaload, 1) := by decide +kernel
theorem dX2_findOver_111 : decode cX2_findOver 111 = .ok (.aload_n 0, 1) := by decide +kernel
theorem dX2_findOver_112 : decode cX2_findOver 112 = .ok (.iload_n 2, 1) := by decide +kernel
theorem dX2_findOver_113 : decode cX2_findOver 113 = .ok (.invokevirtual 80, 3) := by decide +kernel
theorem dX2_findOver_116 : decode cX2_findOver 116 = .ok (.invokestatic 71, 3) := by decide +kernel
theorem dX2_findOver_119 : decode cX2_findOver 119 = .ok (.iastore, 1) := by decide +kernel
theorem dX2_findOver_120 : decode cX2_findOver 120 = .ok (.iconst 1, 1) := by decide +kernel
theorem dX2_findOver_121 : decode cX2_findOver 121 = .ok (.istore_n 1, 1) := by decide +kernel
theorem dX2_findOver_122 : decode cX2_findOver 122 = .ok (.iinc 3 1, 3) := by decide +kernel
theorem dX2_findOver_125 : decode cX2_findOver 125 = .ok (.goto (-71), 3) := by decide +kernel
theorem dX2_findOver_128 : decode cX2_findOver 128 = .ok (.iinc 2 1, 3) := by decide +kernel
theorem dX2_findOver_131 : decode cX2_findOver 131 = .ok (.goto (-85), 3) := by decide +kernel
theorem dX2_findOver_134 : decode cX2_findOver 134 = .ok (.goto (-96), 3) := by decide +kernel
theorem dX2_findOver_137 : decode cX2_findOver 137 = .ok (.return_, 1) := by decide +kernel
set_option maxRecDepth 20000 in
theorem ggX2_slideAll_X2_beside : GoodIn wsX2_slideAll wsX2_beside := goodIn_r _ [7] (by decide +kernel) (by decide +kernel)
set_option maxRecDepth 20000 in
theorem gX2_slideAll_X2_beside : GoodIn wsX2_slideAll (va_wsS RX2 110 yX2_beside wsX2_beside) := goodIn_app (goodIn_of _ (by decide +kernel)) ggX2_slideAll_X2_beside
set_option maxRecDepth 20000 in
theorem ggX2_slideAll_X2_height : GoodIn wsX2_slideAll wsX2_height := goodIn_r _ [11, 2, 12, 13, 14, 15, 16, 17, 18, 19, 20, 21, 22, 23, 24, 25] (by decide +kernel) (by decide +kernel)
set_option maxRecDepth 20000 in
theorem gX2_slideAll_X2_height : GoodIn wsX2_slideAll (wsV RX2 80 RX2 yX2_height wsX2_height) := goodIn_app (goodIn_of _ (by decide +kernel)) ggX2_slideAll_X2_height
theorem dX2_slideAll_0 : decode cX2_slideAll 0 = .ok (.aload_n 0, 1) := by decide +kernel
theorem dX2_slideAll_1 : decode cX2_slideAll 1 = .ok (.iconst 0, 1) := by decide +kernel
theorem dX2_slideAll_2 : decode cX2_slideAll 2 = .ok (.putfield 98, 3) := by decide +kernel
theorem dX2_slideAll_5 : decode cX2_slideAll 5 = .ok (.iconst (-1), 1) := by decide +kernel
theorem dX2_slideAll_6 : decode cX2_slideAll 6 = .ok (.istore_n 1, 1) := by decide +kernel
theorem dX2_slideAll_7 : decode cX2_slideAll 7 = .ok (.iconst 0, 1) := by decide +kernel
theorem dX2_slideAll_8 : decode cX2_slideAll 8 = .ok (.istore_n 2, 1) := by decide +kernel
theorem dX2_slideAll_9 : decode cX2_slideAll 9 = .ok (.iload_n 2, 1) := by decide +kernel
theorem dX2_slideAll_10 : decode cX2_slideAll 10 = .ok (.bipush 40, 2) := by decide +kernel
theorem dX2_slideAll_12 : decode cX2_slideAll 12 = .ok (.if_icmp .ge 171, 3) := by decide +kernel
theorem dX2_slideAll_15 : decode cX2_slideAll 15 = .ok (.aload_n 0, 1) := by decide +kernel
theorem dX2_slideAll_16 : decode cX2_slideAll 16 = .ok (.getfield 98, 3) := by decide +kernel
theorem dX2_slideAll_19 : decode cX2_slideAll 19 = .ok (.iload_n 1, 1) := by decide +kernel
theorem dX2_slideAll_20 : decode cX2_slideAll 20 = .ok (.if_icmp .eq 163, 3) := by decide +kernel
theorem dX2_slideAll_23 : decode cX2_slideAll 23 = .ok (.aload_n 0, 1) := by decide +kernel
theorem dX2_slideAll_24 : decode cX2_slideAll 24 = .ok (.getfield 98, 3) := by decide +kernel
theorem dX2_slideAll_27 : decode cX2_slideAll 27 = .ok (.istore_n 1, 1) := by decide +kernel
theorem dX2_slideAll_28 : decode cX2_slideAll 28 = .ok (.iconst 0, 1) := by decide +kernel
theorem dX2_slideAll_29 : decode cX2_slideAll 29 = .ok (.istore_n 3, 1) := by decide +kernel
theorem dX2_slideAll_30 : decode cX2_slideAll 30 = .ok (.iload_n 3, 1) := by decide +kernel
theorem dX2_slideAll_31 : decode cX2_slideAll 31 = .ok (.bipush 120, 2) := by decide +kernel
theorem dX2_slideAll_33 : decode cX2_slideAll 33 = .ok (.if_icmp .ge 144, 3) := by decide +kernel
theorem dX2_slideAll_36 : decode cX2_slideAll 36 = .ok (.iconst (-1), 1) := by decide +kernel
theorem dX2_slideAll_37 : decode cX2_slideAll 37 = .ok (.istore 4, 2) := by decide +kernel
theorem dX2_slideAll_39 : decode cX2_slideAll 39 = .ok (.iconst 0, 1) := by decide +kernel
theorem dX2_slideAll_40 : decode cX2_slideAll 40 = .ok (.istore 5, 2) := by decide +kernel
theorem dX2_slideAll_42 : decode cX2_slideAll 42 = .ok (.iload 5, 2) := by decide +kernel
theorem dX2_slideAll_44 : decode cX2_slideAll 44 = .ok (.iconst 4, 1) := by decide +kernel
theorem dX2_slideAll_45 : decode cX2_slideAll 45 = .ok (.if_icmp .ge 48, 3) := by decide +kernel
theorem dX2_slideAll_48 : decode cX2_slideAll 48 = .ok (.iload_n 3, 1) := by decide +kernel
theorem dX2_slideAll_49 : decode cX2_slideAll 49 = .ok (.iload 5, 2) := by decide +kernel
theorem dX2_slideAll_51 : decode cX2_slideAll 51 = .ok (.invokestatic 110, 3) := by decide +kernel
theorem dX2_slideAll_54 : decode cX2_slideAll 54 = .ok (.istore 6, 2) := by decide +kernel
theorem dX2_slideAll_56 : decode cX2_slideAll 56 = .ok (.iload 6, 2) := by decide +kernel
theorem dX2_slideAll_58 : decode cX2_slideAll 58 = .ok (.iconst (-1), 1) := by decide +kernel
theorem dX2_slideAll_59 : decode cX2_slideAll 59 = .ok (.if_icmp .eq 28, 3) := by decide +kernel
theorem dX2_slideAll_62 : decode cX2_slideAll 62 = .ok (.iload 4, 2) := by decide +kernel
theorem dX2_slideAll_64 : decode cX2_slideAll 64 = .ok (.iconst (-1), 1) := by decide +kernel
theorem dX2_slideAll_65 : decode cX2_slideAll 65 = .ok (.if_icmp .eq 18, 3) := by decide +kernel
theorem dX2_slideAll_68 : decode cX2_slideAll 68 = .ok (.aload_n 0, 1) := by decide +kernel
theorem dX2_slideAll_69 : decode cX2_slideAll 69 = .ok (.iload 6, 2) := by decide +kernel
theorem dX2_slideAll_71 : decode cX2_slideAll 71 = .ok (.invokevirtual 80, 3) := by decide +kernel
theorem dX2_slideAll_74 : decode cX2_slideAll 74 = .ok (.aload_n 0, 1) := by decide +kernel
theorem dX2_slideAll_75 : decode cX2_slideAll 75 = .ok (.iload 4, 2) := by decide +kernel
theorem dX2_slideAll_77 : decode cX2_slideAll 77 = .ok (.invokevirtual 80, 3) := by decide +kernel
theorem dX2_slideAll_80 : decode cX2_slideAll 80 = .ok (.if_icmp .ge 7, 3) := by decide +kernel
theorem dX2_slideAll_83 : decode cX2_slideAll 83 = .ok (.iload 6, 2) := by decide +kernel
theorem dX2_slideAll_85 : decode cX2_slideAll 85 = .ok (.istore 4, 2) := by decide +kernel
theorem dX2_slideAll_87 : decode cX2_slideAll 87 = .ok (.iinc 5 1, 3) := by decide +kernel
theorem dX2_slideAll_90 : decode cX2_slideAll 90 = .ok (.goto (-48), 3) := by decide +kernel
theorem dX2_slideAll_93 : decode cX2_slideAll 93 = .ok (.aload_n 0, 1) := by decide +kernel
theorem dX2_slideAll_94 : decode cX2_slideAll 94 = .ok (.getfield 9, 3) := by decide +kernel
theorem dX2_slideAll_97 : decode cX2_slideAll 97 = .ok (.iload_n 3, 1) := by decide +kernel
theorem dX2_slideAll_98 : decode cX2_slideAll 98 = .ok (.iaload, 1) := by decide +kernel
theorem dX2_slideAll_99 : decode cX2_slideAll 99 = .ok (.ifCond .eq 72, 3) := by decide +kernel
theorem dX2_slideAll_102 : decode cX2_slideAll 102 = .ok (.aload_n 0, 1) := by decide +kernel
theorem dX2_slideAll_103 : decode cX2_slideAll 103 = .ok (.iload_n 3, 1) := by decide +kernel
theorem dX2_slideAll_104 : decode cX2_slideAll 104 = .ok (.invokevirtual 80, 3) := by decide +kernel
theorem dX2_slideAll_107 : decode cX2_slideAll 107 = .ok (.aload_n 0, 1) := by decide +kernel
theorem dX2_slideAll_108 : decode cX2_slideAll 108 = .ok (.iload 4, 2) := by decide +kernel
theorem dX2_slideAll_110 : decode cX2_slideAll 110 = .ok (.invokevirtual 80, 3) := by decide +kernel
theorem dX2_slideAll_113 : decode cX2_slideAll 113 = .ok (.iconst 4, 1) := by decide +kernel
theorem dX2_slideAll_114 : decode cX2_slideAll 114 = .ok (.iadd, 1) := by decide +kernel
theorem dX2_slideAll_115 : decode cX2_slideAll 115 = .ok (.aload_n 0, 1) := by decide +kernel
theorem dX2_slideAll_116 : decode cX2_slideAll 116 = .ok (.getfield 13, 3) := by decide +kernel
theorem dX2_slideAll_119 : decode cX2_slideAll 119 = .ok (.iload_n 3, 1) := by decide +kernel
theorem dX2_slideAll_120 : decode cX2_slideAll 120 = .ok (.iaload, 1) := by decide +kernel
theorem dX2_slideAll_121 : decode cX2_slideAll 121 = .ok (.iadd, 1) := by decide +kernel
theorem dX2_slideAll_122 : decode cX2_slideAll 122 = .ok (.if_icmp .le 49, 3) := by decide +kernel
theorem dX2_slideAll_125 : decode cX2_slideAll 125 = .ok (.aload_n 0, 1) := by decide +kernel
theorem dX2_slideAll_126 : decode cX2_slideAll 126 = .ok (.getfield 9, 3) := by decide +kernel
theorem dX2_slideAll_129 : decode cX2_slideAll 129 = .ok (.iload 4, 2) := by decide +kernel
theorem dX2_slideAll_131 : decode cX2_slideAll 131 = .ok (.iaload, 1) := by decide +kernel
theorem dX2_slideAll_132 : decode cX2_slideAll 132 = .ok (.bipush 20, 2) := by decide +kernel
theorem dX2_slideAll_134 : decode cX2_slideAll 134 = .ok (.if_icmp .ne 6, 3) := by decide +kernel
theorem dX2_slideAll_137 : decode cX2_slideAll 137 = .ok (.goto 34, 3) := by decide +kernel
theorem dX2_slideAll_140 : decode cX2_slideAll 140 = .ok (.aload_n 0, 1) := by decide +kernel
theorem dX2_slideAll_141 : decode cX2_slideAll 141 = .ok (.getfield 9, 3) := by decide +kernel
theorem dX2_slideAll_144 : decode cX2_slideAll 144 = .ok (.iload_n 3, 1) := by decide +kernel
theorem dX2_slideAll_145 : decode cX2_slideAll 145 = .ok (.dup2, 1) := by decide +kernel
theorem dX2_slideAll_146 : decode cX2_slideAll 146 = .ok (.iaload, 1) := by decide +kernel
theorem dX2_slideAll_147 : decode cX2_slideAll 147 = .ok (.iconst 1, 1) := by decide +kernel
theorem dX2_slideAll_148 : decode cX2_slideAll 148 = .ok (.isub, 1) := by decide +kernel
theorem dX2_slideAll_149 : decode cX2_slideAll 149 = .ok (.iastore, 1) := by decide +kernel
theorem dX2_slideAll_150 : decode cX2_slideAll 150 = .ok (.aload_n 0, 1) := by decide +kernel
theorem dX2_slideAll_151 : decode cX2_slideAll 151 = .ok (.getfield 9, 3) := by decide +kernel
theorem dX2_slideAll_154 : decode cX2_slideAll 154 = .ok (.iload 4, 2) := by decide +kernel
theorem dX2_slideAll_156 : decode cX2_slideAll 156 = .ok (.dup2, 1) := by decide +kernel
theorem dX2_slideAll_157 : decode cX2_slideAll 157 = .ok (.iaload, 1) := by decide +kernel
theorem dX2_slideAll_158 : decode cX2_slideAll 158 = .ok (.iconst 1, 1) := by decide +kernel
theorem dX2_slideAll_159 : decode cX2_slideAll 159 = .ok (.iadd, 1) := by decide +kernel
theorem dX2_slideAll_160 : decode cX2_slideAll 160 = .ok (.iastore, 1) := by decide +kernel
theorem dX2_slideAll_161 : decode cX2_slideAll 161 = .ok (.aload_n 0, 1) := by decide +kernel
theorem dX2_slideAll_162 : decode cX2_slideAll 162 = .ok (.dup, 1) := by decide +kernel
theorem dX2_slideAll_163 : decode cX2_slideAll 163 = .ok (.getfield 98, 3) := by decide +kernel
theorem dX2_slideAll_166 : decode cX2_slideAll 166 = .ok (.iconst 1, 1) := by decide +kernel
theorem dX2_slideAll_167 : decode cX2_slideAll 167 = .ok (.iadd, 1) := by decide +kernel
theorem dX2_slideAll_168 : decode cX2_slideAll 168 = .ok (.putfield 98, 3) := by decide +kernel
theorem dX2_slideAll_171 : decode cX2_slideAll 171 = .ok (.iinc 3 1, 3) := by decide +kernel
theorem dX2_slideAll_174 : decode cX2_slideAll 174 = .ok (.goto (-144), 3) := by decide +kernel
theorem dX2_slideAll_177 : decode cX2_slideAll 177 = .ok (.iinc 2 1, 3) := by decide +kernel
theorem dX2_slideAll_180 : decode cX2_slideAll 180 = .ok (.goto (-171), 3) := by decide +kernel
theorem dX2_slideAll_183 : decode cX2_slideAll 183 = .ok (.return_, 1) := by decide +kernel
set_option maxRecDepth 20000 in
theorem ggX2_falls_X2_height : GoodIn wsX2_falls wsX2_height := goodIn_r _ [6, 7, 8, 9, 10, 11, 12, 13, 14, 15, 16, 17, 18, 19, 20, 21] (by decide +kernel) (by decide +kernel)
set_option maxRecDepth 20000 in
theorem gX2_falls_X2_height : GoodIn wsX2_falls (wsV RX2 80 RX2 yX2_height wsX2_height) := goodIn_app (goodIn_of _ (by decide +kernel)) ggX2_falls_X2_height
theorem dX2_falls_0 : decode cX2_falls 0 = .ok (.aload_n 0, 1) := by decide +kernel
theorem dX2_falls_1 : decode cX2_falls 1 = .ok (.getfield 16, 3) := by decide +kernel
theorem dX2_falls_4 : decode cX2_falls 4 = .ok (.iload_n 1, 1) := by decide +kernel
theorem dX2_falls_5 : decode cX2_falls 5 = .ok (.iaload, 1) := by decide +kernel
theorem dX2_falls_6 : decode cX2_falls 6 = .ok (.iconst 1, 1) := by decide +kernel
theorem dX2_falls_7 : decode cX2_falls 7 = .ok (.if_icmp .eq 14, 3) := by decide +kernel
theorem dX2_falls_10 : decode cX2_falls 10 = .ok (.aload_n 0, 1) := by decide +kernel
theorem dX2_falls_11 : decode cX2_falls 11 = .ok (.iload_n 1, 1) := by decide +kernel
theorem dX2_falls_12 : decode cX2_falls 12 = .ok (.invokevirtual 80, 3) := by decide +kernel
theorem dX2_falls_15 : decode cX2_falls 15 = .ok (.iload_n 2, 1) := by decide +kernel
theorem dX2_falls_16 : decode cX2_falls 16 = .ok (.iconst 1, 1) := by decide +kernel
theorem dX2_falls_17 : decode cX2_falls 17 = .ok (.isub, 1) := by decide +kernel
theorem dX2_falls_18 : decode cX2_falls 18 = .ok (.if_icmp .ge 7, 3) := by decide +kernel
theorem dX2_falls_21 : decode cX2_falls 21 = .ok (.iconst 1, 1) := by decide +kernel
theorem dX2_falls_22 : decode cX2_falls 22 = .ok (.goto 4, 3) := by decide +kernel
theorem dX2_falls_25 : decode cX2_falls 25 = .ok (.iconst 0, 1) := by decide +kernel
theorem dX2_falls_26 : decode cX2_falls 26 = .ok (.ireturn, 1) := by decide +kernel
theorem dX2_brings_0 : decode cX2_brings 0 = .ok (.iconst 1, 1) := by decide +kernel
theorem dX2_brings_1 : decode cX2_brings 1 = .ok (.aload_n 0, 1) := by decide +kernel
theorem dX2_brings_2 : decode cX2_brings 2 = .ok (.getfield 9, 3) := by decide +kernel
theorem dX2_brings_5 : decode cX2_brings 5 = .ok (.iload_n 1, 1) := by decide +kernel
theorem dX2_brings_6 : decode cX2_brings 6 = .ok (.iaload, 1) := by decide +kernel
theorem dX2_brings_7 : decode cX2_brings 7 = .ok (.iconst 5, 1) := by decide +kernel
theorem dX2_brings_8 : decode cX2_brings 8 = .ok (.idiv, 1) := by decide +kernel
theorem dX2_brings_9 : decode cX2_brings 9 = .ok (.iadd, 1) := by decide +kernel
theorem dX2_brings_10 : decode cX2_brings 10 = .ok (.ireturn, 1) := by decide +kernel
set_option maxRecDepth 20000 in
theorem ggX2_hourOn_X2_findOver : GoodIn wsX2_hourOn wsX2_findOver := goodIn_r _ [23, 4, 11, 12, 9, 13, 24, 25, 26, 22, 27, 5, 28, 29, 30, 51, 52, 53, 54, 55, 56, 57, 58, 59, 60, 61, 62, 63, 64] (by decide +kernel) (by decide +kernel)
set_option maxRecDepth 20000 in
theorem gX2_hourOn_X2_findOver : GoodIn wsX2_hourOn (wsV RX2 113 RX2 yX2_findOver wsX2_findOver) := goodIn_app (goodIn_of _ (by decide +kernel)) ggX2_hourOn_X2_findOver
set_option maxRecDepth 20000 in
theorem ggX2_hourOn_X2_height : GoodIn wsX2_hourOn wsX2_height := goodIn_r _ [27, 5, 51, 52, 53, 54, 55, 56, 57, 58, 59, 60, 61, 62, 63, 64] (by decide +kernel) (by decide +kernel)
set_option maxRecDepth 20000 in
theorem gX2_hourOn_X2_height : GoodIn wsX2_hourOn (wsV RX2 80 RX2 yX2_height wsX2_height) := goodIn_app (goodIn_of _ (by decide +kernel)) ggX2_hourOn_X2_height
set_option maxRecDepth 20000 in
theorem ggX2_hourOn_X2_slideAll : GoodIn wsX2_hourOn wsX2_slideAll := goodIn_r _ [34, 35, 5, 6, 28, 29, 22, 30, 24, 25, 26, 27, 51, 52, 53, 54, 55, 56, 57, 58, 59, 60, 61, 62, 63, 64] (by decide +kernel) (by decide +kernel)
set_option maxRecDepth 20000 in
theorem gX2_hourOn_X2_slideAll : GoodIn wsX2_hourOn (wsV RX2 116 RX2 yX2_slideAll wsX2_slideAll) := goodIn_app (goodIn_of _ (by decide +kernel)) ggX2_hourOn_X2_slideAll
set_option maxRecDepth 20000 in
theorem ggX2_hourOn_X2_falls : GoodIn wsX2_hourOn wsX2_falls := goodIn_r _ [39, 3, 24, 25, 26, 22, 27, 5, 51, 52, 53, 54, 55, 56, 57, 58, 59, 60, 61, 62, 63, 64] (by decide +kernel) (by decide +kernel)
set_option maxRecDepth 20000 in
theorem gX2_hourOn_X2_falls : GoodIn wsX2_hourOn (wsV RX2 119 RX2 yX2_falls wsX2_falls) := goodIn_app (goodIn_of _ (by decide +kernel)) ggX2_hourOn_X2_falls
set_option maxRecDepth 20000 in
theorem ggX2_hourOn_X2_teamOf : GoodIn wsX2_hourOn wsX2_teamOf := goodIn_r _ [42] (by decide +kernel) (by decide +kernel)
set_option maxRecDepth 20000 in
theorem gX2_hourOn_X2_teamOf : GoodIn wsX2_hourOn (va_wsS RX2 74 yX2_teamOf wsX2_teamOf) := goodIn_app (goodIn_of _ (by decide +kernel)) ggX2_hourOn_X2_teamOf
set_option maxRecDepth 20000 in
theorem ggX2_hourOn_X2_brings : GoodIn wsX2_hourOn wsX2_brings := goodIn_r _ [46, 5, 51, 52, 53, 54, 55, 56, 57, 58, 59, 60, 61, 62, 63, 64] (by decide +kernel) (by decide +kernel)
set_option maxRecDepth 20000 in
theorem gX2_hourOn_X2_brings : GoodIn wsX2_hourOn (wsV RX2 123 RX2 yX2_brings wsX2_brings) := goodIn_app (goodIn_of _ (by decide +kernel)) ggX2_hourOn_X2_brings
set_option maxRecDepth 20000 in
theorem ggX2_hourOn_X2_add : GoodIn wsX2_hourOn wsX2_add := goodIn_r _ [50, 18, 51, 52, 53, 54, 55, 56, 57, 58, 59, 60, 61, 62, 63, 64] (by decide +kernel) (by decide +kernel)
set_option maxRecDepth 20000 in
theorem gX2_hourOn_X2_add : GoodIn wsX2_hourOn (wsV RX2 67 RX2 yX2_add wsX2_add) := goodIn_app (goodIn_of _ (by decide +kernel)) ggX2_hourOn_X2_add
theorem dX2_hourOn_0 : decode cX2_hourOn 0 = .ok (.aload_n 0, 1) := by decide +kernel
theorem dX2_hourOn_1 : decode cX2_hourOn 1 = .ok (.getfield 25, 3) := by decide +kernel
theorem dX2_hourOn_4 : decode cX2_hourOn 4 = .ok (.aload_n 0, 1) := by decide +kernel
theorem dX2_hourOn_5 : decode cX2_hourOn 5 = .ok (.getfield 92, 3) := by decide +kernel
theorem dX2_hourOn_8 : decode cX2_hourOn 8 = .ok (.bipush 12, 2) := by decide +kernel
theorem dX2_hourOn_10 : decode cX2_hourOn 10 = .ok (.irem, 1) := by decide +kernel
theorem dX2_hourOn_11 : decode cX2_hourOn 11 = .ok (.iaload, 1) := by decide +kernel
theorem dX2_hourOn_12 : decode cX2_hourOn 12 = .ok (.istore_n 1, 1) := by decide +kernel
theorem dX2_hourOn_13 : decode cX2_hourOn 13 = .ok (.aload_n 0, 1) := by decide +kernel
theorem dX2_hourOn_14 : decode cX2_hourOn 14 = .ok (.invokevirtual 113, 3) := by decide +kernel
theorem dX2_hourOn_17 : decode cX2_hourOn 17 = .ok (.iconst 0, 1) := by decide +kernel
theorem dX2_hourOn_18 : decode cX2_hourOn 18 = .ok (.istore_n 2, 1) := by decide +kernel
theorem dX2_hourOn_19 : decode cX2_hourOn 19 = .ok (.iload_n 2, 1) := by decide +kernel
theorem dX2_hourOn_20 : decode cX2_hourOn 20 = .ok (.bipush 120, 2) := by decide +kernel
theorem dX2_hourOn_22 : decode cX2_hourOn 22 = .ok (.if_icmp .ge 30, 3) := by decide +kernel
theorem dX2_hourOn_25 : decode cX2_hourOn 25 = .ok (.aload_n 0, 1) := by decide +kernel
theorem dX2_hourOn_26 : decode cX2_hourOn 26 = .ok (.getfield 16, 3) := by decide +kernel
theorem dX2_hourOn_29 : decode cX2_hourOn 29 = .ok (.iload_n 2, 1) := by decide +kernel
theorem dX2_hourOn_30 : decode cX2_hourOn 30 = .ok (.aload_n 0, 1) := by decide +kernel
theorem dX2_hourOn_31 : decode cX2_hourOn 31 = .ok (.getfield 28, 3) := by decide +kernel
theorem dX2_hourOn_34 : decode cX2_hourOn 34 = .ok (.iload_n 2, 1) := by decide +kernel
theorem dX2_hourOn_35 : decode cX2_hourOn 35 = .ok (.iaload, 1) := by decide +kernel
theorem dX2_hourOn_36 : decode cX2_hourOn 36 = .ok (.iload_n 1, 1) := by decide +kernel
theorem dX2_hourOn_37 : decode cX2_hourOn 37 = .ok (.if_icmp .ge 7, 3) := by decide +kernel
theorem dX2_hourOn_40 : decode cX2_hourOn 40 = .ok (.iconst 1, 1) := by decide +kernel
theorem dX2_hourOn_41 : decode cX2_hourOn 41 = .ok (.goto 4, 3) := by decide +kernel
theorem dX2_hourOn_44 : decode cX2_hourOn 44 = .ok (.iconst 0, 1) := by decide +kernel
theorem dX2_hourOn_45 : decode cX2_hourOn 45 = .ok (.iastore, 1) := by decide +kernel
theorem dX2_hourOn_46 : decode cX2_hourOn 46 = .ok (.iinc 2 1, 3) := by decide +kernel
theorem dX2_hourOn_49 : decode cX2_hourOn 49 = .ok (.goto (-30), 3) := by decide +kernel
theorem dX2_hourOn_52 : decode cX2_hourOn 52 = .ok (.iconst 0, 1) := by decide +kernel
theorem dX2_hourOn_53 : decode cX2_hourOn 53 = .ok (.istore_n 2, 1) := by decide +kernel
theorem dX2_hourOn_54 : decode cX2_hourOn 54 = .ok (.iload_n 2, 1) := by decide +kernel
theorem dX2_hourOn_55 : decode cX2_hourOn 55 = .ok (.bipush 120, 2) := by decide +kernel
theorem dX2_hourOn_57 : decode cX2_hourOn 57 = .ok (.if_icmp .ge 93, 3) := by decide +kernel
theorem dX2_hourOn_60 : decode cX2_hourOn 60 = .ok (.aload_n 0, 1) := by decide +kernel
theorem dX2_hourOn_61 : decode cX2_hourOn 61 = .ok (.getfield 16, 3) := by decide +kernel
theorem dX2_hourOn_64 : decode cX2_hourOn 64 = .ok (.iload_n 2, 1) := by decide +kernel
theorem dX2_hourOn_65 : decode cX2_hourOn 65 = .ok (.iaload, 1) := by decide +kernel
theorem dX2_hourOn_66 : decode cX2_hourOn 66 = .ok (.ifCond .ne 6, 3) := by decide +kernel
theorem dX2_hourOn_69 : decode cX2_hourOn 69 = .ok (.goto 75, 3) := by decide +kernel
theorem dX2_hourOn_72 : decode cX2_hourOn 72 = .ok (.iconst 0, 1) := by decide +kernel
theorem dX2_hourOn_73 : decode cX2_hourOn 73 = .ok (.aload_n 0, 1) := by decide +kernel
theorem dX2_hourOn_74 : decode cX2_hourOn 74 = .ok (.getfield 9, 3) := by decide +kernel
theorem dX2_hourOn_77 : decode cX2_hourOn 77 = .ok (.iload_n 2, 1) := by decide +kernel
theorem dX2_hourOn_78 : decode cX2_hourOn 78 = .ok (.iaload, 1) := by decide +kernel
theorem dX2_hourOn_79 : decode cX2_hourOn 79 = .ok (.iconst 1, 1) := by decide +kernel
theorem dX2_hourOn_80 : decode cX2_hourOn 80 = .ok (.iload_n 1, 1) := by decide +kernel
theorem dX2_hourOn_81 : decode cX2_hourOn 81 = .ok (.aload_n 0, 1) := by decide +kernel
theorem dX2_hourOn_82 : decode cX2_hourOn 82 = .ok (.iload_n 2, 1) := by decide +kernel
theorem dX2_hourOn_83 : decode cX2_hourOn 83 = .ok (.invokevirtual 80, 3) := by decide +kernel
theorem dX2_hourOn_86 : decode cX2_hourOn 86 = .ok (.isub, 1) := by decide +kernel
theorem dX2_hourOn_87 : decode cX2_hourOn 87 = .ok (.iconst 3, 1) := by decide +kernel
theorem dX2_hourOn_88 : decode cX2_hourOn 88 = .ok (.idiv, 1) := by decide +kernel
theorem dX2_hourOn_89 : decode cX2_hourOn 89 = .ok (.iadd, 1) := by decide +kernel
theorem dX2_hourOn_90 : decode cX2_hourOn 90 = .ok (.aload_n 0, 1) := by decide +kernel
theorem dX2_hourOn_91 : decode cX2_hourOn 91 = .ok (.getfield 13, 3) := by decide +kernel
theorem dX2_hourOn_94 : decode cX2_hourOn 94 = .ok (.iload_n 2, 1) := by decide +kernel
theorem dX2_hourOn_95 : decode cX2_hourOn 95 = .ok (.iaload, 1) := by decide +kernel
theorem dX2_hourOn_96 : decode cX2_hourOn 96 = .ok (.iconst 2, 1) := by decide +kernel
theorem dX2_hourOn_97 : decode cX2_hourOn 97 = .ok (.idiv, 1) := by decide +kernel
theorem dX2_hourOn_98 : decode cX2_hourOn 98 = .ok (.isub, 1) := by decide +kernel
theorem dX2_hourOn_99 : decode cX2_hourOn 99 = .ok (.invokestatic 62, 3) := by decide +kernel
theorem dX2_hourOn_102 : decode cX2_hourOn 102 = .ok (.invokestatic 71, 3) := by decide +kernel
theorem dX2_hourOn_105 : decode cX2_hourOn 105 = .ok (.istore_n 3, 1) := by decide +kernel
theorem dX2_hourOn_106 : decode cX2_hourOn 106 = .ok (.aload_n 0, 1) := by decide +kernel
theorem dX2_hourOn_107 : decode cX2_hourOn 107 = .ok (.getfield 9, 3) := by decide +kernel
theorem dX2_hourOn_110 : decode cX2_hourOn 110 = .ok (.iload_n 2, 1) := by decide +kernel
theorem dX2_hourOn_111 : decode cX2_hourOn 111 = .ok (.dup2, 1) := by decide +kernel
theorem dX2_hourOn_112 : decode cX2_hourOn 112 = .ok (.iaload, 1) := by decide +kernel
theorem dX2_hourOn_113 : decode cX2_hourOn 113 = .ok (.iload_n 3, 1) := by decide +kernel
theorem dX2_hourOn_114 : decode cX2_hourOn 114 = .ok (.isub, 1) := by decide +kernel
theorem dX2_hourOn_115 : decode cX2_hourOn 115 = .ok (.iastore, 1) := by decide +kernel
theorem dX2_hourOn_116 : decode cX2_hourOn 116 = .ok (.aload_n 0, 1) := by decide +kernel
theorem dX2_hourOn_117 : decode cX2_hourOn 117 = .ok (.dup, 1) := by decide +kernel
theorem dX2_hourOn_118 : decode cX2_hourOn 118 = .ok (.getfield 95, 3) := by decide +kernel
theorem dX2_hourOn_121 : decode cX2_hourOn 121 = .ok (.iload_n 3, 1) := by decide +kernel
theorem dX2_hourOn_122 : decode cX2_hourOn 122 = .ok (.iadd, 1) := by decide +kernel
theorem dX2_hourOn_123 : decode cX2_hourOn 123 = .ok (.putfield 95, 3) := by decide +kernel
theorem dX2_hourOn_126 : decode cX2_hourOn 126 = .ok (.aload_n 0, 1) := by decide +kernel
theorem dX2_hourOn_127 : decode cX2_hourOn 127 = .ok (.getfield 13, 3) := by decide +kernel
theorem dX2_hourOn_130 : decode cX2_hourOn 130 = .ok (.iload_n 2, 1) := by decide +kernel
theorem dX2_hourOn_131 : decode cX2_hourOn 131 = .ok (.iconst 0, 1) := by decide +kernel
theorem dX2_hourOn_132 : decode cX2_hourOn 132 = .ok (.aload_n 0, 1) := by decide +kernel
theorem dX2_hourOn_133 : decode cX2_hourOn 133 = .ok (.getfield 13, 3) := by decide +kernel
theorem dX2_hourOn_136 : decode cX2_hourOn 136 = .ok (.iload_n 2, 1) := by decide +kernel
theorem dX2_hourOn_137 : decode cX2_hourOn 137 = .ok (.iaload, 1) := by decide +kernel
theorem dX2_hourOn_138 : decode cX2_hourOn 138 = .ok (.iconst 1, 1) := by decide +kernel
theorem dX2_hourOn_139 : decode cX2_hourOn 139 = .ok (.isub, 1) := by decide +kernel
theorem dX2_hourOn_140 : decode cX2_hourOn 140 = .ok (.invokestatic 71, 3) := by decide +kernel
theorem dX2_hourOn_143 : decode cX2_hourOn 143 = .ok (.iastore, 1) := by decide +kernel
theorem dX2_hourOn_144 : decode cX2_hourOn 144 = .ok (.iinc 2 1, 3) := by decide +kernel
theorem dX2_hourOn_147 : decode cX2_hourOn 147 = .ok (.goto (-93), 3) := by decide +kernel
theorem dX2_hourOn_150 : decode cX2_hourOn 150 = .ok (.aload_n 0, 1) := by decide +kernel
theorem dX2_hourOn_151 : decode cX2_hourOn 151 = .ok (.invokevirtual 116, 3) := by decide +kernel
theorem dX2_hourOn_154 : decode cX2_hourOn 154 = .ok (.iconst 0, 1) := by decide +kernel
theorem dX2_hourOn_155 : decode cX2_hourOn 155 = .ok (.istore_n 2, 1) := by decide +kernel
theorem dX2_hourOn_156 : decode cX2_hourOn 156 = .ok (.iload_n 2, 1) := by decide +kernel
theorem dX2_hourOn_157 : decode cX2_hourOn 157 = .ok (.bipush 120, 2) := by decide +kernel
theorem dX2_hourOn_159 : decode cX2_hourOn 159 = .ok (.if_icmp .ge 71, 3) := by decide +kernel
theorem dX2_hourOn_162 : decode cX2_hourOn 162 = .ok (.aload_n 0, 1) := by decide +kernel
theorem dX2_hourOn_163 : decode cX2_hourOn 163 = .ok (.getfield 19, 3) := by decide +kernel
theorem dX2_hourOn_166 : decode cX2_hourOn 166 = .ok (.iload_n 2, 1) := by decide +kernel
theorem dX2_hourOn_167 : decode cX2_hourOn 167 = .ok (.iaload, 1) := by decide +kernel
theorem dX2_hourOn_168 : decode cX2_hourOn 168 = .ok (.ifCond .ne 6, 3) := by decide +kernel
theorem dX2_hourOn_171 : decode cX2_hourOn 171 = .ok (.goto 53, 3) := by decide +kernel
theorem dX2_hourOn_174 : decode cX2_hourOn 174 = .ok (.aload_n 0, 1) := by decide +kernel
theorem dX2_hourOn_175 : decode cX2_hourOn 175 = .ok (.iload_n 2, 1) := by decide +kernel
theorem dX2_hourOn_176 : decode cX2_hourOn 176 = .ok (.aload_n 0, 1) := by decide +kernel
theorem dX2_hourOn_177 : decode cX2_hourOn 177 = .ok (.getfield 19, 3) := by decide +kernel
theorem dX2_hourOn_180 : decode cX2_hourOn 180 = .ok (.iload_n 2, 1) := by decide +kernel
theorem dX2_hourOn_181 : decode cX2_hourOn 181 = .ok (.iaload, 1) := by decide +kernel
theorem dX2_hourOn_182 : decode cX2_hourOn 182 = .ok (.iconst 1, 1) := by decide +kernel
theorem dX2_hourOn_183 : decode cX2_hourOn 183 = .ok (.isub, 1) := by decide +kernel
theorem dX2_hourOn_184 : decode cX2_hourOn 184 = .ok (.invokevirtual 119, 3) := by decide +kernel
theorem dX2_hourOn_187 : decode cX2_hourOn 187 = .ok (.ifCond .eq 23, 3) := by decide +kernel
theorem dX2_hourOn_190 : decode cX2_hourOn 190 = .ok (.aload_n 0, 1) := by decide +kernel
theorem dX2_hourOn_191 : decode cX2_hourOn 191 = .ok (.getfield 19, 3) := by decide +kernel
theorem dX2_hourOn_194 : decode cX2_hourOn 194 = .ok (.iload_n 2, 1) := by decide +kernel
theorem dX2_hourOn_195 : decode cX2_hourOn 195 = .ok (.iconst 0, 1) := by decide +kernel
theorem dX2_hourOn_196 : decode cX2_hourOn 196 = .ok (.iastore, 1) := by decide +kernel
theorem dX2_hourOn_197 : decode cX2_hourOn 197 = .ok (.aload_n 0, 1) := by decide +kernel
theorem dX2_hourOn_198 : decode cX2_hourOn 198 = .ok (.dup, 1) := by decide +kernel
theorem dX2_hourOn_199 : decode cX2_hourOn 199 = .ok (.getfield 101, 3) := by decide +kernel
theorem dX2_hourOn_202 : decode cX2_hourOn 202 = .ok (.iconst 1, 1) := by decide +kernel
theorem dX2_hourOn_203 : decode cX2_hourOn 203 = .ok (.iadd, 1) := by decide +kernel
theorem dX2_hourOn_204 : decode cX2_hourOn 204 = .ok (.putfield 101, 3) := by decide +kernel
theorem dX2_hourOn_207 : decode cX2_hourOn 207 = .ok (.goto 17, 3) := by decide +kernel
theorem dX2_hourOn_210 : decode cX2_hourOn 210 = .ok (.aload_n 0, 1) := by decide +kernel
theorem dX2_hourOn_211 : decode cX2_hourOn 211 = .ok (.iload_n 2, 1) := by decide +kernel
theorem dX2_hourOn_212 : decode cX2_hourOn 212 = .ok (.invokestatic 74, 3) := by decide +kernel
theorem dX2_hourOn_215 : decode cX2_hourOn 215 = .ok (.iconst 2, 1) := by decide +kernel
theorem dX2_hourOn_216 : decode cX2_hourOn 216 = .ok (.aload_n 0, 1) := by decide +kernel
theorem dX2_hourOn_217 : decode cX2_hourOn 217 = .ok (.iload_n 2, 1) := by decide +kernel
theorem dX2_hourOn_218 : decode cX2_hourOn 218 = .ok (.invokevirtual 123, 3) := by decide +kernel
theorem dX2_hourOn_221 : decode cX2_hourOn 221 = .ok (.invokevirtual 67, 3) := by decide +kernel
theorem dX2_hourOn_224 : decode cX2_hourOn 224 = .ok (.iinc 2 1, 3) := by decide +kernel
theorem dX2_hourOn_227 : decode cX2_hourOn 227 = .ok (.goto (-71), 3) := by decide +kernel
theorem dX2_hourOn_230 : decode cX2_hourOn 230 = .ok (.iconst 0, 1) := by decide +kernel
theorem dX2_hourOn_231 : decode cX2_hourOn 231 = .ok (.istore_n 2, 1) := by decide +kernel
theorem dX2_hourOn_232 : decode cX2_hourOn 232 = .ok (.iload_n 2, 1) := by decide +kernel
theorem dX2_hourOn_233 : decode cX2_hourOn 233 = .ok (.aload_n 0, 1) := by decide +kernel
theorem dX2_hourOn_234 : decode cX2_hourOn 234 = .ok (.getfield 39, 3) := by decide +kernel
theorem dX2_hourOn_237 : decode cX2_hourOn 237 = .ok (.if_icmp .ge 21, 3) := by decide +kernel
theorem dX2_hourOn_240 : decode cX2_hourOn 240 = .ok (.aload_n 0, 1) := by decide +kernel
theorem dX2_hourOn_241 : decode cX2_hourOn 241 = .ok (.getfield 22, 3) := by decide +kernel
theorem dX2_hourOn_244 : decode cX2_hourOn 244 = .ok (.iconst 4, 1) := by decide +kernel
theorem dX2_hourOn_245 : decode cX2_hourOn 245 = .ok (.iload_n 2, 1) := by decide +kernel
theorem dX2_hourOn_246 : decode cX2_hourOn 246 = .ok (.imul, 1) := by decide +kernel
theorem dX2_hourOn_247 : decode cX2_hourOn 247 = .ok (.iconst 1, 1) := by decide +kernel
theorem dX2_hourOn_248 : decode cX2_hourOn 248 = .ok (.iadd, 1) := by decide +kernel
theorem dX2_hourOn_249 : decode cX2_hourOn 249 = .ok (.bipush 20, 2) := by decide +kernel
theorem dX2_hourOn_251 : decode cX2_hourOn 251 = .ok (.iastore, 1) := by decide +kernel
theorem dX2_hourOn_252 : decode cX2_hourOn 252 = .ok (.iinc 2 1, 3) := by decide +kernel
theorem dX2_hourOn_255 : decode cX2_hourOn 255 = .ok (.goto (-23), 3) := by decide +kernel
theorem dX2_hourOn_258 : decode cX2_hourOn 258 = .ok (.aload_n 0, 1) := by decide +kernel
theorem dX2_hourOn_259 : decode cX2_hourOn 259 = .ok (.dup, 1) := by decide +kernel
theorem dX2_hourOn_260 : decode cX2_hourOn 260 = .ok (.getfield 92, 3) := by decide +kernel
theorem dX2_hourOn_263 : decode cX2_hourOn 263 = .ok (.iconst 1, 1) := by decide +kernel
theorem dX2_hourOn_264 : decode cX2_hourOn 264 = .ok (.iadd, 1) := by decide +kernel
theorem dX2_hourOn_265 : decode cX2_hourOn 265 = .ok (.putfield 92, 3) := by decide +kernel
theorem dX2_hourOn_268 : decode cX2_hourOn 268 = .ok (.return_, 1) := by decide +kernel
set_option maxRecDepth 20000 in
theorem ggX2_pass_X2_isIn : GoodIn wsX2_pass wsX2_isIn := goodIn_r _ [6] (by decide +kernel) (by decide +kernel)
set_option maxRecDepth 20000 in
theorem gX2_pass_X2_isIn : GoodIn wsX2_pass (va_wsS RX2 42 yX2_isIn wsX2_isIn) := goodIn_app (goodIn_of _ (by decide +kernel)) ggX2_pass_X2_isIn
set_option maxRecDepth 20000 in
theorem ggX2_pass_X2_fail : GoodIn wsX2_pass wsX2_fail := goodIn_r _ [10, 1, 63, 64, 65, 66, 67, 68, 69, 70, 71, 72, 73, 74, 75, 76] (by decide +kernel) (by decide +kernel)
set_option maxRecDepth 20000 in
theorem gX2_pass_X2_fail : GoodIn wsX2_pass (wsV RX2 46 RX2 yX2_fail wsX2_fail) := goodIn_app (goodIn_of _ (by decide +kernel)) ggX2_pass_X2_fail
set_option maxRecDepth 20000 in
theorem ggX2_pass_X2_hourOn : GoodIn wsX2_pass wsX2_hourOn := goodIn_r _ [14, 15, 16, 17, 18, 19, 20, 21, 22, 23, 24, 25, 26, 27, 28, 29, 2, 30, 31, 32, 33, 34, 5, 35, 36, 37, 38, 39, 40, 41, 42, 43, 44, 45, 46, 47, 48, 49, 50, 51, 52, 53, 54, 55, 56, 57, 58, 59, 60, 61, 62, 63, 64, 65, 66, 67, 68, 69, 70, 71, 72, 73, 74, 75, 76] (by decide +kernel) (by decide +kernel)
set_option maxRecDepth 20000 in
theorem gX2_pass_X2_hourOn : GoodIn wsX2_pass (wsV RX2 126 RX2 yX2_hourOn wsX2_hourOn) := goodIn_app (goodIn_of _ (by decide +kernel)) ggX2_pass_X2_hourOn
theorem dX2_pass_0 : decode cX2_pass 0 = .ok (.aload_n 0, 1) := by decide +kernel
theorem dX2_pass_1 : decode cX2_pass 1 = .ok (.iconst 0, 1) := by decide +kernel
theorem dX2_pass_2 : decode cX2_pass 2 = .ok (.putfield 35, 3) := by decide +kernel
theorem dX2_pass_5 : decode cX2_pass 5 = .ok (.iload_n 1, 1) := by decide +kernel
theorem dX2_pass_6 : decode cX2_pass 6 = .ok (.iconst 1, 1) := by decide +kernel
theorem dX2_pass_7 : decode cX2_pass 7 = .ok (.bipush 48, 2) := by decide +kernel
theorem dX2_pass_9 : decode cX2_pass 9 = .ok (.invokestatic 42, 3) := by decide +kernel
theorem dX2_pass_12 : decode cX2_pass 12 = .ok (.ifCond .ne 9, 3) := by decide +kernel
theorem dX2_pass_15 : decode cX2_pass 15 = .ok (.aload_n 0, 1) := by decide +kernel
theorem dX2_pass_16 : decode cX2_pass 16 = .ok (.iconst 1, 1) := by decide +kernel
theorem dX2_pass_17 : decode cX2_pass 17 = .ok (.invokevirtual 46, 3) := by decide +kernel
theorem dX2_pass_20 : decode cX2_pass 20 = .ok (.ireturn, 1) := by decide +kernel
theorem dX2_pass_21 : decode cX2_pass 21 = .ok (.aload_n 0, 1) := by decide +kernel
theorem dX2_pass_22 : decode cX2_pass 22 = .ok (.getfield 101, 3) := by decide +kernel
theorem dX2_pass_25 : decode cX2_pass 25 = .ok (.istore_n 2, 1) := by decide +kernel
theorem dX2_pass_26 : decode cX2_pass 26 = .ok (.iconst 0, 1) := by decide +kernel
theorem dX2_pass_27 : decode cX2_pass 27 = .ok (.istore_n 3, 1) := by decide +kernel
theorem dX2_pass_28 : decode cX2_pass 28 = .ok (.iload_n 3, 1) := by decide +kernel
theorem dX2_pass_29 : decode cX2_pass 29 = .ok (.iload_n 1, 1) := by decide +kernel
theorem dX2_pass_30 : decode cX2_pass 30 = .ok (.if_icmp .ge 13, 3) := by decide +kernel
theorem dX2_pass_33 : decode cX2_pass 33 = .ok (.aload_n 0, 1) := by decide +kernel
theorem dX2_pass_34 : decode cX2_pass 34 = .ok (.invokevirtual 126, 3) := by decide +kernel
theorem dX2_pass_37 : decode cX2_pass 37 = .ok (.iinc 3 1, 3) := by decide +kernel
theorem dX2_pass_40 : decode cX2_pass 40 = .ok (.goto (-12), 3) := by decide +kernel
theorem dX2_pass_43 : decode cX2_pass 43 = .ok (.aload_n 0, 1) := by decide +kernel
theorem dX2_pass_44 : decode cX2_pass 44 = .ok (.getfield 101, 3) := by decide +kernel
theorem dX2_pass_47 : decode cX2_pass 47 = .ok (.iload_n 2, 1) := by decide +kernel
theorem dX2_pass_48 : decode cX2_pass 48 = .ok (.isub, 1) := by decide +kernel
theorem dX2_pass_49 : decode cX2_pass 49 = .ok (.ireturn, 1) := by decide +kernel
set_option maxRecDepth 20000 in
theorem ggX2_endRound_X2_get : GoodIn wsX2_endRound wsX2_get := goodIn_r _ [21, 4, 29, 30, 31, 32, 33, 34, 35, 36, 37, 38, 39, 40, 41, 42] (by decide +kernel) (by decide +kernel)
set_option maxRecDepth 20000 in
theorem gX2_endRound_X2_get : GoodIn wsX2_endRound (wsV RX2 54 RX2 yX2_get wsX2_get) := goodIn_app (goodIn_of _ (by decide +kernel)) ggX2_endRound_X2_get
set_option maxRecDepth 20000 in
theorem ggX2_endRound_X2_add : GoodIn wsX2_endRound wsX2_add := goodIn_r _ [25, 4, 29, 30, 31, 32, 33, 34, 35, 36, 37, 38, 39, 40, 41, 42] (by decide +kernel) (by decide +kernel)
set_option maxRecDepth 20000 in
theorem gX2_endRound_X2_add : GoodIn wsX2_endRound (wsV RX2 67 RX2 yX2_add wsX2_add) := goodIn_app (goodIn_of _ (by decide +kernel)) ggX2_endRound_X2_add
set_option maxRecDepth 20000 in
theorem ggX2_endRound_X2_fill : GoodIn wsX2_endRound wsX2_fill := goodIn_r _ [28] (by decide +kernel) (by decide +kernel)
set_option maxRecDepth 20000 in
theorem gX2_endRound_X2_fill : GoodIn wsX2_endRound (va_wsS RX2 31 yX2_fill wsX2_fill) := goodIn_app (goodIn_of _ (by decide +kernel)) ggX2_endRound_X2_fill
theorem dX2_endRound_0 : decode cX2_endRound 0 = .ok (.aload_n 0, 1) := by decide +kernel
theorem dX2_endRound_1 : decode cX2_endRound 1 = .ok (.iconst 0, 1) := by decide +kernel
theorem dX2_endRound_2 : decode cX2_endRound 2 = .ok (.putfield 35, 3) := by decide +kernel
theorem dX2_endRound_5 : decode cX2_endRound 5 = .ok (.iconst 0, 1) := by decide +kernel
theorem dX2_endRound_6 : decode cX2_endRound 6 = .ok (.istore_n 1, 1) := by decide +kernel
theorem dX2_endRound_7 : decode cX2_endRound 7 = .ok (.iload_n 1, 1) := by decide +kernel
theorem dX2_endRound_8 : decode cX2_endRound 8 = .ok (.aload_n 0, 1) := by decide +kernel
theorem dX2_endRound_9 : decode cX2_endRound 9 = .ok (.getfield 39, 3) := by decide +kernel
theorem dX2_endRound_12 : decode cX2_endRound 12 = .ok (.if_icmp .ge 47, 3) := by decide +kernel
theorem dX2_endRound_15 : decode cX2_endRound 15 = .ok (.iconst 0, 1) := by decide +kernel
theorem dX2_endRound_16 : decode cX2_endRound 16 = .ok (.istore_n 2, 1) := by decide +kernel
theorem dX2_endRound_17 : decode cX2_endRound 17 = .ok (.iload_n 2, 1) := by decide +kernel
theorem dX2_endRound_18 : decode cX2_endRound 18 = .ok (.aload_n 0, 1) := by decide +kernel
theorem dX2_endRound_19 : decode cX2_endRound 19 = .ok (.getfield 39, 3) := by decide +kernel
theorem dX2_endRound_22 : decode cX2_endRound 22 = .ok (.if_icmp .ge 31, 3) := by decide +kernel
theorem dX2_endRound_25 : decode cX2_endRound 25 = .ok (.aload_n 0, 1) := by decide +kernel
theorem dX2_endRound_26 : decode cX2_endRound 26 = .ok (.iload_n 2, 1) := by decide +kernel
theorem dX2_endRound_27 : decode cX2_endRound 27 = .ok (.iconst 2, 1) := by decide +kernel
theorem dX2_endRound_28 : decode cX2_endRound 28 = .ok (.invokevirtual 54, 3) := by decide +kernel
theorem dX2_endRound_31 : decode cX2_endRound 31 = .ok (.aload_n 0, 1) := by decide +kernel
theorem dX2_endRound_32 : decode cX2_endRound 32 = .ok (.iload_n 1, 1) := by decide +kernel
theorem dX2_endRound_33 : decode cX2_endRound 33 = .ok (.iconst 2, 1) := by decide +kernel
theorem dX2_endRound_34 : decode cX2_endRound 34 = .ok (.invokevirtual 54, 3) := by decide +kernel
theorem dX2_endRound_37 : decode cX2_endRound 37 = .ok (.if_icmp .ge 10, 3) := by decide +kernel
theorem dX2_endRound_40 : decode cX2_endRound 40 = .ok (.aload_n 0, 1) := by decide +kernel
theorem dX2_endRound_41 : decode cX2_endRound 41 = .ok (.iload_n 1, 1) := by decide +kernel
theorem dX2_endRound_42 : decode cX2_endRound 42 = .ok (.iconst 3, 1) := by decide +kernel
theorem dX2_endRound_43 : decode cX2_endRound 43 = .ok (.iconst 1, 1) := by decide +kernel
theorem dX2_endRound_44 : decode cX2_endRound 44 = .ok (.invokevirtual 67, 3) := by decide +kernel
theorem dX2_endRound_47 : decode cX2_endRound 47 = .ok (.iinc 2 1, 3) := by decide +kernel
theorem dX2_endRound_50 : decode cX2_endRound 50 = .ok (.goto (-33), 3) := by decide +kernel
theorem dX2_endRound_53 : decode cX2_endRound 53 = .ok (.iinc 1 1, 3) := by decide +kernel
theorem dX2_endRound_56 : decode cX2_endRound 56 = .ok (.goto (-49), 3) := by decide +kernel
theorem dX2_endRound_59 : decode cX2_endRound 59 = .ok (.iconst 0, 1) := by decide +kernel
theorem dX2_endRound_60 : decode cX2_endRound 60 = .ok (.istore_n 1, 1) := by decide +kernel
theorem dX2_endRound_61 : decode cX2_endRound 61 = .ok (.iload_n 1, 1) := by decide +kernel
theorem dX2_endRound_62 : decode cX2_endRound 62 = .ok (.aload_n 0, 1) := by decide +kernel
theorem dX2_endRound_63 : decode cX2_endRound 63 = .ok (.getfield 39, 3) := by decide +kernel
theorem dX2_endRound_66 : decode cX2_endRound 66 = .ok (.if_icmp .ge 40, 3) := by decide +kernel
theorem dX2_endRound_69 : decode cX2_endRound 69 = .ok (.iconst 3, 1) := by decide +kernel
theorem dX2_endRound_70 : decode cX2_endRound 70 = .ok (.newarray .int, 2) := by decide +kernel
theorem dX2_endRound_72 : decode cX2_endRound 72 = .ok (.dup, 1) := by decide +kernel
theorem dX2_endRound_73 : decode cX2_endRound 73 = .ok (.iconst 0, 1) := by decide +kernel
theorem dX2_endRound_74 : decode cX2_endRound 74 = .ok (.iconst 0, 1) := by decide +kernel
theorem dX2_endRound_75 : decode cX2_endRound 75 = .ok (.iastore, 1) := by decide +kernel
theorem dX2_endRound_76 : decode cX2_endRound 76 = .ok (.dup, 1) := by decide +kernel
theorem dX2_endRound_77 : decode cX2_endRound 77 = .ok (.iconst 1, 1) := by decide +kernel
theorem dX2_endRound_78 : decode cX2_endRound 78 = .ok (.bipush 20, 2) := by decide +kernel
theorem dX2_endRound_80 : decode cX2_endRound 80 = .ok (.iastore, 1) := by decide +kernel
theorem dX2_endRound_81 : decode cX2_endRound 81 = .ok (.dup, 1) := by decide +kernel
theorem dX2_endRound_82 : decode cX2_endRound 82 = .ok (.iconst 2, 1) := by decide +kernel
theorem dX2_endRound_83 : decode cX2_endRound 83 = .ok (.iconst 0, 1) := by decide +kernel
theorem dX2_endRound_84 : decode cX2_endRound 84 = .ok (.iastore, 1) := by decide +kernel
theorem dX2_endRound_85 : decode cX2_endRound 85 = .ok (.astore_n 2, 1) := by decide +kernel
theorem dX2_endRound_86 : decode cX2_endRound 86 = .ok (.aload_n 2, 1) := by decide +kernel
theorem dX2_endRound_87 : decode cX2_endRound 87 = .ok (.iconst 0, 1) := by decide +kernel
theorem dX2_endRound_88 : decode cX2_endRound 88 = .ok (.aload_n 0, 1) := by decide +kernel
theorem dX2_endRound_89 : decode cX2_endRound 89 = .ok (.getfield 22, 3) := by decide +kernel
theorem dX2_endRound_92 : decode cX2_endRound 92 = .ok (.iconst 4, 1) := by decide +kernel
theorem dX2_endRound_93 : decode cX2_endRound 93 = .ok (.iload_n 1, 1) := by decide +kernel
theorem dX2_endRound_94 : decode cX2_endRound 94 = .ok (.imul, 1) := by decide +kernel
theorem dX2_endRound_95 : decode cX2_endRound 95 = .ok (.aload_n 2, 1) := by decide +kernel
theorem dX2_endRound_96 : decode cX2_endRound 96 = .ok (.arraylength, 1) := by decide +kernel
theorem dX2_endRound_97 : decode cX2_endRound 97 = .ok (.invokestatic 129, 3) := by decide +kernel
theorem dX2_endRound_100 : decode cX2_endRound 100 = .ok (.iinc 1 1, 3) := by decide +kernel
theorem dX2_endRound_103 : decode cX2_endRound 103 = .ok (.goto (-42), 3) := by decide +kernel
theorem dX2_endRound_106 : decode cX2_endRound 106 = .ok (.aload_n 0, 1) := by decide +kernel
theorem dX2_endRound_107 : decode cX2_endRound 107 = .ok (.getfield 9, 3) := by decide +kernel
theorem dX2_endRound_110 : decode cX2_endRound 110 = .ok (.iconst 4, 1) := by decide +kernel
theorem dX2_endRound_111 : decode cX2_endRound 111 = .ok (.invokestatic 31, 3) := by decide +kernel
theorem dX2_endRound_114 : decode cX2_endRound 114 = .ok (.aload_n 0, 1) := by decide +kernel
theorem dX2_endRound_115 : decode cX2_endRound 115 = .ok (.getfield 13, 3) := by decide +kernel
theorem dX2_endRound_118 : decode cX2_endRound 118 = .ok (.iconst 0, 1) := by decide +kernel
theorem dX2_endRound_119 : decode cX2_endRound 119 = .ok (.invokestatic 31, 3) := by decide +kernel
theorem dX2_endRound_122 : decode cX2_endRound 122 = .ok (.aload_n 0, 1) := by decide +kernel
theorem dX2_endRound_123 : decode cX2_endRound 123 = .ok (.getfield 16, 3) := by decide +kernel
theorem dX2_endRound_126 : decode cX2_endRound 126 = .ok (.iconst 0, 1) := by decide +kernel
theorem dX2_endRound_127 : decode cX2_endRound 127 = .ok (.invokestatic 31, 3) := by decide +kernel
theorem dX2_endRound_130 : decode cX2_endRound 130 = .ok (.aload_n 0, 1) := by decide +kernel
theorem dX2_endRound_131 : decode cX2_endRound 131 = .ok (.getfield 19, 3) := by decide +kernel
theorem dX2_endRound_134 : decode cX2_endRound 134 = .ok (.iconst 0, 1) := by decide +kernel
theorem dX2_endRound_135 : decode cX2_endRound 135 = .ok (.invokestatic 31, 3) := by decide +kernel
theorem dX2_endRound_138 : decode cX2_endRound 138 = .ok (.aload_n 0, 1) := by decide +kernel
theorem dX2_endRound_139 : decode cX2_endRound 139 = .ok (.iconst 0, 1) := by decide +kernel
theorem dX2_endRound_140 : decode cX2_endRound 140 = .ok (.putfield 95, 3) := by decide +kernel
theorem dX2_endRound_143 : decode cX2_endRound 143 = .ok (.aload_n 0, 1) := by decide +kernel
theorem dX2_endRound_144 : decode cX2_endRound 144 = .ok (.iconst 0, 1) := by decide +kernel
theorem dX2_endRound_145 : decode cX2_endRound 145 = .ok (.putfield 98, 3) := by decide +kernel
theorem dX2_endRound_148 : decode cX2_endRound 148 = .ok (.aload_n 0, 1) := by decide +kernel
theorem dX2_endRound_149 : decode cX2_endRound 149 = .ok (.iconst 0, 1) := by decide +kernel
theorem dX2_endRound_150 : decode cX2_endRound 150 = .ok (.putfield 101, 3) := by decide +kernel
theorem dX2_endRound_153 : decode cX2_endRound 153 = .ok (.aload_n 0, 1) := by decide +kernel
theorem dX2_endRound_154 : decode cX2_endRound 154 = .ok (.dup, 1) := by decide +kernel
theorem dX2_endRound_155 : decode cX2_endRound 155 = .ok (.getfield 104, 3) := by decide +kernel
theorem dX2_endRound_158 : decode cX2_endRound 158 = .ok (.iconst 1, 1) := by decide +kernel
theorem dX2_endRound_159 : decode cX2_endRound 159 = .ok (.iadd, 1) := by decide +kernel
theorem dX2_endRound_160 : decode cX2_endRound 160 = .ok (.putfield 104, 3) := by decide +kernel
theorem dX2_endRound_163 : decode cX2_endRound 163 = .ok (.aload_n 0, 1) := by decide +kernel
theorem dX2_endRound_164 : decode cX2_endRound 164 = .ok (.getfield 104, 3) := by decide +kernel
theorem dX2_endRound_167 : decode cX2_endRound 167 = .ok (.ireturn, 1) := by decide +kernel
set_option maxRecDepth 20000 in
theorem ggX2_isAhead_X2_get : GoodIn wsX2_isAhead wsX2_get := goodIn_r _ [5, 6, 7, 8, 9, 10, 11, 12, 13, 14, 15, 16, 17, 18, 19, 20] (by decide +kernel) (by decide +kernel)
set_option maxRecDepth 20000 in
theorem gX2_isAhead_X2_get : GoodIn wsX2_isAhead (wsV RX2 54 RX2 yX2_get wsX2_get) := goodIn_app (goodIn_of _ (by decide +kernel)) ggX2_isAhead_X2_get
theorem dX2_isAhead_0 : decode cX2_isAhead 0 = .ok (.aload_n 0, 1) := by decide +kernel
theorem dX2_isAhead_1 : decode cX2_isAhead 1 = .ok (.iload_n 1, 1) := by decide +kernel
theorem dX2_isAhead_2 : decode cX2_isAhead 2 = .ok (.iconst 3, 1) := by decide +kernel
theorem dX2_isAhead_3 : decode cX2_isAhead 3 = .ok (.invokevirtual 54, 3) := by decide +kernel
theorem dX2_isAhead_6 : decode cX2_isAhead 6 = .ok (.aload_n 0, 1) := by decide +kernel
theorem dX2_isAhead_7 : decode cX2_isAhead 7 = .ok (.iload_n 2, 1) := by decide +kernel
theorem dX2_isAhead_8 : decode cX2_isAhead 8 = .ok (.iconst 3, 1) := by decide +kernel
theorem dX2_isAhead_9 : decode cX2_isAhead 9 = .ok (.invokevirtual 54, 3) := by decide +kernel
theorem dX2_isAhead_12 : decode cX2_isAhead 12 = .ok (.if_icmp .eq 24, 3) := by decide +kernel
theorem dX2_isAhead_15 : decode cX2_isAhead 15 = .ok (.aload_n 0, 1) := by decide +kernel
theorem dX2_isAhead_16 : decode cX2_isAhead 16 = .ok (.iload_n 1, 1) := by decide +kernel
theorem dX2_isAhead_17 : decode cX2_isAhead 17 = .ok (.iconst 3, 1) := by decide +kernel
theorem dX2_isAhead_18 : decode cX2_isAhead 18 = .ok (.invokevirtual 54, 3) := by decide +kernel
theorem dX2_isAhead_21 : decode cX2_isAhead 21 = .ok (.aload_n 0, 1) := by decide +kernel
theorem dX2_isAhead_22 : decode cX2_isAhead 22 = .ok (.iload_n 2, 1) := by decide +kernel
theorem dX2_isAhead_23 : decode cX2_isAhead 23 = .ok (.iconst 3, 1) := by decide +kernel
theorem dX2_isAhead_24 : decode cX2_isAhead 24 = .ok (.invokevirtual 54, 3) := by decide +kernel
theorem dX2_isAhead_27 : decode cX2_isAhead 27 = .ok (.if_icmp .le 7, 3) := by decide +kernel
theorem dX2_isAhead_30 : decode cX2_isAhead 30 = .ok (.iconst 1, 1) := by decide +kernel
theorem dX2_isAhead_31 : decode cX2_isAhead 31 = .ok (.goto 4, 3) := by decide +kernel
theorem dX2_isAhead_34 : decode cX2_isAhead 34 = .ok (.iconst 0, 1) := by decide +kernel
theorem dX2_isAhead_35 : decode cX2_isAhead 35 = .ok (.ireturn, 1) := by decide +kernel
theorem dX2_isAhead_36 : decode cX2_isAhead 36 = .ok (.aload_n 0, 1) := by decide +kernel
theorem dX2_isAhead_37 : decode cX2_isAhead 37 = .ok (.iload_n 1, 1) := by decide +kernel
theorem dX2_isAhead_38 : decode cX2_isAhead 38 = .ok (.iconst 2, 1) := by decide +kernel
theorem dX2_isAhead_39 : decode cX2_isAhead 39 = .ok (.invokevirtual 54, 3) := by decide +kernel
theorem dX2_isAhead_42 : decode cX2_isAhead 42 = .ok (.aload_n 0, 1) := by decide +kernel
theorem dX2_isAhead_43 : decode cX2_isAhead 43 = .ok (.iload_n 2, 1) := by decide +kernel
theorem dX2_isAhead_44 : decode cX2_isAhead 44 = .ok (.iconst 2, 1) := by decide +kernel
theorem dX2_isAhead_45 : decode cX2_isAhead 45 = .ok (.invokevirtual 54, 3) := by decide +kernel
theorem dX2_isAhead_48 : decode cX2_isAhead 48 = .ok (.if_icmp .eq 26, 3) := by decide +kernel
theorem dX2_isAhead_51 : decode cX2_isAhead 51 = .ok (.aload_n 0, 1) := by decide +kernel
theorem dX2_isAhead_52 : decode cX2_isAhead 52 = .ok (.iload_n 1, 1) := by decide +kernel
theorem dX2_isAhead_53 : decode cX2_isAhead 53 = .ok (.iconst 2, 1) := by decide +kernel
theorem dX2_isAhead_54 : decode cX2_isAhead 54 = .ok (.invokevirtual 54, 3) := by decide +kernel
theorem dX2_isAhead_57 : decode cX2_isAhead 57 = .ok (.aload_n 0, 1) := by decide +kernel
theorem dX2_isAhead_58 : decode cX2_isAhead 58 = .ok (.iload_n 2, 1) := by decide +kernel
theorem dX2_isAhead_59 : decode cX2_isAhead 59 = .ok (.iconst 2, 1) := by decide +kernel
theorem dX2_isAhead_60 : decode cX2_isAhead 60 = .ok (.invokevirtual 54, 3) := by decide +kernel
theorem dX2_isAhead_63 : decode cX2_isAhead 63 = .ok (.if_icmp .le 7, 3) := by decide +kernel
theorem dX2_isAhead_66 : decode cX2_isAhead 66 = .ok (.iconst 1, 1) := by decide +kernel
theorem dX2_isAhead_67 : decode cX2_isAhead 67 = .ok (.goto 17, 3) := by decide +kernel
theorem dX2_isAhead_70 : decode cX2_isAhead 70 = .ok (.iconst 0, 1) := by decide +kernel
theorem dX2_isAhead_71 : decode cX2_isAhead 71 = .ok (.goto 13, 3) := by decide +kernel
theorem dX2_isAhead_74 : decode cX2_isAhead 74 = .ok (.iload_n 1, 1) := by decide +kernel
theorem dX2_isAhead_75 : decode cX2_isAhead 75 = .ok (.iload_n 2, 1) := by decide +kernel
theorem dX2_isAhead_76 : decode cX2_isAhead 76 = .ok (.if_icmp .ge 7, 3) := by decide +kernel
theorem dX2_isAhead_79 : decode cX2_isAhead 79 = .ok (.iconst 1, 1) := by decide +kernel
theorem dX2_isAhead_80 : decode cX2_isAhead 80 = .ok (.goto 4, 3) := by decide +kernel
theorem dX2_isAhead_83 : decode cX2_isAhead 83 = .ok (.iconst 0, 1) := by decide +kernel
theorem dX2_isAhead_84 : decode cX2_isAhead 84 = .ok (.ireturn, 1) := by decide +kernel
set_option maxRecDepth 20000 in
theorem ggX2_leader_X2_isAhead : GoodIn wsX2_leader wsX2_isAhead := goodIn_r _ [7, 8, 9, 10, 6, 11, 12, 17, 18, 19, 20, 21, 22, 23, 24, 25, 26, 27, 28, 29, 30] (by decide +kernel) (by decide +kernel)
set_option maxRecDepth 20000 in
theorem gX2_leader_X2_isAhead : GoodIn wsX2_leader (wsV RX2 135 RX2 yX2_isAhead wsX2_isAhead) := goodIn_app (goodIn_of _ (by decide +kernel)) ggX2_leader_X2_isAhead
set_option maxRecDepth 20000 in
theorem ggX2_leader_X2_fail : GoodIn wsX2_leader wsX2_fail := goodIn_r _ [16, 1, 17, 18, 19, 20, 21, 22, 23, 24, 25, 26, 27, 28, 29, 30] (by decide +kernel) (by decide +kernel)
set_option maxRecDepth 20000 in
theorem gX2_leader_X2_fail : GoodIn wsX2_leader (wsV RX2 46 RX2 yX2_fail wsX2_fail) := goodIn_app (goodIn_of _ (by decide +kernel)) ggX2_leader_X2_fail
theorem dX2_leader_0 : decode cX2_leader 0 = .ok (.aload_n 0, 1) := by decide +kernel
theorem dX2_leader_1 : decode cX2_leader 1 = .ok (.iconst 0, 1) := by decide +kernel
theorem dX2_leader_2 : decode cX2_leader 2 = .ok (.putfield 35, 3) := by decide +kernel
theorem dX2_leader_5 : decode cX2_leader 5 = .ok (.iconst 0, 1) := by decide +kernel
theorem dX2_leader_6 : decode cX2_leader 6 = .ok (.istore_n 2, 1) := by decide +kernel
theorem dX2_leader_7 : decode cX2_leader 7 = .ok (.iload_n 2, 1) := by decide +kernel
theorem dX2_leader_8 : decode cX2_leader 8 = .ok (.aload_n 0, 1) := by decide +kernel
theorem dX2_leader_9 : decode cX2_leader 9 = .ok (.getfield 39, 3) := by decide +kernel
theorem dX2_leader_12 : decode cX2_leader 12 = .ok (.if_icmp .ge 54, 3) := by decide +kernel
theorem dX2_leader_15 : decode cX2_leader 15 = .ok (.iconst 0, 1) := by decide +kernel
theorem dX2_leader_16 : decode cX2_leader 16 = .ok (.istore_n 3, 1) := by decide +kernel
theorem dX2_leader_17 : decode cX2_leader 17 = .ok (.iconst 0, 1) := by decide +kernel
theorem dX2_leader_18 : decode cX2_leader 18 = .ok (.istore 4, 2) := by decide +kernel
theorem dX2_leader_20 : decode cX2_leader 20 = .ok (.iload 4, 2) := by decide +kernel
theorem dX2_leader_22 : decode cX2_leader 22 = .ok (.aload_n 0, 1) := by decide +kernel
theorem dX2_leader_23 : decode cX2_leader 23 = .ok (.getfield 39, 3) := by decide +kernel
theorem dX2_leader_26 : decode cX2_leader 26 = .ok (.if_icmp .ge 27, 3) := by decide +kernel
theorem dX2_leader_29 : decode cX2_leader 29 = .ok (.iload_n 3, 1) := by decide +kernel
theorem dX2_leader_30 : decode cX2_leader 30 = .ok (.aload_n 0, 1) := by decide +kernel
theorem dX2_leader_31 : decode cX2_leader 31 = .ok (.iload 4, 2) := by decide +kernel
theorem dX2_leader_33 : decode cX2_leader 33 = .ok (.iload_n 2, 1) := by decide +kernel
theorem dX2_leader_34 : decode cX2_leader 34 = .ok (.invokevirtual 135, 3) := by decide +kernel
theorem dX2_leader_37 : decode cX2_leader 37 = .ok (.ifCond .eq 7, 3) := by decide +kernel
theorem dX2_leader_40 : decode cX2_leader 40 = .ok (.iconst 1, 1) := by decide +kernel
theorem dX2_leader_41 : decode cX2_leader 41 = .ok (.goto 4, 3) := by decide +kernel
theorem dX2_leader_44 : decode cX2_leader 44 = .ok (.iconst 0, 1) := by decide +kernel
theorem dX2_leader_45 : decode cX2_leader 45 = .ok (.iadd, 1) := by decide +kernel
theorem dX2_leader_46 : decode cX2_leader 46 = .ok (.istore_n 3, 1) := by decide +kernel
theorem dX2_leader_47 : decode cX2_leader 47 = .ok (.iinc 4 1, 3) := by decide +kernel
theorem dX2_leader_50 : decode cX2_leader 50 = .ok (.goto (-30), 3) := by decide +kernel
theorem dX2_leader_53 : decode cX2_leader 53 = .ok (.iload_n 3, 1) := by decide +kernel
theorem dX2_leader_54 : decode cX2_leader 54 = .ok (.iload_n 1, 1) := by decide +kernel
theorem dX2_leader_55 : decode cX2_leader 55 = .ok (.if_icmp .ne 5, 3) := by decide +kernel
theorem dX2_leader_58 : decode cX2_leader 58 = .ok (.iload_n 2, 1) := by decide +kernel
theorem dX2_leader_59 : decode cX2_leader 59 = .ok (.ireturn, 1) := by decide +kernel
theorem dX2_leader_60 : decode cX2_leader 60 = .ok (.iinc 2 1, 3) := by decide +kernel
theorem dX2_leader_63 : decode cX2_leader 63 = .ok (.goto (-56), 3) := by decide +kernel
theorem dX2_leader_66 : decode cX2_leader 66 = .ok (.aload_n 0, 1) := by decide +kernel
theorem dX2_leader_67 : decode cX2_leader 67 = .ok (.iconst 1, 1) := by decide +kernel
theorem dX2_leader_68 : decode cX2_leader 68 = .ok (.invokevirtual 46, 3) := by decide +kernel
theorem dX2_leader_71 : decode cX2_leader 71 = .ok (.ireturn, 1) := by decide +kernel
set_option maxRecDepth 20000 in
theorem ggX2_flood_X2_isIn : GoodIn wsX2_flood wsX2_isIn := goodIn_r _ [6] (by decide +kernel) (by decide +kernel)
set_option maxRecDepth 20000 in
theorem gX2_flood_X2_isIn : GoodIn wsX2_flood (va_wsS RX2 42 yX2_isIn wsX2_isIn) := goodIn_app (goodIn_of _ (by decide +kernel)) ggX2_flood_X2_isIn
set_option maxRecDepth 20000 in
theorem ggX2_flood_X2_fail : GoodIn wsX2_flood wsX2_fail := goodIn_r _ [10, 1, 27, 28, 29, 30, 31, 32, 33, 34, 35, 36, 37, 38, 39, 40] (by decide +kernel) (by decide +kernel)
set_option maxRecDepth 20000 in
theorem gX2_flood_X2_fail : GoodIn wsX2_flood (wsV RX2 46 RX2 yX2_fail wsX2_fail) := goodIn_app (goodIn_of _ (by decide +kernel)) ggX2_flood_X2_fail
set_option maxRecDepth 20000 in
theorem ggX2_flood_X2_findOver : GoodIn wsX2_flood wsX2_findOver := goodIn_r _ [14, 2, 15, 16, 17, 18, 19, 20, 21, 5, 22, 23, 24, 25, 26, 27, 28, 29, 30, 31, 32, 33, 34, 35, 36, 37, 38, 39, 40] (by decide +kernel) (by decide +kernel)
set_option maxRecDepth 20000 in
theorem gX2_flood_X2_findOver : GoodIn wsX2_flood (wsV RX2 113 RX2 yX2_findOver wsX2_findOver) := goodIn_app (goodIn_of _ (by decide +kernel)) ggX2_flood_X2_findOver
theorem dX2_flood_0 : decode cX2_flood 0 = .ok (.aload_n 0, 1) := by decide +kernel
theorem dX2_flood_1 : decode cX2_flood 1 = .ok (.iconst 0, 1) := by decide +kernel
theorem dX2_flood_2 : decode cX2_flood 2 = .ok (.putfield 35, 3) := by decide +kernel
theorem dX2_flood_5 : decode cX2_flood 5 = .ok (.iload_n 1, 1) := by decide +kernel
theorem dX2_flood_6 : decode cX2_flood 6 = .ok (.iconst 0, 1) := by decide +kernel
theorem dX2_flood_7 : decode cX2_flood 7 = .ok (.bipush 30, 2) := by decide +kernel
theorem dX2_flood_9 : decode cX2_flood 9 = .ok (.invokestatic 42, 3) := by decide +kernel
theorem dX2_flood_12 : decode cX2_flood 12 = .ok (.ifCond .ne 9, 3) := by decide +kernel
theorem dX2_flood_15 : decode cX2_flood 15 = .ok (.aload_n 0, 1) := by decide +kernel
theorem dX2_flood_16 : decode cX2_flood 16 = .ok (.iconst 1, 1) := by decide +kernel
theorem dX2_flood_17 : decode cX2_flood 17 = .ok (.invokevirtual 46, 3) := by decide +kernel
theorem dX2_flood_20 : decode cX2_flood 20 = .ok (.ireturn, 1) := by decide +kernel
theorem dX2_flood_21 : decode cX2_flood 21 = .ok (.aload_n 0, 1) := by decide +kernel
theorem dX2_flood_22 : decode cX2_flood 22 = .ok (.invokevirtual 113, 3) := by decide +kernel
theorem dX2_flood_25 : decode cX2_flood 25 = .ok (.iconst 0, 1) := by decide +kernel
theorem dX2_flood_26 : decode cX2_flood 26 = .ok (.istore_n 2, 1) := by decide +kernel
theorem dX2_flood_27 : decode cX2_flood 27 = .ok (.iconst 0, 1) := by decide +kernel
theorem dX2_flood_28 : decode cX2_flood 28 = .ok (.istore_n 3, 1) := by decide +kernel
theorem dX2_flood_29 : decode cX2_flood 29 = .ok (.iload_n 3, 1) := by decide +kernel
theorem dX2_flood_30 : decode cX2_flood 30 = .ok (.bipush 120, 2) := by decide +kernel
theorem dX2_flood_32 : decode cX2_flood 32 = .ok (.if_icmp .ge 27, 3) := by decide +kernel
theorem dX2_flood_35 : decode cX2_flood 35 = .ok (.iload_n 2, 1) := by decide +kernel
theorem dX2_flood_36 : decode cX2_flood 36 = .ok (.aload_n 0, 1) := by decide +kernel
theorem dX2_flood_37 : decode cX2_flood 37 = .ok (.getfield 28, 3) := by decide +kernel
theorem dX2_flood_40 : decode cX2_flood 40 = .ok (.iload_n 3, 1) := by decide +kernel
theorem dX2_flood_41 : decode cX2_flood 41 = .ok (.iaload, 1) := by decide +kernel
theorem dX2_flood_42 : decode cX2_flood 42 = .ok (.iload_n 1, 1) := by decide +kernel
theorem dX2_flood_43 : decode cX2_flood 43 = .ok (.if_icmp .ge 7, 3) := by decide +kernel
theorem dX2_flood_46 : decode cX2_flood 46 = .ok (.iconst 1, 1) := by decide +kernel
theorem dX2_flood_47 : decode cX2_flood 47 = .ok (.goto 4, 3) := by decide +kernel
theorem dX2_flood_50 : decode cX2_flood 50 = .ok (.iconst 0, 1) := by decide +kernel
theorem dX2_flood_51 : decode cX2_flood 51 = .ok (.iadd, 1) := by decide +kernel
theorem dX2_flood_52 : decode cX2_flood 52 = .ok (.istore_n 2, 1) := by decide +kernel
theorem dX2_flood_53 : decode cX2_flood 53 = .ok (.iinc 3 1, 3) := by decide +kernel
theorem dX2_flood_56 : decode cX2_flood 56 = .ok (.goto (-27), 3) := by decide +kernel
theorem dX2_flood_59 : decode cX2_flood 59 = .ok (.iload_n 2, 1) := by decide +kernel
theorem dX2_flood_60 : decode cX2_flood 60 = .ok (.ireturn, 1) := by decide +kernel
set_option maxRecDepth 20000 in
theorem ggX2_reach_X2_isIn : GoodIn wsX2_reach wsX2_isIn := goodIn_r _ [6] (by decide +kernel) (by decide +kernel)
set_option maxRecDepth 20000 in
theorem gX2_reach_X2_isIn : GoodIn wsX2_reach (va_wsS RX2 42 yX2_isIn wsX2_isIn) := goodIn_app (goodIn_of _ (by decide +kernel)) ggX2_reach_X2_isIn
set_option maxRecDepth 20000 in
theorem ggX2_reach_X2_fail : GoodIn wsX2_reach wsX2_fail := goodIn_r _ [10, 1, 27, 28, 29, 30, 31, 32, 33, 34, 35, 36, 37, 38, 39, 40] (by decide +kernel) (by decide +kernel)
set_option maxRecDepth 20000 in
theorem gX2_reach_X2_fail : GoodIn wsX2_reach (wsV RX2 46 RX2 yX2_fail wsX2_fail) := goodIn_app (goodIn_of _ (by decide +kernel)) ggX2_reach_X2_fail
set_option maxRecDepth 20000 in
theorem ggX2_reach_X2_findOver : GoodIn wsX2_reach wsX2_findOver := goodIn_r _ [14, 2, 15, 16, 17, 18, 19, 20, 21, 5, 22, 23, 24, 25, 26, 27, 28, 29, 30, 31, 32, 33, 34, 35, 36, 37, 38, 39, 40] (by decide +kernel) (by decide +kernel)
set_option maxRecDepth 20000 in
theorem gX2_reach_X2_findOver : GoodIn wsX2_reach (wsV RX2 113 RX2 yX2_findOver wsX2_findOver) := goodIn_app (goodIn_of _ (by decide +kernel)) ggX2_reach_X2_findOver
theorem dX2_reach_0 : decode cX2_reach 0 = .ok (.aload_n 0, 1) := by decide +kernel
theorem dX2_reach_1 : decode cX2_reach 1 = .ok (.iconst 0, 1) := by decide +kernel
theorem dX2_reach_2 : decode cX2_reach 2 = .ok (.putfield 35, 3) := by decide +kernel
theorem dX2_reach_5 : decode cX2_reach 5 = .ok (.iload_n 1, 1) := by decide +kernel
theorem dX2_reach_6 : decode cX2_reach 6 = .ok (.iconst 0, 1) := by decide +kernel
theorem dX2_reach_7 : decode cX2_reach 7 = .ok (.bipush 11, 2) := by decide +kernel
theorem dX2_reach_9 : decode cX2_reach 9 = .ok (.invokestatic 42, 3) := by decide +kernel
theorem dX2_reach_12 : decode cX2_reach 12 = .ok (.ifCond .eq 13, 3) := by decide +kernel
theorem dX2_reach_15 : decode cX2_reach 15 = .ok (.iload_n 2, 1) := by decide +kernel
theorem dX2_reach_16 : decode cX2_reach 16 = .ok (.iconst 0, 1) := by decide +kernel
theorem dX2_reach_17 : decode cX2_reach 17 = .ok (.bipush 9, 2) := by decide +kernel
theorem dX2_reach_19 : decode cX2_reach 19 = .ok (.invokestatic 42, 3) := by decide +kernel
theorem dX2_reach_22 : decode cX2_reach 22 = .ok (.ifCond .ne 9, 3) := by decide +kernel
theorem dX2_reach_25 : decode cX2_reach 25 = .ok (.aload_n 0, 1) := by decide +kernel
theorem dX2_reach_26 : decode cX2_reach 26 = .ok (.iconst 1, 1) := by decide +kernel
theorem dX2_reach_27 : decode cX2_reach 27 = .ok (.invokevirtual 46, 3) := by decide +kernel
theorem dX2_reach_30 : decode cX2_reach 30 = .ok (.ireturn, 1) := by decide +kernel
theorem dX2_reach_31 : decode cX2_reach 31 = .ok (.aload_n 0, 1) := by decide +kernel
theorem dX2_reach_32 : decode cX2_reach 32 = .ok (.invokevirtual 113, 3) := by decide +kernel
theorem dX2_reach_35 : decode cX2_reach 35 = .ok (.aload_n 0, 1) := by decide +kernel
theorem dX2_reach_36 : decode cX2_reach 36 = .ok (.getfield 28, 3) := by decide +kernel
theorem dX2_reach_39 : decode cX2_reach 39 = .ok (.iload_n 1, 1) := by decide +kernel
theorem dX2_reach_40 : decode cX2_reach 40 = .ok (.bipush 12, 2) := by decide +kernel
theorem dX2_reach_42 : decode cX2_reach 42 = .ok (.iload_n 2, 1) := by decide +kernel
theorem dX2_reach_43 : decode cX2_reach 43 = .ok (.imul, 1) := by decide +kernel
theorem dX2_reach_44 : decode cX2_reach 44 = .ok (.iadd, 1) := by decide +kernel
theorem dX2_reach_45 : decode cX2_reach 45 = .ok (.iaload, 1) := by decide +kernel
theorem dX2_reach_46 : decode cX2_reach 46 = .ok (.iconst 1, 1) := by decide +kernel
theorem dX2_reach_47 : decode cX2_reach 47 = .ok (.iadd, 1) := by decide +kernel
theorem dX2_reach_48 : decode cX2_reach 48 = .ok (.ireturn, 1) := by decide +kernel
theorem dX2_kept_0 : decode cX2_kept 0 = .ok (.bipush 6, 2) := by decide +kernel
theorem dX2_kept_2 : decode cX2_kept 2 = .ok (.anewarray 138, 3) := by decide +kernel
theorem dX2_kept_5 : decode cX2_kept 5 = .ok (.dup, 1) := by decide +kernel
theorem dX2_kept_6 : decode cX2_kept 6 = .ok (.iconst 0, 1) := by decide +kernel
theorem dX2_kept_7 : decode cX2_kept 7 = .ok (.aload_n 0, 1) := by decide +kernel
theorem dX2_kept_8 : decode cX2_kept 8 = .ok (.getfield 9, 3) := by decide +kernel
theorem dX2_kept_11 : decode cX2_kept 11 = .ok (.invokevirtual 139, 3) := by decide +kernel
theorem dX2_kept_14 : decode cX2_kept 14 = .ok (.checkcast 138, 3) := by decide +kernel
theorem dX2_kept_17 : decode cX2_kept 17 = .ok (.aastore, 1) := by decide +kernel
theorem dX2_kept_18 : decode cX2_kept 18 = .ok (.dup, 1) := by decide +kernel
theorem dX2_kept_19 : decode cX2_kept 19 = .ok (.iconst 1, 1) := by decide +kernel
theorem dX2_kept_20 : decode cX2_kept 20 = .ok (.aload_n 0, 1) := by decide +kernel
theorem dX2_kept_21 : decode cX2_kept 21 = .ok (.getfield 13, 3) := by decide +kernel
theorem dX2_kept_24 : decode cX2_kept 24 = .ok (.invokevirtual 139, 3) := by decide +kernel
theorem dX2_kept_27 : decode cX2_kept 27 = .ok (.checkcast 138, 3) := by decide +kernel
theorem dX2_kept_30 : decode cX2_kept 30 = .ok (.aastore, 1) := by decide +kernel
theorem dX2_kept_31 : decode cX2_kept 31 = .ok (.dup, 1) := by decide +kernel
theorem dX2_kept_32 : decode cX2_kept 32 = .ok (.iconst 2, 1) := by decide +kernel
theorem dX2_kept_33 : decode cX2_kept 33 = .ok (.aload_n 0, 1) := by decide +kernel
theorem dX2_kept_34 : decode cX2_kept 34 = .ok (.getfield 16, 3) := by decide +kernel
theorem dX2_kept_37 : decode cX2_kept 37 = .ok (.invokevirtual 139, 3) := by decide +kernel
theorem dX2_kept_40 : decode cX2_kept 40 = .ok (.checkcast 138, 3) := by decide +kernel
theorem dX2_kept_43 : decode cX2_kept 43 = .ok (.aastore, 1) := by decide +kernel
theorem dX2_kept_44 : decode cX2_kept 44 = .ok (.dup, 1) := by decide +kernel
theorem dX2_kept_45 : decode cX2_kept 45 = .ok (.iconst 3, 1) := by decide +kernel
theorem dX2_kept_46 : decode cX2_kept 46 = .ok (.aload_n 0, 1) := by decide +kernel
theorem dX2_kept_47 : decode cX2_kept 47 = .ok (.getfield 19, 3) := by decide +kernel
theorem dX2_kept_50 : decode cX2_kept 50 = .ok (.invokevirtual 139, 3) := by decide +kernel
theorem dX2_kept_53 : decode cX2_kept 53 = .ok (.checkcast 138, 3) := by decide +kernel
theorem dX2_kept_56 : decode cX2_kept 56 = .ok (.aastore, 1) := by decide +kernel
theorem dX2_kept_57 : decode cX2_kept 57 = .ok (.dup, 1) := by decide +kernel
theorem dX2_kept_58 : decode cX2_kept 58 = .ok (.iconst 4, 1) := by decide +kernel
theorem dX2_kept_59 : decode cX2_kept 59 = .ok (.aload_n 0, 1) := by decide +kernel
theorem dX2_kept_60 : decode cX2_kept 60 = .ok (.getfield 22, 3) := by decide +kernel
theorem dX2_kept_63 : decode cX2_kept 63 = .ok (.invokevirtual 139, 3) := by decide +kernel
theorem dX2_kept_66 : decode cX2_kept 66 = .ok (.checkcast 138, 3) := by decide +kernel
theorem dX2_kept_69 : decode cX2_kept 69 = .ok (.aastore, 1) := by decide +kernel
theorem dX2_kept_70 : decode cX2_kept 70 = .ok (.dup, 1) := by decide +kernel
theorem dX2_kept_71 : decode cX2_kept 71 = .ok (.iconst 5, 1) := by decide +kernel
theorem dX2_kept_72 : decode cX2_kept 72 = .ok (.iconst 4, 1) := by decide +kernel
theorem dX2_kept_73 : decode cX2_kept 73 = .ok (.newarray .int, 2) := by decide +kernel
theorem dX2_kept_75 : decode cX2_kept 75 = .ok (.dup, 1) := by decide +kernel
theorem dX2_kept_76 : decode cX2_kept 76 = .ok (.iconst 0, 1) := by decide +kernel
theorem dX2_kept_77 : decode cX2_kept 77 = .ok (.aload_n 0, 1) := by decide +kernel
theorem dX2_kept_78 : decode cX2_kept 78 = .ok (.getfield 92, 3) := by decide +kernel
theorem dX2_kept_81 : decode cX2_kept 81 = .ok (.iastore, 1) := by decide +kernel
theorem dX2_kept_82 : decode cX2_kept 82 = .ok (.dup, 1) := by decide +kernel
theorem dX2_kept_83 : decode cX2_kept 83 = .ok (.iconst 1, 1) := by decide +kernel
theorem dX2_kept_84 : decode cX2_kept 84 = .ok (.aload_n 0, 1) := by decide +kernel
theorem dX2_kept_85 : decode cX2_kept 85 = .ok (.getfield 95, 3) := by decide +kernel
theorem dX2_kept_88 : decode cX2_kept 88 = .ok (.iastore, 1) := by decide +kernel
theorem dX2_kept_89 : decode cX2_kept 89 = .ok (.dup, 1) := by decide +kernel
theorem dX2_kept_90 : decode cX2_kept 90 = .ok (.iconst 2, 1) := by decide +kernel
theorem dX2_kept_91 : decode cX2_kept 91 = .ok (.aload_n 0, 1) := by decide +kernel
theorem dX2_kept_92 : decode cX2_kept 92 = .ok (.getfield 98, 3) := by decide +kernel
theorem dX2_kept_95 : decode cX2_kept 95 = .ok (.iastore, 1) := by decide +kernel
theorem dX2_kept_96 : decode cX2_kept 96 = .ok (.dup, 1) := by decide +kernel
theorem dX2_kept_97 : decode cX2_kept 97 = .ok (.iconst 3, 1) := by decide +kernel
theorem dX2_kept_98 : decode cX2_kept 98 = .ok (.aload_n 0, 1) := by decide +kernel
theorem dX2_kept_99 : decode cX2_kept 99 = .ok (.getfield 101, 3) := by decide +kernel
theorem dX2_kept_102 : decode cX2_kept 102 = .ok (.iastore, 1) := by decide +kernel
theorem dX2_kept_103 : decode cX2_kept 103 = .ok (.aastore, 1) := by decide +kernel
theorem dX2_kept_104 : decode cX2_kept 104 = .ok (.areturn, 1) := by decide +kernel
theorem dX2_bringBack_0 : decode cX2_bringBack 0 = .ok (.aload_n 0, 1) := by decide +kernel
theorem dX2_bringBack_1 : decode cX2_bringBack 1 = .ok (.aload_n 1, 1) := by decide +kernel
theorem dX2_bringBack_2 : decode cX2_bringBack 2 = .ok (.iconst 0, 1) := by decide +kernel
theorem dX2_bringBack_3 : decode cX2_bringBack 3 = .ok (.aaload, 1) := by decide +kernel
theorem dX2_bringBack_4 : decode cX2_bringBack 4 = .ok (.putfield 9, 3) := by decide +kernel
theorem dX2_bringBack_7 : decode cX2_bringBack 7 = .ok (.aload_n 0, 1) := by decide +kernel
theorem dX2_bringBack_8 : decode cX2_bringBack 8 = .ok (.aload_n 1, 1) := by decide +kernel
theorem dX2_bringBack_9 : decode cX2_bringBack 9 = .ok (.iconst 1, 1) := by decide +kernel
theorem dX2_bringBack_10 : decode cX2_bringBack 10 = .ok (.aaload, 1) := by decide +kernel
theorem dX2_bringBack_11 : decode cX2_bringBack 11 = .ok (.putfield 13, 3) := by decide +kernel
theorem dX2_bringBack_14 : decode cX2_bringBack 14 = .ok (.aload_n 0, 1) := by decide +kernel
theorem dX2_bringBack_15 : decode cX2_bringBack 15 = .ok (.aload_n 1, 1) := by decide +kernel
theorem dX2_bringBack_16 : decode cX2_bringBack 16 = .ok (.iconst 2, 1) := by decide +kernel
theorem dX2_bringBack_17 : decode cX2_bringBack 17 = .ok (.aaload, 1) := by decide +kernel
theorem dX2_bringBack_18 : decode cX2_bringBack 18 = .ok (.putfield 16, 3) := by decide +kernel
theorem dX2_bringBack_21 : decode cX2_bringBack 21 = .ok (.aload_n 0, 1) := by decide +kernel
theorem dX2_bringBack_22 : decode cX2_bringBack 22 = .ok (.aload_n 1, 1) := by decide +kernel
theorem dX2_bringBack_23 : decode cX2_bringBack 23 = .ok (.iconst 3, 1) := by decide +kernel
theorem dX2_bringBack_24 : decode cX2_bringBack 24 = .ok (.aaload, 1) := by decide +kernel
theorem dX2_bringBack_25 : decode cX2_bringBack 25 = .ok (.putfield 19, 3) := by decide +kernel
theorem dX2_bringBack_28 : decode cX2_bringBack 28 = .ok (.aload_n 0, 1) := by decide +kernel
theorem dX2_bringBack_29 : decode cX2_bringBack 29 = .ok (.aload_n 1, 1) := by decide +kernel
theorem dX2_bringBack_30 : decode cX2_bringBack 30 = .ok (.iconst 4, 1) := by decide +kernel
theorem dX2_bringBack_31 : decode cX2_bringBack 31 = .ok (.aaload, 1) := by decide +kernel
theorem dX2_bringBack_32 : decode cX2_bringBack 32 = .ok (.putfield 22, 3) := by decide +kernel
theorem dX2_bringBack_35 : decode cX2_bringBack 35 = .ok (.aload_n 0, 1) := by decide +kernel
theorem dX2_bringBack_36 : decode cX2_bringBack 36 = .ok (.aload_n 1, 1) := by decide +kernel
theorem dX2_bringBack_37 : decode cX2_bringBack 37 = .ok (.iconst 5, 1) := by decide +kernel
theorem dX2_bringBack_38 : decode cX2_bringBack 38 = .ok (.aaload, 1) := by decide +kernel
theorem dX2_bringBack_39 : decode cX2_bringBack 39 = .ok (.iconst 0, 1) := by decide +kernel
theorem dX2_bringBack_40 : decode cX2_bringBack 40 = .ok (.iaload, 1) := by decide +kernel
theorem dX2_bringBack_41 : decode cX2_bringBack 41 = .ok (.putfield 92, 3) := by decide +kernel
theorem dX2_bringBack_44 : decode cX2_bringBack 44 = .ok (.aload_n 0, 1) := by decide +kernel
theorem dX2_bringBack_45 : decode cX2_bringBack 45 = .ok (.aload_n 1, 1) := by decide +kernel
theorem dX2_bringBack_46 : decode cX2_bringBack 46 = .ok (.iconst 5, 1) := by decide +kernel
theorem dX2_bringBack_47 : decode cX2_bringBack 47 = .ok (.aaload, 1) := by decide +kernel
theorem dX2_bringBack_48 : decode cX2_bringBack 48 = .ok (.iconst 1, 1) := by decide +kernel
theorem dX2_bringBack_49 : decode cX2_bringBack 49 = .ok (.iaload, 1) := by decide +kernel
theorem dX2_bringBack_50 : decode cX2_bringBack 50 = .ok (.putfield 95, 3) := by decide +kernel
theorem dX2_bringBack_53 : decode cX2_bringBack 53 = .ok (.aload_n 0, 1) := by decide +kernel
theorem dX2_bringBack_54 : decode cX2_bringBack 54 = .ok (.aload_n 1, 1) := by decide +kernel
theorem dX2_bringBack_55 : decode cX2_bringBack 55 = .ok (.iconst 5, 1) := by decide +kernel
theorem dX2_bringBack_56 : decode cX2_bringBack 56 = .ok (.aaload, 1) := by decide +kernel
theorem dX2_bringBack_57 : decode cX2_bringBack 57 = .ok (.iconst 2, 1) := by decide +kernel
theorem dX2_bringBack_58 : decode cX2_bringBack 58 = .ok (.iaload, 1) := by decide +kernel
theorem dX2_bringBack_59 : decode cX2_bringBack 59 = .ok (.putfield 98, 3) := by decide +kernel
theorem dX2_bringBack_62 : decode cX2_bringBack 62 = .ok (.aload_n 0, 1) := by decide +kernel
theorem dX2_bringBack_63 : decode cX2_bringBack 63 = .ok (.aload_n 1, 1) := by decide +kernel
theorem dX2_bringBack_64 : decode cX2_bringBack 64 = .ok (.iconst 5, 1) := by decide +kernel
theorem dX2_bringBack_65 : decode cX2_bringBack 65 = .ok (.aaload, 1) := by decide +kernel
theorem dX2_bringBack_66 : decode cX2_bringBack 66 = .ok (.iconst 3, 1) := by decide +kernel
theorem dX2_bringBack_67 : decode cX2_bringBack 67 = .ok (.iaload, 1) := by decide +kernel
theorem dX2_bringBack_68 : decode cX2_bringBack 68 = .ok (.putfield 101, 3) := by decide +kernel
theorem dX2_bringBack_71 : decode cX2_bringBack 71 = .ok (.return_, 1) := by decide +kernel
set_option maxRecDepth 20000 in
theorem ggX2_foresee_X2_isIn : GoodIn wsX2_foresee wsX2_isIn := goodIn_r _ [5] (by decide +kernel) (by decide +kernel)
set_option maxRecDepth 20000 in
theorem gX2_foresee_X2_isIn : GoodIn wsX2_foresee (va_wsS RX2 42 yX2_isIn wsX2_isIn) := goodIn_app (goodIn_of _ (by decide +kernel)) ggX2_foresee_X2_isIn
set_option maxRecDepth 20000 in
theorem ggX2_foresee_X2_fail : GoodIn wsX2_foresee wsX2_fail := goodIn_r _ [9, 1, 94, 95, 96, 97, 98, 99, 100, 101, 102, 103, 104, 105, 106, 107] (by decide +kernel) (by decide +kernel)
set_option maxRecDepth 20000 in
theorem gX2_foresee_X2_fail : GoodIn wsX2_foresee (wsV RX2 46 RX2 yX2_fail wsX2_fail) := goodIn_app (goodIn_of _ (by decide +kernel)) ggX2_foresee_X2_fail
set_option maxRecDepth 20000 in
theorem ggX2_foresee_X2_isTeam : GoodIn wsX2_foresee wsX2_isTeam := goodIn_r _ [13, 14, 2, 3, 4, 5, 94, 95, 96, 97, 98, 99, 100, 101, 102, 103, 104, 105, 106, 107] (by decide +kernel) (by decide +kernel)
set_option maxRecDepth 20000 in
theorem gX2_foresee_X2_isTeam : GoodIn wsX2_foresee (wsV RX2 50 RX2 yX2_isTeam wsX2_isTeam) := goodIn_app (goodIn_of _ (by decide +kernel)) ggX2_foresee_X2_isTeam
set_option maxRecDepth 20000 in
theorem ggX2_foresee_X2_kept : GoodIn wsX2_foresee wsX2_kept := goodIn_r _ [18, 19, 20, 21, 22, 23, 24, 25, 26, 27, 28, 29, 30, 31, 32, 33, 34, 94, 95, 96, 97, 98, 99, 100, 101, 102, 103, 104, 105, 106, 107] (by decide +kernel) (by decide +kernel)
set_option maxRecDepth 20000 in
theorem gX2_foresee_X2_kept : GoodIn wsX2_foresee (wsV RX2 143 RX2 yX2_kept wsX2_kept) := goodIn_app (goodIn_of _ (by decide +kernel)) ggX2_foresee_X2_kept
set_option maxRecDepth 20000 in
theorem ggX2_foresee_X2_get : GoodIn wsX2_foresee wsX2_get := goodIn_r _ [38, 29, 94, 95, 96, 97, 98, 99, 100, 101, 102, 103, 104, 105, 106, 107] (by decide +kernel) (by decide +kernel)
set_option maxRecDepth 20000 in
theorem gX2_foresee_X2_get : GoodIn wsX2_foresee (wsV RX2 54 RX2 yX2_get wsX2_get) := goodIn_app (goodIn_of _ (by decide +kernel)) ggX2_foresee_X2_get
set_option maxRecDepth 20000 in
theorem ggX2_foresee_X2_hourOn : GoodIn wsX2_foresee wsX2_hourOn := goodIn_r _ [42, 43, 31, 27, 44, 20, 26, 45, 46, 47, 48, 49, 50, 51, 32, 28, 34, 14, 29, 52, 53, 54, 4, 55, 56, 57, 58, 59, 60, 61, 62, 63, 64, 65, 66, 33, 67, 68, 69, 70, 71, 72, 73, 74, 75, 76, 77, 78, 79, 80, 81, 94, 95, 96, 97, 98, 99, 100, 101, 102, 103, 104, 105, 106, 107] (by decide +kernel) (by decide +kernel)
set_option maxRecDepth 20000 in
theorem gX2_foresee_X2_hourOn : GoodIn wsX2_foresee (wsV RX2 126 RX2 yX2_hourOn wsX2_hourOn) := goodIn_app (goodIn_of _ (by decide +kernel)) ggX2_foresee_X2_hourOn
set_option maxRecDepth 20000 in
theorem ggX2_foresee_X2_sticksOf : GoodIn wsX2_foresee wsX2_sticksOf := goodIn_r _ [85, 28, 71, 72, 4, 73, 94, 95, 96, 97, 98, 99, 100, 101, 102, 103, 104, 105, 106, 107] (by decide +kernel) (by decide +kernel)
set_option maxRecDepth 20000 in
theorem gX2_foresee_X2_sticksOf : GoodIn wsX2_foresee (wsV RX2 77 RX2 yX2_sticksOf wsX2_sticksOf) := goodIn_app (goodIn_of _ (by decide +kernel)) ggX2_foresee_X2_sticksOf
set_option maxRecDepth 20000 in
theorem ggX2_foresee_X2_areaOf : GoodIn wsX2_foresee wsX2_areaOf := goodIn_r _ [89, 49, 50, 47, 51, 20, 27, 71, 72, 4, 73, 56, 57, 58, 59, 94, 95, 96, 97, 98, 99, 100, 101, 102, 103, 104, 105, 106, 107] (by decide +kernel) (by decide +kernel)
set_option maxRecDepth 20000 in
theorem gX2_foresee_X2_areaOf : GoodIn wsX2_foresee (wsV RX2 86 RX2 yX2_areaOf wsX2_areaOf) := goodIn_app (goodIn_of _ (by decide +kernel)) ggX2_foresee_X2_areaOf
set_option maxRecDepth 20000 in
theorem ggX2_foresee_X2_bringBack : GoodIn wsX2_foresee wsX2_bringBack := goodIn_r _ [93, 20, 26, 27, 28, 29, 31, 32, 33, 34, 94, 95, 96, 97, 98, 99, 100, 101, 102, 103, 104, 105, 106, 107] (by decide +kernel) (by decide +kernel)
set_option maxRecDepth 20000 in
theorem gX2_foresee_X2_bringBack : GoodIn wsX2_foresee (wsV RX2 147 RX2 yX2_bringBack wsX2_bringBack) := goodIn_app (goodIn_of _ (by decide +kernel)) ggX2_foresee_X2_bringBack
theorem dX2_foresee_0 : decode cX2_foresee 0 = .ok (.aload_n 0, 1) := by decide +kernel
theorem dX2_foresee_1 : decode cX2_foresee 1 = .ok (.iconst 0, 1) := by decide +kernel
theorem dX2_foresee_2 : decode cX2_foresee 2 = .ok (.putfield 35, 3) := by decide +kernel
theorem dX2_foresee_5 : decode cX2_foresee 5 = .ok (.iload_n 1, 1) := by decide +kernel
theorem dX2_foresee_6 : decode cX2_foresee 6 = .ok (.iconst 1, 1) := by decide +kernel
theorem dX2_foresee_7 : decode cX2_foresee 7 = .ok (.bipush 48, 2) := by decide +kernel
theorem dX2_foresee_9 : decode cX2_foresee 9 = .ok (.invokestatic 42, 3) := by decide +kernel
theorem dX2_foresee_12 : decode cX2_foresee 12 = .ok (.ifCond .ne 9, 3) := by decide +kernel
theorem dX2_foresee_15 : decode cX2_foresee 15 = .ok (.aload_n 0, 1) := by decide +kernel
theorem dX2_foresee_16 : decode cX2_foresee 16 = .ok (.iconst 1, 1) := by decide +kernel
theorem dX2_foresee_17 : decode cX2_foresee 17 = .ok (.invokevirtual 46, 3) := by decide +kernel
theorem dX2_foresee_20 : decode cX2_foresee 20 = .ok (.ireturn, 1) := by decide +kernel
theorem dX2_foresee_21 : decode cX2_foresee 21 = .ok (.aload_n 0, 1) := by decide +kernel
theorem dX2_foresee_22 : decode cX2_foresee 22 = .ok (.iload_n 2, 1) := by decide +kernel
theorem dX2_foresee_23 : decode cX2_foresee 23 = .ok (.invokevirtual 50, 3) := by decide +kernel
theorem dX2_foresee_26 : decode cX2_foresee 26 = .ok (.ifCond .eq 12, 3) := by decide +kernel
theorem dX2_foresee_29 : decode cX2_foresee 29 = .ok (.iload_n 3, 1) := by decide +kernel
theorem dX2_foresee_30 : decode cX2_foresee 30 = .ok (.iconst 0, 1) := by decide +kernel
theorem dX2_foresee_31 : decode cX2_foresee 31 = .ok (.iconst 2, 1) := by decide +kernel
theorem dX2_foresee_32 : decode cX2_foresee 32 = .ok (.invokestatic 42, 3) := by decide +kernel
theorem dX2_foresee_35 : decode cX2_foresee 35 = .ok (.ifCond .ne 9, 3) := by decide +kernel
theorem dX2_foresee_38 : decode cX2_foresee 38 = .ok (.aload_n 0, 1) := by decide +kernel
theorem dX2_foresee_39 : decode cX2_foresee 39 = .ok (.iconst 2, 1) := by decide +kernel
theorem dX2_foresee_40 : decode cX2_foresee 40 = .ok (.invokevirtual 46, 3) := by decide +kernel
theorem dX2_foresee_43 : decode cX2_foresee 43 = .ok (.ireturn, 1) := by decide +kernel
theorem dX2_foresee_44 : decode cX2_foresee 44 = .ok (.aload_n 0, 1) := by decide +kernel
theorem dX2_foresee_45 : decode cX2_foresee 45 = .ok (.invokevirtual 143, 3) := by decide +kernel
theorem dX2_foresee_48 : decode cX2_foresee 48 = .ok (.astore 4, 2) := by decide +kernel
theorem dX2_foresee_50 : decode cX2_foresee 50 = .ok (.aload_n 0, 1) := by decide +kernel
theorem dX2_foresee_51 : decode cX2_foresee 51 = .ok (.iload_n 2, 1) := by decide +kernel
theorem dX2_foresee_52 : decode cX2_foresee 52 = .ok (.iconst 2, 1) := by decide +kernel
theorem dX2_foresee_53 : decode cX2_foresee 53 = .ok (.invokevirtual 54, 3) := by decide +kernel
theorem dX2_foresee_56 : decode cX2_foresee 56 = .ok (.istore 5, 2) := by decide +kernel
theorem dX2_foresee_58 : decode cX2_foresee 58 = .ok (.iconst 0, 1) := by decide +kernel
theorem dX2_foresee_59 : decode cX2_foresee 59 = .ok (.istore 6, 2) := by decide +kernel
theorem dX2_foresee_61 : decode cX2_foresee 61 = .ok (.iload 6, 2) := by decide +kernel
theorem dX2_foresee_63 : decode cX2_foresee 63 = .ok (.iload_n 1, 1) := by decide +kernel
theorem dX2_foresee_64 : decode cX2_foresee 64 = .ok (.if_icmp .ge 13, 3) := by decide +kernel
theorem dX2_foresee_67 : decode cX2_foresee 67 = .ok (.aload_n 0, 1) := by decide +kernel
theorem dX2_foresee_68 : decode cX2_foresee 68 = .ok (.invokevirtual 126, 3) := by decide +kernel
theorem dX2_foresee_71 : decode cX2_foresee 71 = .ok (.iinc 6 1, 3) := by decide +kernel
theorem dX2_foresee_74 : decode cX2_foresee 74 = .ok (.goto (-13), 3) := by decide +kernel
theorem dX2_foresee_77 : decode cX2_foresee 77 = .ok (.iload_n 3, 1) := by decide +kernel
theorem dX2_foresee_78 : decode cX2_foresee 78 = .ok (.ifCond .ne 15, 3) := by decide +kernel
theorem dX2_foresee_81 : decode cX2_foresee 81 = .ok (.aload_n 0, 1) := by decide +kernel
theorem dX2_foresee_82 : decode cX2_foresee 82 = .ok (.iload_n 2, 1) := by decide +kernel
theorem dX2_foresee_83 : decode cX2_foresee 83 = .ok (.iconst 2, 1) := by decide +kernel
theorem dX2_foresee_84 : decode cX2_foresee 84 = .ok (.invokevirtual 54, 3) := by decide +kernel
theorem dX2_foresee_87 : decode cX2_foresee 87 = .ok (.iload 5, 2) := by decide +kernel
theorem dX2_foresee_89 : decode cX2_foresee 89 = .ok (.isub, 1) := by decide +kernel
theorem dX2_foresee_90 : decode cX2_foresee 90 = .ok (.goto 22, 3) := by decide +kernel
theorem dX2_foresee_93 : decode cX2_foresee 93 = .ok (.iload_n 3, 1) := by decide +kernel
theorem dX2_foresee_94 : decode cX2_foresee 94 = .ok (.iconst 1, 1) := by decide +kernel
theorem dX2_foresee_95 : decode cX2_foresee 95 = .ok (.if_icmp .ne 11, 3) := by decide +kernel
theorem dX2_foresee_98 : decode cX2_foresee 98 = .ok (.aload_n 0, 1) := by decide +kernel
theorem dX2_foresee_99 : decode cX2_foresee 99 = .ok (.iload_n 2, 1) := by decide +kernel
theorem dX2_foresee_100 : decode cX2_foresee 100 = .ok (.invokevirtual 77, 3) := by decide +kernel
theorem dX2_foresee_103 : decode cX2_foresee 103 = .ok (.goto 9, 3) := by decide +kernel
theorem dX2_foresee_106 : decode cX2_foresee 106 = .ok (.aload_n 0, 1) := by decide +kernel
theorem dX2_foresee_107 : decode cX2_foresee 107 = .ok (.iload_n 2, 1) := by decide +kernel
theorem dX2_foresee_108 : decode cX2_foresee 108 = .ok (.iconst 4, 1) := by decide +kernel
theorem dX2_foresee_109 : decode cX2_foresee 109 = .ok (.invokevirtual 86, 3) := by decide +kernel
theorem dX2_foresee_112 : decode cX2_foresee 112 = .ok (.istore 6, 2) := by decide +kernel
theorem dX2_foresee_114 : decode cX2_foresee 114 = .ok (.aload_n 0, 1) := by decide +kernel
theorem dX2_foresee_115 : decode cX2_foresee 115 = .ok (.aload 4, 2) := by decide +kernel
theorem dX2_foresee_117 : decode cX2_foresee 117 = .ok (.invokevirtual 147, 3) := by decide +kernel
theorem dX2_foresee_120 : decode cX2_foresee 120 = .ok (.iload 6, 2) := by decide +kernel
theorem dX2_foresee_122 : decode cX2_foresee 122 = .ok (.ireturn, 1) := by decide +kernel
set_option maxRecDepth 20000 in
theorem ggX2_advise_X2_isTeam : GoodIn wsX2_advise wsX2_isTeam := goodIn_r _ [10, 11, 12, 13, 9, 14, 83, 84, 85, 86, 87, 88, 89, 90, 91, 92, 93, 94, 95, 96] (by decide +kernel) (by decide +kernel)
set_option maxRecDepth 20000 in
theorem gX2_advise_X2_isTeam : GoodIn wsX2_advise (wsV RX2 50 RX2 yX2_isTeam wsX2_isTeam) := goodIn_app (goodIn_of _ (by decide +kernel)) ggX2_advise_X2_isTeam
set_option maxRecDepth 20000 in
theorem ggX2_advise_X2_fail : GoodIn wsX2_advise wsX2_fail := goodIn_r _ [18, 1, 83, 84, 85, 86, 87, 88, 89, 90, 91, 92, 93, 94, 95, 96] (by decide +kernel) (by decide +kernel)
set_option maxRecDepth 20000 in
theorem gX2_advise_X2_fail : GoodIn wsX2_advise (wsV RX2 46 RX2 yX2_fail wsX2_fail) := goodIn_app (goodIn_of _ (by decide +kernel)) ggX2_advise_X2_fail
set_option maxRecDepth 20000 in
theorem ggX2_advise_X2_isIn : GoodIn wsX2_advise wsX2_isIn := goodIn_r _ [14] (by decide +kernel) (by decide +kernel)
set_option maxRecDepth 20000 in
theorem gX2_advise_X2_isIn : GoodIn wsX2_advise (va_wsS RX2 42 yX2_isIn wsX2_isIn) := goodIn_app (goodIn_of _ (by decide +kernel)) ggX2_advise_X2_isIn
set_option maxRecDepth 20000 in
theorem ggX2_advise_X2_teamOf : GoodIn wsX2_advise wsX2_teamOf := goodIn_r _ [21] (by decide +kernel) (by decide +kernel)
set_option maxRecDepth 20000 in
theorem gX2_advise_X2_teamOf : GoodIn wsX2_advise (va_wsS RX2 74 yX2_teamOf wsX2_teamOf) := goodIn_app (goodIn_of _ (by decide +kernel)) ggX2_advise_X2_teamOf
set_option maxRecDepth 20000 in
theorem ggX2_advise_X2_height : GoodIn wsX2_advise wsX2_height := goodIn_r _ [25, 26, 83, 84, 85, 86, 87, 88, 89, 90, 91, 92, 93, 94, 95, 96] (by decide +kernel) (by decide +kernel)
set_option maxRecDepth 20000 in
theorem gX2_advise_X2_height : GoodIn wsX2_advise (wsV RX2 80 RX2 yX2_height wsX2_height) := goodIn_app (goodIn_of _ (by decide +kernel)) ggX2_advise_X2_height
set_option maxRecDepth 20000 in
theorem ggX2_advise_X2_kept : GoodIn wsX2_advise wsX2_kept := goodIn_r _ [30, 31, 26, 32, 33, 34, 35, 36, 37, 5, 4, 38, 2, 39, 40, 41, 42, 83, 84, 85, 86, 87, 88, 89, 90, 91, 92, 93, 94, 95, 96] (by decide +kernel) (by decide +kernel)
set_option maxRecDepth 20000 in
theorem gX2_advise_X2_kept : GoodIn wsX2_advise (wsV RX2 143 RX2 yX2_kept wsX2_kept) := goodIn_app (goodIn_of _ (by decide +kernel)) ggX2_advise_X2_kept
set_option maxRecDepth 20000 in
theorem ggX2_advise_X2_hourOn : GoodIn wsX2_advise wsX2_hourOn := goodIn_r _ [46, 47, 39, 5, 48, 26, 37, 49, 50, 51, 52, 53, 54, 55, 40, 4, 42, 11, 38, 56, 57, 58, 9, 59, 22, 23, 24, 25, 60, 61, 62, 63, 64, 65, 66, 41, 67, 68, 69, 70, 19, 20, 21, 71, 72, 73, 74, 75, 76, 77, 78, 83, 84, 85, 86, 87, 88, 89, 90, 91, 92, 93, 94, 95, 96] (by decide +kernel) (by decide +kernel)
set_option maxRecDepth 20000 in
theorem gX2_advise_X2_hourOn : GoodIn wsX2_advise (wsV RX2 126 RX2 yX2_hourOn wsX2_hourOn) := goodIn_app (goodIn_of _ (by decide +kernel)) ggX2_advise_X2_hourOn
set_option maxRecDepth 20000 in
theorem ggX2_advise_X2_falls : GoodIn wsX2_advise wsX2_falls := goodIn_r _ [70, 5, 22, 23, 24, 9, 25, 26, 83, 84, 85, 86, 87, 88, 89, 90, 91, 92, 93, 94, 95, 96] (by decide +kernel) (by decide +kernel)
set_option maxRecDepth 20000 in
theorem gX2_advise_X2_falls : GoodIn wsX2_advise (wsV RX2 119 RX2 yX2_falls wsX2_falls) := goodIn_app (goodIn_of _ (by decide +kernel)) ggX2_advise_X2_falls
set_option maxRecDepth 20000 in
theorem ggX2_advise_X2_brings : GoodIn wsX2_advise wsX2_brings := goodIn_r _ [74, 26, 83, 84, 85, 86, 87, 88, 89, 90, 91, 92, 93, 94, 95, 96] (by decide +kernel) (by decide +kernel)
set_option maxRecDepth 20000 in
theorem gX2_advise_X2_brings : GoodIn wsX2_advise (wsV RX2 123 RX2 yX2_brings wsX2_brings) := goodIn_app (goodIn_of _ (by decide +kernel)) ggX2_advise_X2_brings
set_option maxRecDepth 20000 in
theorem ggX2_advise_X2_bringBack : GoodIn wsX2_advise wsX2_bringBack := goodIn_r _ [82, 26, 37, 5, 4, 38, 39, 40, 41, 42, 83, 84, 85, 86, 87, 88, 89, 90, 91, 92, 93, 94, 95, 96] (by decide +kernel) (by decide +kernel)
set_option maxRecDepth 20000 in
theorem gX2_advise_X2_bringBack : GoodIn wsX2_advise (wsV RX2 147 RX2 yX2_bringBack wsX2_bringBack) := goodIn_app (goodIn_of _ (by decide +kernel)) ggX2_advise_X2_bringBack
theorem dX2_advise_0 : decode cX2_advise 0 = .ok (.aload_n 0, 1) := by decide +kernel
theorem dX2_advise_1 : decode cX2_advise 1 = .ok (.iconst 0, 1) := by decide +kernel
theorem dX2_advise_2 : decode cX2_advise 2 = .ok (.putfield 35, 3) := by decide +kernel
theorem dX2_advise_5 : decode cX2_advise 5 = .ok (.aload_n 0, 1) := by decide +kernel
theorem dX2_advise_6 : decode cX2_advise 6 = .ok (.iload_n 1, 1) := by decide +kernel
theorem dX2_advise_7 : decode cX2_advise 7 = .ok (.invokevirtual 50, 3) := by decide +kernel
theorem dX2_advise_10 : decode cX2_advise 10 = .ok (.ifCond .ne 9, 3) := by decide +kernel
theorem dX2_advise_13 : decode cX2_advise 13 = .ok (.aload_n 0, 1) := by decide +kernel
theorem dX2_advise_14 : decode cX2_advise 14 = .ok (.iconst 1, 1) := by decide +kernel
theorem dX2_advise_15 : decode cX2_advise 15 = .ok (.invokevirtual 46, 3) := by decide +kernel
theorem dX2_advise_18 : decode cX2_advise 18 = .ok (.ireturn, 1) := by decide +kernel
theorem dX2_advise_19 : decode cX2_advise 19 = .ok (.iload_n 2, 1) := by decide +kernel
theorem dX2_advise_20 : decode cX2_advise 20 = .ok (.iconst 1, 1) := by decide +kernel
theorem dX2_advise_21 : decode cX2_advise 21 = .ok (.bipush 12, 2) := by decide +kernel
theorem dX2_advise_23 : decode cX2_advise 23 = .ok (.invokestatic 42, 3) := by decide +kernel
theorem dX2_advise_26 : decode cX2_advise 26 = .ok (.ifCond .ne 9, 3) := by decide +kernel
theorem dX2_advise_29 : decode cX2_advise 29 = .ok (.aload_n 0, 1) := by decide +kernel
theorem dX2_advise_30 : decode cX2_advise 30 = .ok (.iconst 2, 1) := by decide +kernel
theorem dX2_advise_31 : decode cX2_advise 31 = .ok (.invokevirtual 46, 3) := by decide +kernel
theorem dX2_advise_34 : decode cX2_advise 34 = .ok (.ireturn, 1) := by decide +kernel
theorem dX2_advise_35 : decode cX2_advise 35 = .ok (.bipush 120, 2) := by decide +kernel
theorem dX2_advise_37 : decode cX2_advise 37 = .ok (.newarray .int, 2) := by decide +kernel
theorem dX2_advise_39 : decode cX2_advise 39 = .ok (.astore_n 3, 1) := by decide +kernel
theorem dX2_advise_40 : decode cX2_advise 40 = .ok (.bipush 120, 2) := by decide +kernel
theorem dX2_advise_42 : decode cX2_advise 42 = .ok (.newarray .int, 2) := by decide +kernel
theorem dX2_advise_44 : decode cX2_advise 44 = .ok (.astore 4, 2) := by decide +kernel
theorem dX2_advise_46 : decode cX2_advise 46 = .ok (.bipush 120, 2) := by decide +kernel
theorem dX2_advise_48 : decode cX2_advise 48 = .ok (.newarray .boolean, 2) := by decide +kernel
theorem dX2_advise_50 : decode cX2_advise 50 = .ok (.astore 5, 2) := by decide +kernel
theorem dX2_advise_52 : decode cX2_advise 52 = .ok (.iconst 0, 1) := by decide +kernel
theorem dX2_advise_53 : decode cX2_advise 53 = .ok (.istore 6, 2) := by decide +kernel
theorem dX2_advise_55 : decode cX2_advise 55 = .ok (.iload 6, 2) := by decide +kernel
theorem dX2_advise_57 : decode cX2_advise 57 = .ok (.bipush 120, 2) := by decide +kernel
theorem dX2_advise_59 : decode cX2_advise 59 = .ok (.if_icmp .ge 76, 3) := by decide +kernel
theorem dX2_advise_62 : decode cX2_advise 62 = .ok (.aload 5, 2) := by decide +kernel
theorem dX2_advise_64 : decode cX2_advise 64 = .ok (.iload 6, 2) := by decide +kernel
theorem dX2_advise_66 : decode cX2_advise 66 = .ok (.iload 6, 2) := by decide +kernel
theorem dX2_advise_68 : decode cX2_advise 68 = .ok (.invokestatic 74, 3) := by decide +kernel
theorem dX2_advise_71 : decode cX2_advise 71 = .ok (.iload_n 1, 1) := by decide +kernel
theorem dX2_advise_72 : decode cX2_advise 72 = .ok (.if_icmp .ne 27, 3) := by decide +kernel
theorem dX2_advise_75 : decode cX2_advise 75 = .ok (.aload_n 0, 1) := by decide +kernel
theorem dX2_advise_76 : decode cX2_advise 76 = .ok (.getfield 19, 3) := by decide +kernel
theorem dX2_advise_79 : decode cX2_advise 79 = .ok (.iload 6, 2) := by decide +kernel
theorem dX2_advise_81 : decode cX2_advise 81 = .ok (.iaload, 1) := by decide +kernel
theorem dX2_advise_82 : decode cX2_advise 82 = .ok (.ifCond .ne 17, 3) := by decide +kernel
theorem dX2_advise_85 : decode cX2_advise 85 = .ok (.aload_n 0, 1) := by decide +kernel
theorem dX2_advise_86 : decode cX2_advise 86 = .ok (.getfield 16, 3) := by decide +kernel
theorem dX2_advise_89 : decode cX2_advise 89 = .ok (.iload 6, 2) := by decide +kernel
theorem dX2_advise_91 : decode cX2_advise 91 = .ok (.iaload, 1) := by decide +kernel
theorem dX2_advise_92 : decode cX2_advise 92 = .ok (.ifCond .ne 7, 3) := by decide +kernel
theorem dX2_advise_95 : decode cX2_advise 95 = .ok (.iconst 1, 1) := by decide +kernel
theorem dX2_advise_96 : decode cX2_advise 96 = .ok (.goto 4, 3) := by decide +kernel
theorem dX2_advise_99 : decode cX2_advise 99 = .ok (.iconst 0, 1) := by decide +kernel
theorem dX2_advise_100 : decode cX2_advise 100 = .ok (.bastore, 1) := by decide +kernel
theorem dX2_advise_101 : decode cX2_advise 101 = .ok (.aload_n 3, 1) := by decide +kernel
theorem dX2_advise_102 : decode cX2_advise 102 = .ok (.iload 6, 2) := by decide +kernel
theorem dX2_advise_104 : decode cX2_advise 104 = .ok (.aload 5, 2) := by decide +kernel
theorem dX2_advise_106 : decode cX2_advise 106 = .ok (.iload 6, 2) := by decide +kernel
theorem dX2_advise_108 : decode cX2_advise 108 = .ok (.baload, 1) := by decide +kernel
theorem dX2_advise_109 : decode cX2_advise 109 = .ok (.ifCond .eq 7, 3) := by decide +kernel
theorem dX2_advise_112 : decode cX2_advise 112 = .ok (.iconst 0, 1) := by decide +kernel
theorem dX2_advise_113 : decode cX2_advise 113 = .ok (.goto 4, 3) := by decide +kernel
theorem dX2_advise_116 : decode cX2_advise 116 = .ok (.iconst (-1), 1) := by decide +kernel
theorem dX2_advise_117 : decode cX2_advise 117 = .ok (.iastore, 1) := by decide +kernel
theorem dX2_advise_118 : decode cX2_advise 118 = .ok (.aload 4, 2) := by decide +kernel
theorem dX2_advise_120 : decode cX2_advise 120 = .ok (.iload 6, 2) := by decide +kernel
theorem dX2_advise_122 : decode cX2_advise 122 = .ok (.aload_n 0, 1) := by decide +kernel
theorem dX2_advise_123 : decode cX2_advise 123 = .ok (.iload 6, 2) := by decide +kernel
theorem dX2_advise_125 : decode cX2_advise 125 = .ok (.invokevirtual 80, 3) := by decide +kernel
theorem dX2_advise_128 : decode cX2_advise 128 = .ok (.iastore, 1) := by decide +kernel
theorem dX2_advise_129 : decode cX2_advise 129 = .ok (.iinc 6 1, 3) := by decide +kernel
theorem dX2_advise_132 : decode cX2_advise 132 = .ok (.goto (-77), 3) := by decide +kernel
theorem dX2_advise_135 : decode cX2_advise 135 = .ok (.aload_n 0, 1) := by decide +kernel
theorem dX2_advise_136 : decode cX2_advise 136 = .ok (.invokevirtual 143, 3) := by decide +kernel
theorem dX2_advise_139 : decode cX2_advise 139 = .ok (.astore 6, 2) := by decide +kernel
theorem dX2_advise_141 : decode cX2_advise 141 = .ok (.iconst 0, 1) := by decide +kernel
theorem dX2_advise_142 : decode cX2_advise 142 = .ok (.istore 7, 2) := by decide +kernel
theorem dX2_advise_144 : decode cX2_advise 144 = .ok (.iload 7, 2) := by decide +kernel
theorem dX2_advise_146 : decode cX2_advise 146 = .ok (.iload_n 2, 1) := by decide +kernel
theorem dX2_advise_147 : decode cX2_advise 147 = .ok (.if_icmp .ge 86, 3) := by decide +kernel
theorem dX2_advise_150 : decode cX2_advise 150 = .ok (.aload_n 0, 1) := by decide +kernel
theorem dX2_advise_151 : decode cX2_advise 151 = .ok (.invokevirtual 126, 3) := by decide +kernel
theorem dX2_advise_154 : decode cX2_advise 154 = .ok (.iconst 0, 1) := by decide +kernel
theorem dX2_advise_155 : decode cX2_advise 155 = .ok (.istore 8, 2) := by decide +kernel
theorem dX2_advise_157 : decode cX2_advise 157 = .ok (.iload 8, 2) := by decide +kernel
theorem dX2_advise_159 : decode cX2_advise 159 = .ok (.bipush 120, 2) := by decide +kernel
theorem dX2_advise_161 : decode cX2_advise 161 = .ok (.if_icmp .ge 66, 3) := by decide +kernel
theorem dX2_advise_164 : decode cX2_advise 164 = .ok (.aload 5, 2) := by decide +kernel
theorem dX2_advise_166 : decode cX2_advise 166 = .ok (.iload 8, 2) := by decide +kernel
theorem dX2_advise_168 : decode cX2_advise 168 = .ok (.aload 5, 2) := by decide +kernel
theorem dX2_advise_170 : decode cX2_advise 170 = .ok (.iload 8, 2) := by decide +kernel
theorem dX2_advise_172 : decode cX2_advise 172 = .ok (.baload, 1) := by decide +kernel
theorem dX2_advise_173 : decode cX2_advise 173 = .ok (.ifCond .eq 21, 3) := by decide +kernel
theorem dX2_advise_176 : decode cX2_advise 176 = .ok (.aload_n 0, 1) := by decide +kernel
theorem dX2_advise_177 : decode cX2_advise 177 = .ok (.iload 8, 2) := by decide +kernel
theorem dX2_advise_179 : decode cX2_advise 179 = .ok (.aload 4, 2) := by decide +kernel
theorem dX2_advise_181 : decode cX2_advise 181 = .ok (.iload 8, 2) := by decide +kernel
theorem dX2_advise_183 : decode cX2_advise 183 = .ok (.iaload, 1) := by decide +kernel
theorem dX2_advise_184 : decode cX2_advise 184 = .ok (.invokevirtual 119, 3) := by decide +kernel
theorem dX2_advise_187 : decode cX2_advise 187 = .ok (.ifCond .ne 7, 3) := by decide +kernel
theorem dX2_advise_190 : decode cX2_advise 190 = .ok (.iconst 1, 1) := by decide +kernel
theorem dX2_advise_191 : decode cX2_advise 191 = .ok (.goto 4, 3) := by decide +kernel
theorem dX2_advise_194 : decode cX2_advise 194 = .ok (.iconst 0, 1) := by decide +kernel
theorem dX2_advise_195 : decode cX2_advise 195 = .ok (.bastore, 1) := by decide +kernel
theorem dX2_advise_196 : decode cX2_advise 196 = .ok (.aload_n 3, 1) := by decide +kernel
theorem dX2_advise_197 : decode cX2_advise 197 = .ok (.iload 8, 2) := by decide +kernel
theorem dX2_advise_199 : decode cX2_advise 199 = .ok (.dup2, 1) := by decide +kernel
theorem dX2_advise_200 : decode cX2_advise 200 = .ok (.iaload, 1) := by decide +kernel
theorem dX2_advise_201 : decode cX2_advise 201 = .ok (.aload 5, 2) := by decide +kernel
theorem dX2_advise_203 : decode cX2_advise 203 = .ok (.iload 8, 2) := by decide +kernel
theorem dX2_advise_205 : decode cX2_advise 205 = .ok (.baload, 1) := by decide +kernel
theorem dX2_advise_206 : decode cX2_advise 206 = .ok (.ifCond .eq 12, 3) := by decide +kernel
theorem dX2_advise_209 : decode cX2_advise 209 = .ok (.aload_n 0, 1) := by decide +kernel
theorem dX2_advise_210 : decode cX2_advise 210 = .ok (.iload 8, 2) := by decide +kernel
theorem dX2_advise_212 : decode cX2_advise 212 = .ok (.invokevirtual 123, 3) := by decide +kernel
theorem dX2_advise_215 : decode cX2_advise 215 = .ok (.goto 4, 3) := by decide +kernel
theorem dX2_advise_218 : decode cX2_advise 218 = .ok (.iconst 0, 1) := by decide +kernel
theorem dX2_advise_219 : decode cX2_advise 219 = .ok (.iadd, 1) := by decide +kernel
theorem dX2_advise_220 : decode cX2_advise 220 = .ok (.iastore, 1) := by decide +kernel
theorem dX2_advise_221 : decode cX2_advise 221 = .ok (.iinc 8 1, 3) := by decide +kernel
theorem dX2_advise_224 : decode cX2_advise 224 = .ok (.goto (-67), 3) := by decide +kernel
theorem dX2_advise_227 : decode cX2_advise 227 = .ok (.iinc 7 1, 3) := by decide +kernel
theorem dX2_advise_230 : decode cX2_advise 230 = .ok (.goto (-86), 3) := by decide +kernel
theorem dX2_advise_233 : decode cX2_advise 233 = .ok (.aload_n 0, 1) := by decide +kernel
theorem dX2_advise_234 : decode cX2_advise 234 = .ok (.aload 6, 2) := by decide +kernel
theorem dX2_advise_236 : decode cX2_advise 236 = .ok (.invokevirtual 147, 3) := by decide +kernel
theorem dX2_advise_239 : decode cX2_advise 239 = .ok (.iconst (-1), 1) := by decide +kernel
theorem dX2_advise_240 : decode cX2_advise 240 = .ok (.istore 7, 2) := by decide +kernel
theorem dX2_advise_242 : decode cX2_advise 242 = .ok (.iconst 0, 1) := by decide +kernel
theorem dX2_advise_243 : decode cX2_advise 243 = .ok (.istore 8, 2) := by decide +kernel
theorem dX2_advise_245 : decode cX2_advise 245 = .ok (.iload 8, 2) := by decide +kernel
theorem dX2_advise_247 : decode cX2_advise 247 = .ok (.bipush 120, 2) := by decide +kernel
theorem dX2_advise_249 : decode cX2_advise 249 = .ok (.if_icmp .ge 34, 3) := by decide +kernel
theorem dX2_advise_252 : decode cX2_advise 252 = .ok (.aload_n 3, 1) := by decide +kernel
theorem dX2_advise_253 : decode cX2_advise 253 = .ok (.iload 8, 2) := by decide +kernel
theorem dX2_advise_255 : decode cX2_advise 255 = .ok (.iaload, 1) := by decide +kernel
theorem dX2_advise_256 : decode cX2_advise 256 = .ok (.iload 7, 2) := by decide +kernel
theorem dX2_advise_258 : decode cX2_advise 258 = .ok (.iconst (-1), 1) := by decide +kernel
theorem dX2_advise_259 : decode cX2_advise 259 = .ok (.if_icmp .ne 7, 3) := by decide +kernel
theorem dX2_advise_262 : decode cX2_advise 262 = .ok (.iconst (-1), 1) := by decide +kernel
theorem dX2_advise_263 : decode cX2_advise 263 = .ok (.goto 7, 3) := by decide +kernel
theorem dX2_advise_266 : decode cX2_advise 266 = .ok (.aload_n 3, 1) := by decide +kernel
theorem dX2_advise_267 : decode cX2_advise 267 = .ok (.iload 7, 2) := by decide +kernel
theorem dX2_advise_269 : decode cX2_advise 269 = .ok (.iaload, 1) := by decide +kernel
theorem dX2_advise_270 : decode cX2_advise 270 = .ok (.if_icmp .le 7, 3) := by decide +kernel
theorem dX2_advise_273 : decode cX2_advise 273 = .ok (.iload 8, 2) := by decide +kernel
theorem dX2_advise_275 : decode cX2_advise 275 = .ok (.istore 7, 2) := by decide +kernel
theorem dX2_advise_277 : decode cX2_advise 277 = .ok (.iinc 8 1, 3) := by decide +kernel
theorem dX2_advise_280 : decode cX2_advise 280 = .ok (.goto (-35), 3) := by decide +kernel
theorem dX2_advise_283 : decode cX2_advise 283 = .ok (.iload 7, 2) := by decide +kernel
theorem dX2_advise_285 : decode cX2_advise 285 = .ok (.ireturn, 1) := by decide +kernel
set_option maxRecDepth 20000 in
theorem ggX2_mean_X2_height : GoodIn wsX2_mean wsX2_height := goodIn_r _ [7, 8, 9, 10, 11, 12, 13, 14, 15, 16, 17, 18, 19, 20, 21, 22] (by decide +kernel) (by decide +kernel)
set_option maxRecDepth 20000 in
theorem gX2_mean_X2_height : GoodIn wsX2_mean (wsV RX2 80 RX2 yX2_height wsX2_height) := goodIn_app (goodIn_of _ (by decide +kernel)) ggX2_mean_X2_height
theorem dX2_mean_0 : decode cX2_mean 0 = .ok (.aload_n 0, 1) := by decide +kernel
theorem dX2_mean_1 : decode cX2_mean 1 = .ok (.iconst 0, 1) := by decide +kernel
theorem dX2_mean_2 : decode cX2_mean 2 = .ok (.putfield 35, 3) := by decide +kernel
theorem dX2_mean_5 : decode cX2_mean 5 = .ok (.iconst 0, 1) := by decide +kernel
theorem dX2_mean_6 : decode cX2_mean 6 = .ok (.istore_n 1, 1) := by decide +kernel
theorem dX2_mean_7 : decode cX2_mean 7 = .ok (.iconst 0, 1) := by decide +kernel
theorem dX2_mean_8 : decode cX2_mean 8 = .ok (.istore_n 2, 1) := by decide +kernel
theorem dX2_mean_9 : decode cX2_mean 9 = .ok (.iload_n 2, 1) := by decide +kernel
theorem dX2_mean_10 : decode cX2_mean 10 = .ok (.bipush 120, 2) := by decide +kernel
theorem dX2_mean_12 : decode cX2_mean 12 = .ok (.if_icmp .ge 17, 3) := by decide +kernel
theorem dX2_mean_15 : decode cX2_mean 15 = .ok (.iload_n 1, 1) := by decide +kernel
theorem dX2_mean_16 : decode cX2_mean 16 = .ok (.aload_n 0, 1) := by decide +kernel
theorem dX2_mean_17 : decode cX2_mean 17 = .ok (.iload_n 2, 1) := by decide +kernel
theorem dX2_mean_18 : decode cX2_mean 18 = .ok (.invokevirtual 80, 3) := by decide +kernel
theorem dX2_mean_21 : decode cX2_mean 21 = .ok (.iadd, 1) := by decide +kernel
theorem dX2_mean_22 : decode cX2_mean 22 = .ok (.istore_n 1, 1) := by decide +kernel
theorem dX2_mean_23 : decode cX2_mean 23 = .ok (.iinc 2 1, 3) := by decide +kernel
theorem dX2_mean_26 : decode cX2_mean 26 = .ok (.goto (-17), 3) := by decide +kernel
theorem dX2_mean_29 : decode cX2_mean 29 = .ok (.iload_n 1, 1) := by decide +kernel
theorem dX2_mean_30 : decode cX2_mean 30 = .ok (.i2d, 1) := by decide +kernel
theorem dX2_mean_31 : decode cX2_mean 31 = .ok (.ldc2_w 151, 3) := by decide +kernel
theorem dX2_mean_34 : decode cX2_mean 34 = .ok (.ddiv, 1) := by decide +kernel
theorem dX2_mean_35 : decode cX2_mean 35 = .ok (.dreturn, 1) := by decide +kernel
set_option maxRecDepth 20000 in
theorem ggX2_digest_X2_counted : GoodIn wsX2_digest wsX2_counted := goodIn_r _ [10, 11, 5, 12, 13, 14, 15, 16, 17, 18, 9, 19, 20, 21, 22, 23, 24, 25, 26, 27, 28, 29, 30, 31, 32, 33, 34, 35, 36, 37, 52, 53, 54, 55, 56, 57, 58, 59, 60, 61, 62, 63, 64, 65] (by decide +kernel) (by decide +kernel)
set_option maxRecDepth 20000 in
theorem gX2_digest_X2_counted : GoodIn wsX2_digest (wsV RX2 107 RX2 yX2_counted wsX2_counted) := goodIn_app (goodIn_of _ (by decide +kernel)) ggX2_digest_X2_counted
set_option maxRecDepth 20000 in
theorem ggX2_digest_X2_teamTold : GoodIn wsX2_digest wsX2_teamTold := goodIn_r _ [41, 42, 43, 44, 9, 45, 46, 33, 34, 35, 36, 37, 26, 27, 28, 16, 17, 18, 19, 20, 21, 22, 23, 24, 25, 29, 30, 31, 32, 52, 53, 54, 55, 56, 57, 58, 59, 60, 61, 62, 63, 64, 65] (by decide +kernel) (by decide +kernel)
set_option maxRecDepth 20000 in
theorem gX2_digest_X2_teamTold : GoodIn wsX2_digest (wsV RX2 89 RX2 yX2_teamTold wsX2_teamTold) := goodIn_app (goodIn_of _ (by decide +kernel)) ggX2_digest_X2_teamTold
set_option maxRecDepth 20000 in
theorem ggX2_digest_X2_cellTold : GoodIn wsX2_digest wsX2_cellTold := goodIn_r _ [50, 24, 51, 25, 37, 20, 21, 22, 23, 29, 30, 31, 9, 32, 52, 53, 54, 55, 56, 57, 58, 59, 60, 61, 62, 63, 64, 65] (by decide +kernel) (by decide +kernel)
set_option maxRecDepth 20000 in
theorem gX2_digest_X2_cellTold : GoodIn wsX2_digest (wsV RX2 83 RX2 yX2_cellTold wsX2_cellTold) := goodIn_app (goodIn_of _ (by decide +kernel)) ggX2_digest_X2_cellTold
theorem dX2_digest_0 : decode cX2_digest 0 = .ok (.aload_n 0, 1) := by decide +kernel
theorem dX2_digest_1 : decode cX2_digest 1 = .ok (.iconst 0, 1) := by decide +kernel
theorem dX2_digest_2 : decode cX2_digest 2 = .ok (.putfield 35, 3) := by decide +kernel
theorem dX2_digest_5 : decode cX2_digest 5 = .ok (.ldc2_w 153, 3) := by decide +kernel
theorem dX2_digest_8 : decode cX2_digest 8 = .ok (.lstore_n 1, 1) := by decide +kernel
theorem dX2_digest_9 : decode cX2_digest 9 = .ok (.iconst 0, 1) := by decide +kernel
theorem dX2_digest_10 : decode cX2_digest 10 = .ok (.istore_n 3, 1) := by decide +kernel
theorem dX2_digest_11 : decode cX2_digest 11 = .ok (.iload_n 3, 1) := by decide +kernel
theorem dX2_digest_12 : decode cX2_digest 12 = .ok (.bipush 9, 2) := by decide +kernel
theorem dX2_digest_14 : decode cX2_digest 14 = .ok (.if_icmp .ge 22, 3) := by decide +kernel
theorem dX2_digest_17 : decode cX2_digest 17 = .ok (.lload_n 1, 1) := by decide +kernel
theorem dX2_digest_18 : decode cX2_digest 18 = .ok (.ldc2_w 155, 3) := by decide +kernel
theorem dX2_digest_21 : decode cX2_digest 21 = .ok (.lmul, 1) := by decide +kernel
theorem dX2_digest_22 : decode cX2_digest 22 = .ok (.aload_n 0, 1) := by decide +kernel
theorem dX2_digest_23 : decode cX2_digest 23 = .ok (.iload_n 3, 1) := by decide +kernel
theorem dX2_digest_24 : decode cX2_digest 24 = .ok (.invokevirtual 107, 3) := by decide +kernel
theorem dX2_digest_27 : decode cX2_digest 27 = .ok (.i2l, 1) := by decide +kernel
theorem dX2_digest_28 : decode cX2_digest 28 = .ok (.ladd, 1) := by decide +kernel
theorem dX2_digest_29 : decode cX2_digest 29 = .ok (.lstore_n 1, 1) := by decide +kernel
theorem dX2_digest_30 : decode cX2_digest 30 = .ok (.iinc 3 1, 3) := by decide +kernel
theorem dX2_digest_33 : decode cX2_digest 33 = .ok (.goto (-22), 3) := by decide +kernel
theorem dX2_digest_36 : decode cX2_digest 36 = .ok (.iconst 0, 1) := by decide +kernel
theorem dX2_digest_37 : decode cX2_digest 37 = .ok (.istore_n 3, 1) := by decide +kernel
theorem dX2_digest_38 : decode cX2_digest 38 = .ok (.iload_n 3, 1) := by decide +kernel
theorem dX2_digest_39 : decode cX2_digest 39 = .ok (.bipush 12, 2) := by decide +kernel
theorem dX2_digest_41 : decode cX2_digest 41 = .ok (.if_icmp .ge 23, 3) := by decide +kernel
theorem dX2_digest_44 : decode cX2_digest 44 = .ok (.lload_n 1, 1) := by decide +kernel
theorem dX2_digest_45 : decode cX2_digest 45 = .ok (.ldc2_w 155, 3) := by decide +kernel
theorem dX2_digest_48 : decode cX2_digest 48 = .ok (.lmul, 1) := by decide +kernel
theorem dX2_digest_49 : decode cX2_digest 49 = .ok (.aload_n 0, 1) := by decide +kernel
theorem dX2_digest_50 : decode cX2_digest 50 = .ok (.getfield 25, 3) := by decide +kernel
theorem dX2_digest_53 : decode cX2_digest 53 = .ok (.iload_n 3, 1) := by decide +kernel
theorem dX2_digest_54 : decode cX2_digest 54 = .ok (.iaload, 1) := by decide +kernel
theorem dX2_digest_55 : decode cX2_digest 55 = .ok (.i2l, 1) := by decide +kernel
theorem dX2_digest_56 : decode cX2_digest 56 = .ok (.ladd, 1) := by decide +kernel
theorem dX2_digest_57 : decode cX2_digest 57 = .ok (.lstore_n 1, 1) := by decide +kernel
theorem dX2_digest_58 : decode cX2_digest 58 = .ok (.iinc 3 1, 3) := by decide +kernel
theorem dX2_digest_61 : decode cX2_digest 61 = .ok (.goto (-23), 3) := by decide +kernel
theorem dX2_digest_64 : decode cX2_digest 64 = .ok (.iconst 0, 1) := by decide +kernel
theorem dX2_digest_65 : decode cX2_digest 65 = .ok (.istore_n 3, 1) := by decide +kernel
theorem dX2_digest_66 : decode cX2_digest 66 = .ok (.iload_n 3, 1) := by decide +kernel
theorem dX2_digest_67 : decode cX2_digest 67 = .ok (.aload_n 0, 1) := by decide +kernel
theorem dX2_digest_68 : decode cX2_digest 68 = .ok (.getfield 39, 3) := by decide +kernel
theorem dX2_digest_71 : decode cX2_digest 71 = .ok (.if_icmp .ge 40, 3) := by decide +kernel
theorem dX2_digest_74 : decode cX2_digest 74 = .ok (.iconst 0, 1) := by decide +kernel
theorem dX2_digest_75 : decode cX2_digest 75 = .ok (.istore 4, 2) := by decide +kernel
theorem dX2_digest_77 : decode cX2_digest 77 = .ok (.iload 4, 2) := by decide +kernel
theorem dX2_digest_79 : decode cX2_digest 79 = .ok (.bipush 8, 2) := by decide +kernel
theorem dX2_digest_81 : decode cX2_digest 81 = .ok (.if_icmp .ge 24, 3) := by decide +kernel
theorem dX2_digest_84 : decode cX2_digest 84 = .ok (.lload_n 1, 1) := by decide +kernel
theorem dX2_digest_85 : decode cX2_digest 85 = .ok (.ldc2_w 155, 3) := by decide +kernel
theorem dX2_digest_88 : decode cX2_digest 88 = .ok (.lmul, 1) := by decide +kernel
theorem dX2_digest_89 : decode cX2_digest 89 = .ok (.aload_n 0, 1) := by decide +kernel
theorem dX2_digest_90 : decode cX2_digest 90 = .ok (.iload_n 3, 1) := by decide +kernel
theorem dX2_digest_91 : decode cX2_digest 91 = .ok (.iload 4, 2) := by decide +kernel
theorem dX2_digest_93 : decode cX2_digest 93 = .ok (.invokevirtual 89, 3) := by decide +kernel
theorem dX2_digest_96 : decode cX2_digest 96 = .ok (.i2l, 1) := by decide +kernel
theorem dX2_digest_97 : decode cX2_digest 97 = .ok (.ladd, 1) := by decide +kernel
theorem dX2_digest_98 : decode cX2_digest 98 = .ok (.lstore_n 1, 1) := by decide +kernel
theorem dX2_digest_99 : decode cX2_digest 99 = .ok (.iinc 4 1, 3) := by decide +kernel
theorem dX2_digest_102 : decode cX2_digest 102 = .ok (.goto (-25), 3) := by decide +kernel
theorem dX2_digest_105 : decode cX2_digest 105 = .ok (.iinc 3 1, 3) := by decide +kernel
theorem dX2_digest_108 : decode cX2_digest 108 = .ok (.goto (-42), 3) := by decide +kernel
theorem dX2_digest_111 : decode cX2_digest 111 = .ok (.iconst 0, 1) := by decide +kernel
theorem dX2_digest_112 : decode cX2_digest 112 = .ok (.istore_n 3, 1) := by decide +kernel
theorem dX2_digest_113 : decode cX2_digest 113 = .ok (.iload_n 3, 1) := by decide +kernel
theorem dX2_digest_114 : decode cX2_digest 114 = .ok (.bipush 120, 2) := by decide +kernel
theorem dX2_digest_116 : decode cX2_digest 116 = .ok (.if_icmp .ge 40, 3) := by decide +kernel
theorem dX2_digest_119 : decode cX2_digest 119 = .ok (.iconst 0, 1) := by decide +kernel
theorem dX2_digest_120 : decode cX2_digest 120 = .ok (.istore 4, 2) := by decide +kernel
theorem dX2_digest_122 : decode cX2_digest 122 = .ok (.iload 4, 2) := by decide +kernel
theorem dX2_digest_124 : decode cX2_digest 124 = .ok (.bipush 6, 2) := by decide +kernel
theorem dX2_digest_126 : decode cX2_digest 126 = .ok (.if_icmp .ge 24, 3) := by decide +kernel
theorem dX2_digest_129 : decode cX2_digest 129 = .ok (.lload_n 1, 1) := by decide +kernel
theorem dX2_digest_130 : decode cX2_digest 130 = .ok (.ldc2_w 155, 3) := by decide +kernel
theorem dX2_digest_133 : decode cX2_digest 133 = .ok (.lmul, 1) := by decide +kernel
theorem dX2_digest_134 : decode cX2_digest 134 = .ok (.aload_n 0, 1) := by decide +kernel
theorem dX2_digest_135 : decode cX2_digest 135 = .ok (.iload_n 3, 1) := by decide +kernel
theorem dX2_digest_136 : decode cX2_digest 136 = .ok (.iload 4, 2) := by decide +kernel
theorem dX2_digest_138 : decode cX2_digest 138 = .ok (.invokevirtual 83, 3) := by decide +kernel
theorem dX2_digest_141 : decode cX2_digest 141 = .ok (.i2l, 1) := by decide +kernel
theorem dX2_digest_142 : decode cX2_digest 142 = .ok (.ladd, 1) := by decide +kernel
theorem dX2_digest_143 : decode cX2_digest 143 = .ok (.lstore_n 1, 1) := by decide +kernel
theorem dX2_digest_144 : decode cX2_digest 144 = .ok (.iinc 4 1, 3) := by decide +kernel
theorem dX2_digest_147 : decode cX2_digest 147 = .ok (.goto (-25), 3) := by decide +kernel
theorem dX2_digest_150 : decode cX2_digest 150 = .ok (.iinc 3 1, 3) := by decide +kernel
theorem dX2_digest_153 : decode cX2_digest 153 = .ok (.goto (-40), 3) := by decide +kernel
theorem dX2_digest_156 : decode cX2_digest 156 = .ok (.lload_n 1, 1) := by decide +kernel
theorem dX2_digest_157 : decode cX2_digest 157 = .ok (.lreturn, 1) := by decide +kernel
