theorem ggX1_init_X0_init : GoodIn wsX1_init wsX0_init := goodIn_r _ [22, 23, 2, 3, 17, 24, 25, 26, 27, 28, 29, 51, 52, 53, 54, 55, 56, 57, 58, 59] (by decide +kernel) (by decide +kernel)
set_option maxRecDepth 20000 in
theorem gX1_init_X0_init_n9 : GoodIn wsX1_init (wsX0_init) := ggX1_init_X0_init
set_option maxRecDepth 20000 in
theorem ggX1_init_X1_beginRound : GoodIn wsX1_init wsX1_beginRound := goodIn_r _ [34, 7, 18, 19, 35, 36, 37, 6, 38, 24, 25, 26, 39, 40, 41, 42, 43, 44, 45, 46, 47, 48, 49, 27, 28, 29, 50, 60, 61, 62, 63, 64, 65, 66, 67, 68, 51, 52, 53, 54, 55, 56, 57, 58, 59] (by decide +kernel) (by decide +kernel)
set_option maxRecDepth 20000 in
theorem gX1_init_X1_beginRound : GoodIn wsX1_init (wsV RX1 40 RX1 yX1_beginRound wsX1_beginRound) := goodIn_app (goodIn_of _ (by decide +kernel)) ggX1_init_X1_beginRound
theorem dX1_init_0 : decode cX1_init 0 = .ok (.aload_n 0, 1) := by decide +kernel
theorem dX1_init_1 : decode cX1_init 1 = .ok (.invokespecial 1, 3) := by decide +kernel
theorem dX1_init_4 : decode cX1_init 4 = .ok (.aload_n 0, 1) := by decide +kernel
theorem dX1_init_5 : decode cX1_init 5 = .ok (.new 7, 3) := by decide +kernel
theorem dX1_init_8 : decode cX1_init 8 = .ok (.dup, 1) := by decide +kernel
theorem dX1_init_9 : decode cX1_init 9 = .ok (.invokespecial 9, 3) := by decide +kernel
theorem dX1_init_12 : decode cX1_init 12 = .ok (.putfield 10, 3) := by decide +kernel
theorem dX1_init_15 : decode cX1_init 15 = .ok (.aload_n 0, 1) := by decide +kernel
theorem dX1_init_16 : decode cX1_init 16 = .ok (.new 7, 3) := by decide +kernel
theorem dX1_init_19 : decode cX1_init 19 = .ok (.dup, 1) := by decide +kernel
theorem dX1_init_20 : decode cX1_init 20 = .ok (.invokespecial 9, 3) := by decide +kernel
theorem dX1_init_23 : decode cX1_init 23 = .ok (.putfield 16, 3) := by decide +kernel
theorem dX1_init_26 : decode cX1_init 26 = .ok (.aload_n 0, 1) := by decide +kernel
theorem dX1_init_27 : decode cX1_init 27 = .ok (.getstatic 19, 3) := by decide +kernel
theorem dX1_init_30 : decode cX1_init 30 = .ok (.invokevirtual 23, 3) := by decide +kernel
theorem dX1_init_33 : decode cX1_init 33 = .ok (.checkcast 24, 3) := by decide +kernel
theorem dX1_init_36 : decode cX1_init 36 = .ok (.putfield 28, 3) := by decide +kernel
theorem dX1_init_39 : decode cX1_init 39 = .ok (.aload_n 0, 1) := by decide +kernel
theorem dX1_init_40 : decode cX1_init 40 = .ok (.iconst 4, 1) := by decide +kernel
theorem dX1_init_41 : decode cX1_init 41 = .ok (.newarray .int, 2) := by decide +kernel
theorem dX1_init_43 : decode cX1_init 43 = .ok (.putfield 31, 3) := by decide +kernel
theorem dX1_init_46 : decode cX1_init 46 = .ok (.aload_n 0, 1) := by decide +kernel
theorem dX1_init_47 : decode cX1_init 47 = .ok (.iconst 4, 1) := by decide +kernel
theorem dX1_init_48 : decode cX1_init 48 = .ok (.newarray .int, 2) := by decide +kernel
theorem dX1_init_50 : decode cX1_init 50 = .ok (.putfield 34, 3) := by decide +kernel
theorem dX1_init_53 : decode cX1_init 53 = .ok (.aload_n 0, 1) := by decide +kernel
theorem dX1_init_54 : decode cX1_init 54 = .ok (.iconst 4, 1) := by decide +kernel
theorem dX1_init_55 : decode cX1_init 55 = .ok (.newarray .int, 2) := by decide +kernel
theorem dX1_init_57 : decode cX1_init 57 = .ok (.putfield 37, 3) := by decide +kernel
theorem dX1_init_60 : decode cX1_init 60 = .ok (.aload_n 0, 1) := by decide +kernel
theorem dX1_init_61 : decode cX1_init 61 = .ok (.invokevirtual 40, 3) := by decide +kernel
theorem dX1_init_64 : decode cX1_init 64 = .ok (.return_, 1) := by decide +kernel
theorem dX1_addTeam_0 : decode cX1_addTeam 0 = .ok (.aload_n 0, 1) := by decide +kernel
theorem dX1_addTeam_1 : decode cX1_addTeam 1 = .ok (.getfield 43, 3) := by decide +kernel
theorem dX1_addTeam_4 : decode cX1_addTeam 4 = .ok (.iconst 4, 1) := by decide +kernel
theorem dX1_addTeam_5 : decode cX1_addTeam 5 = .ok (.if_icmp .lt 13, 3) := by decide +kernel
theorem dX1_addTeam_8 : decode cX1_addTeam 8 = .ok (.new 47, 3) := by decide +kernel
theorem dX1_addTeam_11 : decode cX1_addTeam 11 = .ok (.dup, 1) := by decide +kernel
theorem dX1_addTeam_12 : decode cX1_addTeam 12 = .ok (.ldc 49, 2) := by decide +kernel
theorem dX1_addTeam_14 : decode cX1_addTeam 14 = .ok (.invokespecial 51, 3) := by decide +kernel
theorem dX1_addTeam_17 : decode cX1_addTeam 17 = .ok (.athrow, 1) := by decide +kernel
theorem dX1_addTeam_18 : decode cX1_addTeam 18 = .ok (.aload_n 0, 1) := by decide +kernel
theorem dX1_addTeam_19 : decode cX1_addTeam 19 = .ok (.dup, 1) := by decide +kernel
theorem dX1_addTeam_20 : decode cX1_addTeam 20 = .ok (.getfield 43, 3) := by decide +kernel
theorem dX1_addTeam_23 : decode cX1_addTeam 23 = .ok (.iconst 1, 1) := by decide +kernel
theorem dX1_addTeam_24 : decode cX1_addTeam 24 = .ok (.iadd, 1) := by decide +kernel
theorem dX1_addTeam_25 : decode cX1_addTeam 25 = .ok (.putfield 43, 3) := by decide +kernel
theorem dX1_addTeam_28 : decode cX1_addTeam 28 = .ok (.aload_n 0, 1) := by decide +kernel
theorem dX1_addTeam_29 : decode cX1_addTeam 29 = .ok (.getfield 43, 3) := by decide +kernel
theorem dX1_addTeam_32 : decode cX1_addTeam 32 = .ok (.iconst 1, 1) := by decide +kernel
theorem dX1_addTeam_33 : decode cX1_addTeam 33 = .ok (.isub, 1) := by decide +kernel
theorem dX1_addTeam_34 : decode cX1_addTeam 34 = .ok (.ireturn, 1) := by decide +kernel
set_option maxRecDepth 20000 in
theorem ggX1_setTide_X1_requireLevel : GoodIn wsX1_setTide wsX1_requireLevel := goodIn_ca (goodIn_r _ [7, 8, 9] (by decide +kernel) (by decide +kernel)) (goodIn_sub (fun _ h => List.mem_cons_of_mem _ (List.mem_append_right _ h)) (by decide +kernel))
set_option maxRecDepth 20000 in
theorem gX1_setTide_X1_requireLevel : GoodIn wsX1_setTide (va_wsS RX1 59 yX1_requireLevel wsX1_requireLevel) := goodIn_app (goodIn_of _ (by decide +kernel)) ggX1_setTide_X1_requireLevel
theorem dX1_setTide_0 : decode cX1_setTide 0 = .ok (.iload_n 1, 1) := by decide +kernel
theorem dX1_setTide_1 : decode cX1_setTide 1 = .ok (.ifCond .lt 9, 3) := by decide +kernel
theorem dX1_setTide_4 : decode cX1_setTide 4 = .ok (.iload_n 1, 1) := by decide +kernel
theorem dX1_setTide_5 : decode cX1_setTide 5 = .ok (.bipush 12, 2) := by decide +kernel
theorem dX1_setTide_7 : decode cX1_setTide 7 = .ok (.if_icmp .lt 13, 3) := by decide +kernel
theorem dX1_setTide_10 : decode cX1_setTide 10 = .ok (.new 54, 3) := by decide +kernel
theorem dX1_setTide_13 : decode cX1_setTide 13 = .ok (.dup, 1) := by decide +kernel
theorem dX1_setTide_14 : decode cX1_setTide 14 = .ok (.ldc 56, 2) := by decide +kernel
theorem dX1_setTide_16 : decode cX1_setTide 16 = .ok (.invokespecial 58, 3) := by decide +kernel
theorem dX1_setTide_19 : decode cX1_setTide 19 = .ok (.athrow, 1) := by decide +kernel
theorem dX1_setTide_20 : decode cX1_setTide 20 = .ok (.iload_n 2, 1) := by decide +kernel
theorem dX1_setTide_21 : decode cX1_setTide 21 = .ok (.invokestatic 59, 3) := by decide +kernel
theorem dX1_setTide_24 : decode cX1_setTide 24 = .ok (.aload_n 0, 1) := by decide +kernel
theorem dX1_setTide_25 : decode cX1_setTide 25 = .ok (.getfield 28, 3) := by decide +kernel
theorem dX1_setTide_28 : decode cX1_setTide 28 = .ok (.iload_n 1, 1) := by decide +kernel
theorem dX1_setTide_29 : decode cX1_setTide 29 = .ok (.iaload, 1) := by decide +kernel
theorem dX1_setTide_30 : decode cX1_setTide 30 = .ok (.istore_n 3, 1) := by decide +kernel
theorem dX1_setTide_31 : decode cX1_setTide 31 = .ok (.aload_n 0, 1) := by decide +kernel
theorem dX1_setTide_32 : decode cX1_setTide 32 = .ok (.getfield 28, 3) := by decide +kernel
theorem dX1_setTide_35 : decode cX1_setTide 35 = .ok (.iload_n 1, 1) := by decide +kernel
theorem dX1_setTide_36 : decode cX1_setTide 36 = .ok (.iload_n 2, 1) := by decide +kernel
theorem dX1_setTide_37 : decode cX1_setTide 37 = .ok (.iastore, 1) := by decide +kernel
theorem dX1_setTide_38 : decode cX1_setTide 38 = .ok (.iload_n 3, 1) := by decide +kernel
theorem dX1_setTide_39 : decode cX1_setTide 39 = .ok (.ireturn, 1) := by decide +kernel
set_option maxRecDepth 20000 in
theorem ggX1_dig_X1_requireTeam : GoodIn wsX1_dig wsX1_requireTeam := goodIn_ca (goodIn_r _ [12, 13, 14, 15, 47, 48, 49, 50, 51, 52, 53, 54, 55] (by decide +kernel) (by decide +kernel)) (goodIn_sub (fun _ h => List.mem_cons_of_mem _ (List.mem_append_left _ (List.mem_append_left _ (List.mem_append_right _ h)))) (by decide +kernel))
set_option maxRecDepth 20000 in
theorem gX1_dig_X1_requireTeam : GoodIn wsX1_dig (wsV RX1 63 RX1 yX1_requireTeam wsX1_requireTeam) := goodIn_app (goodIn_of _ (by decide +kernel)) ggX1_dig_X1_requireTeam
set_option maxRecDepth 20000 in
theorem ggX1_dig_X1_requireArea : GoodIn wsX1_dig wsX1_requireArea := goodIn_ca (goodIn_r _ [18, 19, 20, 21, 22, 11, 23, 24, 25, 26, 27, 28, 29] (by decide +kernel) (by decide +kernel)) (goodIn_sub (fun _ h => List.mem_cons_of_mem _ (List.mem_append_left _ (List.mem_append_right _ h))) (by decide +kernel))
set_option maxRecDepth 20000 in
theorem gX1_dig_X1_requireArea : GoodIn wsX1_dig (va_wsS RX1 66 yX1_requireArea wsX1_requireArea) := goodIn_app (goodIn_of _ (by decide +kernel)) ggX1_dig_X1_requireArea
set_option maxRecDepth 20000 in
theorem ggX1_dig_X1_requireAmount : GoodIn wsX1_dig wsX1_requireAmount := goodIn_ca (goodIn_r _ [32, 19, 20] (by decide +kernel) (by decide +kernel)) (goodIn_sub (fun _ h => List.mem_cons_of_mem _ (List.mem_append_left _ (List.mem_append_right _ h))) (by decide +kernel))
set_option maxRecDepth 20000 in
theorem gX1_dig_X1_requireAmount : GoodIn wsX1_dig (va_wsS RX1 70 yX1_requireAmount wsX1_requireAmount) := goodIn_app (goodIn_of _ (by decide +kernel)) ggX1_dig_X1_requireAmount
set_option maxRecDepth 20000 in
theorem ggX1_dig_X1_requireStrength : GoodIn wsX1_dig wsX1_requireStrength := goodIn_ca (goodIn_r _ [36, 37, 38, 1, 47, 48, 49, 50, 51, 52, 53, 54, 55] (by decide +kernel) (by decide +kernel)) (goodIn_sub (fun _ h => List.mem_cons_of_mem _ (List.mem_append_right _ h)) (by decide +kernel))
set_option maxRecDepth 20000 in
theorem gX1_dig_X1_requireStrength : GoodIn wsX1_dig (wsV RX1 73 RX1 yX1_requireStrength wsX1_requireStrength) := goodIn_app (goodIn_of _ (by decide +kernel)) ggX1_dig_X1_requireStrength
set_option maxRecDepth 20000 in
theorem ggX1_dig_X1_cellAt : GoodIn wsX1_dig wsX1_cellAt := goodIn_r _ [26] (by decide +kernel) (by decide +kernel)
set_option maxRecDepth 20000 in
theorem gX1_dig_X1_cellAt : GoodIn wsX1_dig (va_wsS RX1 76 yX1_cellAt wsX1_cellAt) := goodIn_app (goodIn_of _ (by decide +kernel)) ggX1_dig_X1_cellAt
set_option maxRecDepth 20000 in
theorem ggX1_dig_X0_takeSand : GoodIn wsX1_dig wsX0_takeSand := goodIn_r _ [43, 44, 45, 5, 6, 7, 46, 56, 57, 58, 59, 60, 61, 62, 63, 64] (by decide +kernel) (by decide +kernel)
set_option maxRecDepth 20000 in
theorem gX1_dig_X0_takeSand : GoodIn wsX1_dig (wsV RX1 85 RX0 yX0_takeSand wsX0_takeSand) := goodIn_app (goodIn_of _ (by decide +kernel)) ggX1_dig_X0_takeSand
theorem dX1_dig_0 : decode cX1_dig 0 = .ok (.aload_n 0, 1) := by decide +kernel
theorem dX1_dig_1 : decode cX1_dig 1 = .ok (.iload_n 1, 1) := by decide +kernel
theorem dX1_dig_2 : decode cX1_dig 2 = .ok (.invokevirtual 63, 3) := by decide +kernel
theorem dX1_dig_5 : decode cX1_dig 5 = .ok (.iload_n 1, 1) := by decide +kernel
theorem dX1_dig_6 : decode cX1_dig 6 = .ok (.iload_n 2, 1) := by decide +kernel
theorem dX1_dig_7 : decode cX1_dig 7 = .ok (.iload_n 3, 1) := by decide +kernel
theorem dX1_dig_8 : decode cX1_dig 8 = .ok (.invokestatic 66, 3) := by decide +kernel
theorem dX1_dig_11 : decode cX1_dig 11 = .ok (.iload 4, 2) := by decide +kernel
theorem dX1_dig_13 : decode cX1_dig 13 = .ok (.invokestatic 70, 3) := by decide +kernel
theorem dX1_dig_16 : decode cX1_dig 16 = .ok (.aload_n 0, 1) := by decide +kernel
theorem dX1_dig_17 : decode cX1_dig 17 = .ok (.iload_n 1, 1) := by decide +kernel
theorem dX1_dig_18 : decode cX1_dig 18 = .ok (.invokevirtual 73, 3) := by decide +kernel
theorem dX1_dig_21 : decode cX1_dig 21 = .ok (.aload_n 0, 1) := by decide +kernel
theorem dX1_dig_22 : decode cX1_dig 22 = .ok (.getfield 34, 3) := by decide +kernel
theorem dX1_dig_25 : decode cX1_dig 25 = .ok (.iload_n 1, 1) := by decide +kernel
theorem dX1_dig_26 : decode cX1_dig 26 = .ok (.dup2, 1) := by decide +kernel
theorem dX1_dig_27 : decode cX1_dig 27 = .ok (.iaload, 1) := by decide +kernel
theorem dX1_dig_28 : decode cX1_dig 28 = .ok (.iconst 1, 1) := by decide +kernel
theorem dX1_dig_29 : decode cX1_dig 29 = .ok (.isub, 1) := by decide +kernel
theorem dX1_dig_30 : decode cX1_dig 30 = .ok (.iastore, 1) := by decide +kernel
theorem dX1_dig_31 : decode cX1_dig 31 = .ok (.aload_n 0, 1) := by decide +kernel
theorem dX1_dig_32 : decode cX1_dig 32 = .ok (.getfield 10, 3) := by decide +kernel
theorem dX1_dig_35 : decode cX1_dig 35 = .ok (.iload_n 2, 1) := by decide +kernel
theorem dX1_dig_36 : decode cX1_dig 36 = .ok (.iload_n 3, 1) := by decide +kernel
theorem dX1_dig_37 : decode cX1_dig 37 = .ok (.invokestatic 76, 3) := by decide +kernel
theorem dX1_dig_40 : decode cX1_dig 40 = .ok (.iload 4, 2) := by decide +kernel
theorem dX1_dig_42 : decode cX1_dig 42 = .ok (.bipush 40, 2) := by decide +kernel
theorem dX1_dig_44 : decode cX1_dig 44 = .ok (.aload_n 0, 1) := by decide +kernel
theorem dX1_dig_45 : decode cX1_dig 45 = .ok (.getfield 31, 3) := by decide +kernel
theorem dX1_dig_48 : decode cX1_dig 48 = .ok (.iload_n 1, 1) := by decide +kernel
theorem dX1_dig_49 : decode cX1_dig 49 = .ok (.iaload, 1) := by decide +kernel
theorem dX1_dig_50 : decode cX1_dig 50 = .ok (.isub, 1) := by decide +kernel
theorem dX1_dig_51 : decode cX1_dig 51 = .ok (.invokestatic 80, 3) := by decide +kernel
theorem dX1_dig_54 : decode cX1_dig 54 = .ok (.invokevirtual 85, 3) := by decide +kernel
theorem dX1_dig_57 : decode cX1_dig 57 = .ok (.istore 5, 2) := by decide +kernel
theorem dX1_dig_59 : decode cX1_dig 59 = .ok (.aload_n 0, 1) := by decide +kernel
theorem dX1_dig_60 : decode cX1_dig 60 = .ok (.getfield 31, 3) := by decide +kernel
theorem dX1_dig_63 : decode cX1_dig 63 = .ok (.iload_n 1, 1) := by decide +kernel
theorem dX1_dig_64 : decode cX1_dig 64 = .ok (.dup2, 1) := by decide +kernel
theorem dX1_dig_65 : decode cX1_dig 65 = .ok (.iaload, 1) := by decide +kernel
theorem dX1_dig_66 : decode cX1_dig 66 = .ok (.iload 5, 2) := by decide +kernel
theorem dX1_dig_68 : decode cX1_dig 68 = .ok (.iadd, 1) := by decide +kernel
theorem dX1_dig_69 : decode cX1_dig 69 = .ok (.iastore, 1) := by decide +kernel
theorem dX1_dig_70 : decode cX1_dig 70 = .ok (.iload 5, 2) := by decide +kernel
theorem dX1_dig_72 : decode cX1_dig 72 = .ok (.ireturn, 1) := by decide +kernel
set_option maxRecDepth 20000 in
theorem ggX1_pile_X1_requireTeam : GoodIn wsX1_pile wsX1_requireTeam := goodIn_ca (goodIn_r _ [12, 13, 14, 15, 51, 52, 53, 54, 55, 56, 57, 58, 59] (by decide +kernel) (by decide +kernel)) (goodIn_sub (fun _ h => List.mem_cons_of_mem _ (List.mem_append_left _ (List.mem_append_left _ (List.mem_append_right _ h)))) (by decide +kernel))
set_option maxRecDepth 20000 in
theorem gX1_pile_X1_requireTeam : GoodIn wsX1_pile (wsV RX1 63 RX1 yX1_requireTeam wsX1_requireTeam) := goodIn_app (goodIn_of _ (by decide +kernel)) ggX1_pile_X1_requireTeam
set_option maxRecDepth 20000 in
theorem ggX1_pile_X1_requireArea : GoodIn wsX1_pile wsX1_requireArea := goodIn_ca (goodIn_r _ [18, 19, 20, 21, 22, 11, 23, 24, 25, 26, 27, 28, 29] (by decide +kernel) (by decide +kernel)) (goodIn_sub (fun _ h => List.mem_cons_of_mem _ (List.mem_append_left _ (List.mem_append_right _ h))) (by decide +kernel))
set_option maxRecDepth 20000 in
theorem gX1_pile_X1_requireArea : GoodIn wsX1_pile (va_wsS RX1 66 yX1_requireArea wsX1_requireArea) := goodIn_app (goodIn_of _ (by decide +kernel)) ggX1_pile_X1_requireArea
set_option maxRecDepth 20000 in
theorem ggX1_pile_X1_requireAmount : GoodIn wsX1_pile wsX1_requireAmount := goodIn_ca (goodIn_r _ [32, 19, 20] (by decide +kernel) (by decide +kernel)) (goodIn_sub (fun _ h => List.mem_cons_of_mem _ (List.mem_append_left _ (List.mem_append_right _ h))) (by decide +kernel))
set_option maxRecDepth 20000 in
theorem gX1_pile_X1_requireAmount : GoodIn wsX1_pile (va_wsS RX1 70 yX1_requireAmount wsX1_requireAmount) := goodIn_app (goodIn_of _ (by decide +kernel)) ggX1_pile_X1_requireAmount
set_option maxRecDepth 20000 in
theorem ggX1_pile_X1_requireStrength : GoodIn wsX1_pile wsX1_requireStrength := goodIn_ca (goodIn_r _ [36, 37, 38, 1, 51, 52, 53, 54, 55, 56, 57, 58, 59] (by decide +kernel) (by decide +kernel)) (goodIn_sub (fun _ h => List.mem_cons_of_mem _ (List.mem_append_right _ h)) (by decide +kernel))
set_option maxRecDepth 20000 in
theorem gX1_pile_X1_requireStrength : GoodIn wsX1_pile (wsV RX1 73 RX1 yX1_requireStrength wsX1_requireStrength) := goodIn_app (goodIn_of _ (by decide +kernel)) ggX1_pile_X1_requireStrength
set_option maxRecDepth 20000 in
theorem ggX1_pile_X1_cellAt : GoodIn wsX1_pile wsX1_cellAt := goodIn_r _ [26] (by decide +kernel) (by decide +kernel)
set_option maxRecDepth 20000 in
theorem gX1_pile_X1_cellAt : GoodIn wsX1_pile (va_wsS RX1 76 yX1_cellAt wsX1_cellAt) := goodIn_app (goodIn_of _ (by decide +kernel)) ggX1_pile_X1_cellAt
set_option maxRecDepth 20000 in
theorem ggX1_pile_X0_putSand : GoodIn wsX1_pile wsX0_putSand := goodIn_r _ [43, 44, 45, 5, 6, 7, 46, 47, 48, 42, 49, 50, 60, 61, 62, 63, 64, 65, 66, 67, 68] (by decide +kernel) (by decide +kernel)
set_option maxRecDepth 20000 in
theorem gX1_pile_X0_putSand : GoodIn wsX1_pile (wsV RX1 88 RX0 yX0_putSand wsX0_putSand) := goodIn_app (goodIn_of _ (by decide +kernel)) ggX1_pile_X0_putSand
theorem dX1_pile_0 : decode cX1_pile 0 = .ok (.aload_n 0, 1) := by decide +kernel
theorem dX1_pile_1 : decode cX1_pile 1 = .ok (.iload_n 1, 1) := by decide +kernel
theorem dX1_pile_2 : decode cX1_pile 2 = .ok (.invokevirtual 63, 3) := by decide +kernel
theorem dX1_pile_5 : decode cX1_pile 5 = .ok (.iload_n 1, 1) := by decide +kernel
theorem dX1_pile_6 : decode cX1_pile 6 = .ok (.iload_n 2, 1) := by decide +kernel
theorem dX1_pile_7 : decode cX1_pile 7 = .ok (.iload_n 3, 1) := by decide +kernel
theorem dX1_pile_8 : decode cX1_pile 8 = .ok (.invokestatic 66, 3) := by decide +kernel
theorem dX1_pile_11 : decode cX1_pile 11 = .ok (.iload 4, 2) := by decide +kernel
theorem dX1_pile_13 : decode cX1_pile 13 = .ok (.invokestatic 70, 3) := by decide +kernel
theorem dX1_pile_16 : decode cX1_pile 16 = .ok (.aload_n 0, 1) := by decide +kernel
theorem dX1_pile_17 : decode cX1_pile 17 = .ok (.iload_n 1, 1) := by decide +kernel
theorem dX1_pile_18 : decode cX1_pile 18 = .ok (.invokevirtual 73, 3) := by decide +kernel
theorem dX1_pile_21 : decode cX1_pile 21 = .ok (.aload_n 0, 1) := by decide +kernel
theorem dX1_pile_22 : decode cX1_pile 22 = .ok (.getfield 34, 3) := by decide +kernel
theorem dX1_pile_25 : decode cX1_pile 25 = .ok (.iload_n 1, 1) := by decide +kernel
theorem dX1_pile_26 : decode cX1_pile 26 = .ok (.dup2, 1) := by decide +kernel
theorem dX1_pile_27 : decode cX1_pile 27 = .ok (.iaload, 1) := by decide +kernel
theorem dX1_pile_28 : decode cX1_pile 28 = .ok (.iconst 1, 1) := by decide +kernel
theorem dX1_pile_29 : decode cX1_pile 29 = .ok (.isub, 1) := by decide +kernel
theorem dX1_pile_30 : decode cX1_pile 30 = .ok (.iastore, 1) := by decide +kernel
theorem dX1_pile_31 : decode cX1_pile 31 = .ok (.aload_n 0, 1) := by decide +kernel
theorem dX1_pile_32 : decode cX1_pile 32 = .ok (.getfield 10, 3) := by decide +kernel
theorem dX1_pile_35 : decode cX1_pile 35 = .ok (.iload_n 2, 1) := by decide +kernel
theorem dX1_pile_36 : decode cX1_pile 36 = .ok (.iload_n 3, 1) := by decide +kernel
theorem dX1_pile_37 : decode cX1_pile 37 = .ok (.invokestatic 76, 3) := by decide +kernel
theorem dX1_pile_40 : decode cX1_pile 40 = .ok (.iload 4, 2) := by decide +kernel
theorem dX1_pile_42 : decode cX1_pile 42 = .ok (.aload_n 0, 1) := by decide +kernel
theorem dX1_pile_43 : decode cX1_pile 43 = .ok (.getfield 31, 3) := by decide +kernel
theorem dX1_pile_46 : decode cX1_pile 46 = .ok (.iload_n 1, 1) := by decide +kernel
theorem dX1_pile_47 : decode cX1_pile 47 = .ok (.iaload, 1) := by decide +kernel
theorem dX1_pile_48 : decode cX1_pile 48 = .ok (.invokestatic 80, 3) := by decide +kernel
theorem dX1_pile_51 : decode cX1_pile 51 = .ok (.invokevirtual 88, 3) := by decide +kernel
theorem dX1_pile_54 : decode cX1_pile 54 = .ok (.istore 5, 2) := by decide +kernel
theorem dX1_pile_56 : decode cX1_pile 56 = .ok (.aload_n 0, 1) := by decide +kernel
theorem dX1_pile_57 : decode cX1_pile 57 = .ok (.getfield 31, 3) := by decide +kernel
theorem dX1_pile_60 : decode cX1_pile 60 = .ok (.iload_n 1, 1) := by decide +kernel
theorem dX1_pile_61 : decode cX1_pile 61 = .ok (.dup2, 1) := by decide +kernel
theorem dX1_pile_62 : decode cX1_pile 62 = .ok (.iaload, 1) := by decide +kernel
theorem dX1_pile_63 : decode cX1_pile 63 = .ok (.iload 5, 2) := by decide +kernel
theorem dX1_pile_65 : decode cX1_pile 65 = .ok (.isub, 1) := by decide +kernel
theorem dX1_pile_66 : decode cX1_pile 66 = .ok (.iastore, 1) := by decide +kernel
theorem dX1_pile_67 : decode cX1_pile 67 = .ok (.iload 5, 2) := by decide +kernel
theorem dX1_pile_69 : decode cX1_pile 69 = .ok (.ireturn, 1) := by decide +kernel
set_option maxRecDepth 20000 in
theorem ggX1_pack_X1_requireTeam : GoodIn wsX1_pack wsX1_requireTeam := goodIn_ca (goodIn_r _ [7, 8, 9, 10, 43, 44, 45, 46, 47, 48, 49, 50, 51] (by decide +kernel) (by decide +kernel)) (goodIn_sub (fun _ h => List.mem_cons_of_mem _ (List.mem_append_left _ (List.mem_append_left _ (List.mem_append_right _ h)))) (by decide +kernel))
set_option maxRecDepth 20000 in
theorem gX1_pack_X1_requireTeam : GoodIn wsX1_pack (wsV RX1 63 RX1 yX1_requireTeam wsX1_requireTeam) := goodIn_app (goodIn_of _ (by decide +kernel)) ggX1_pack_X1_requireTeam
set_option maxRecDepth 20000 in
theorem ggX1_pack_X1_requireArea : GoodIn wsX1_pack wsX1_requireArea := goodIn_ca (goodIn_r _ [13, 14, 15, 16, 17, 6, 18, 19, 20, 21, 22, 23, 24] (by decide +kernel) (by decide +kernel)) (goodIn_sub (fun _ h => List.mem_cons_of_mem _ (List.mem_append_left _ (List.mem_append_right _ h))) (by decide +kernel))
set_option maxRecDepth 20000 in
theorem gX1_pack_X1_requireArea : GoodIn wsX1_pack (va_wsS RX1 66 yX1_requireArea wsX1_requireArea) := goodIn_app (goodIn_of _ (by decide +kernel)) ggX1_pack_X1_requireArea
set_option maxRecDepth 20000 in
theorem ggX1_pack_X1_requireStrength : GoodIn wsX1_pack wsX1_requireStrength := goodIn_ca (goodIn_r _ [28, 29, 30, 1, 43, 44, 45, 46, 47, 48, 49, 50, 51] (by decide +kernel) (by decide +kernel)) (goodIn_sub (fun _ h => List.mem_cons_of_mem _ (List.mem_append_right _ h)) (by decide +kernel))
set_option maxRecDepth 20000 in
theorem gX1_pack_X1_requireStrength : GoodIn wsX1_pack (wsV RX1 73 RX1 yX1_requireStrength wsX1_requireStrength) := goodIn_app (goodIn_of _ (by decide +kernel)) ggX1_pack_X1_requireStrength
set_option maxRecDepth 20000 in
theorem ggX1_pack_X1_cellAt : GoodIn wsX1_pack wsX1_cellAt := goodIn_r _ [21] (by decide +kernel) (by decide +kernel)
set_option maxRecDepth 20000 in
theorem gX1_pack_X1_cellAt : GoodIn wsX1_pack (va_wsS RX1 76 yX1_cellAt wsX1_cellAt) := goodIn_app (goodIn_of _ (by decide +kernel)) ggX1_pack_X1_cellAt
set_option maxRecDepth 20000 in
theorem ggX1_pack_X0_harden : GoodIn wsX1_pack wsX0_harden := goodIn_r _ [35, 36, 37, 38, 39, 40, 34, 41, 42, 52, 53, 54, 55, 56, 57, 58, 59, 60] (by decide +kernel) (by decide +kernel)
set_option maxRecDepth 20000 in
theorem gX1_pack_X0_harden : GoodIn wsX1_pack (wsV RX1 91 RX0 yX0_harden wsX0_harden) := goodIn_app (goodIn_of _ (by decide +kernel)) ggX1_pack_X0_harden
theorem dX1_pack_0 : decode cX1_pack 0 = .ok (.aload_n 0, 1) := by decide +kernel
theorem dX1_pack_1 : decode cX1_pack 1 = .ok (.iload_n 1, 1) := by decide +kernel
theorem dX1_pack_2 : decode cX1_pack 2 = .ok (.invokevirtual 63, 3) := by decide +kernel
theorem dX1_pack_5 : decode cX1_pack 5 = .ok (.iload_n 1, 1) := by decide +kernel
theorem dX1_pack_6 : decode cX1_pack 6 = .ok (.iload_n 2, 1) := by decide +kernel
theorem dX1_pack_7 : decode cX1_pack 7 = .ok (.iload_n 3, 1) := by decide +kernel
theorem dX1_pack_8 : decode cX1_pack 8 = .ok (.invokestatic 66, 3) := by decide +kernel
theorem dX1_pack_11 : decode cX1_pack 11 = .ok (.aload_n 0, 1) := by decide +kernel
theorem dX1_pack_12 : decode cX1_pack 12 = .ok (.iload_n 1, 1) := by decide +kernel
theorem dX1_pack_13 : decode cX1_pack 13 = .ok (.invokevirtual 73, 3) := by decide +kernel
theorem dX1_pack_16 : decode cX1_pack 16 = .ok (.aload_n 0, 1) := by decide +kernel
theorem dX1_pack_17 : decode cX1_pack 17 = .ok (.getfield 34, 3) := by decide +kernel
theorem dX1_pack_20 : decode cX1_pack 20 = .ok (.iload_n 1, 1) := by decide +kernel
theorem dX1_pack_21 : decode cX1_pack 21 = .ok (.dup2, 1) := by decide +kernel
theorem dX1_pack_22 : decode cX1_pack 22 = .ok (.iaload, 1) := by decide +kernel
theorem dX1_pack_23 : decode cX1_pack 23 = .ok (.iconst 1, 1) := by decide +kernel
theorem dX1_pack_24 : decode cX1_pack 24 = .ok (.isub, 1) := by decide +kernel
theorem dX1_pack_25 : decode cX1_pack 25 = .ok (.iastore, 1) := by decide +kernel
theorem dX1_pack_26 : decode cX1_pack 26 = .ok (.aload_n 0, 1) := by decide +kernel
theorem dX1_pack_27 : decode cX1_pack 27 = .ok (.getfield 10, 3) := by decide +kernel
theorem dX1_pack_30 : decode cX1_pack 30 = .ok (.iload_n 2, 1) := by decide +kernel
theorem dX1_pack_31 : decode cX1_pack 31 = .ok (.iload_n 3, 1) := by decide +kernel
theorem dX1_pack_32 : decode cX1_pack 32 = .ok (.invokestatic 76, 3) := by decide +kernel
theorem dX1_pack_35 : decode cX1_pack 35 = .ok (.invokevirtual 91, 3) := by decide +kernel
theorem dX1_pack_38 : decode cX1_pack 38 = .ok (.ireturn, 1) := by decide +kernel
set_option maxRecDepth 20000 in
theorem ggX1_plant_X1_requireTeam : GoodIn wsX1_plant wsX1_requireTeam := goodIn_ca (goodIn_r _ [9, 10, 11, 12, 60, 61, 62, 63, 64, 65, 66, 67, 68] (by decide +kernel) (by decide +kernel)) (goodIn_sub (fun _ h => List.mem_cons_of_mem _ (List.mem_append_left _ (List.mem_append_right _ h))) (by decide +kernel))
set_option maxRecDepth 20000 in
theorem gX1_plant_X1_requireTeam : GoodIn wsX1_plant (wsV RX1 63 RX1 yX1_requireTeam wsX1_requireTeam) := goodIn_app (goodIn_of _ (by decide +kernel)) ggX1_plant_X1_requireTeam
set_option maxRecDepth 20000 in
theorem ggX1_plant_X1_requireArea : GoodIn wsX1_plant wsX1_requireArea := goodIn_ca (goodIn_r _ [15, 16, 17, 18, 19, 8, 20, 21, 22, 23, 24, 25, 26] (by decide +kernel) (by decide +kernel)) (goodIn_sub (fun _ h => List.mem_cons_of_mem _ (List.mem_append_right _ h)) (by decide +kernel))
set_option maxRecDepth 20000 in
theorem gX1_plant_X1_requireArea : GoodIn wsX1_plant (va_wsS RX1 66 yX1_requireArea wsX1_requireArea) := goodIn_app (goodIn_of _ (by decide +kernel)) ggX1_plant_X1_requireArea
set_option maxRecDepth 20000 in
theorem ggX1_plant_X1_requireStrength : GoodIn wsX1_plant wsX1_requireStrength := goodIn_ca (goodIn_r _ [30, 1, 2, 4, 60, 61, 62, 63, 64, 65, 66, 67, 68] (by decide +kernel) (by decide +kernel)) (goodIn_sub (fun _ h => List.mem_cons_of_mem _ (List.mem_append_left _ (List.mem_append_left _ (List.mem_append_right _ h)))) (by decide +kernel))
set_option maxRecDepth 20000 in
theorem gX1_plant_X1_requireStrength : GoodIn wsX1_plant (wsV RX1 73 RX1 yX1_requireStrength wsX1_requireStrength) := goodIn_app (goodIn_of _ (by decide +kernel)) ggX1_plant_X1_requireStrength
set_option maxRecDepth 20000 in
theorem ggX1_plant_X0_sticksOf : GoodIn wsX1_plant wsX0_sticksOf := goodIn_r _ [35, 36, 69, 70, 71, 72, 73, 74, 75, 76, 77] (by decide +kernel) (by decide +kernel)
set_option maxRecDepth 20000 in
theorem gX1_plant_X0_sticksOf : GoodIn wsX1_plant (wsV RX1 95 RX0 yX0_sticksOf wsX0_sticksOf) := goodIn_app (goodIn_of _ (by decide +kernel)) ggX1_plant_X0_sticksOf
set_option maxRecDepth 20000 in
theorem ggX1_plant_X1_cellAt : GoodIn wsX1_plant wsX1_cellAt := goodIn_r _ [23] (by decide +kernel) (by decide +kernel)
set_option maxRecDepth 20000 in
theorem gX1_plant_X1_cellAt : GoodIn wsX1_plant (va_wsS RX1 76 yX1_cellAt wsX1_cellAt) := goodIn_app (goodIn_of _ (by decide +kernel)) ggX1_plant_X1_cellAt
set_option maxRecDepth 20000 in
theorem ggX1_plant_X0_isFree : GoodIn wsX1_plant wsX0_isFree := goodIn_r _ [40, 41, 42, 43, 34, 44, 36, 45, 46, 47, 48, 49, 69, 70, 71, 72, 73, 74, 75, 76, 77] (by decide +kernel) (by decide +kernel)
set_option maxRecDepth 20000 in
theorem gX1_plant_X0_isFree : GoodIn wsX1_plant (wsV RX1 100 RX0 yX0_isFree wsX0_isFree) := goodIn_app (goodIn_of _ (by decide +kernel)) ggX1_plant_X0_isFree
set_option maxRecDepth 20000 in
theorem ggX1_plant_X0_putStick : GoodIn wsX1_plant wsX0_putStick := goodIn_r _ [53, 36, 54, 55, 56, 57, 34, 58, 59, 69, 70, 71, 72, 73, 74, 75, 76, 77] (by decide +kernel) (by decide +kernel)
set_option maxRecDepth 20000 in
theorem gX1_plant_X0_putStick : GoodIn wsX1_plant (wsV RX1 106 RX0 yX0_putStick wsX0_putStick) := goodIn_app (goodIn_of _ (by decide +kernel)) ggX1_plant_X0_putStick
theorem dX1_plant_0 : decode cX1_plant 0 = .ok (.aload_n 0, 1) := by decide +kernel
theorem dX1_plant_1 : decode cX1_plant 1 = .ok (.iload_n 1, 1) := by decide +kernel
theorem dX1_plant_2 : decode cX1_plant 2 = .ok (.invokevirtual 63, 3) := by decide +kernel
theorem dX1_plant_5 : decode cX1_plant 5 = .ok (.iload_n 1, 1) := by decide +kernel
theorem dX1_plant_6 : decode cX1_plant 6 = .ok (.iload_n 2, 1) := by decide +kernel
theorem dX1_plant_7 : decode cX1_plant 7 = .ok (.iload_n 3, 1) := by decide +kernel
theorem dX1_plant_8 : decode cX1_plant 8 = .ok (.invokestatic 66, 3) := by decide +kernel
theorem dX1_plant_11 : decode cX1_plant 11 = .ok (.aload_n 0, 1) := by decide +kernel
theorem dX1_plant_12 : decode cX1_plant 12 = .ok (.iload_n 1, 1) := by decide +kernel
theorem dX1_plant_13 : decode cX1_plant 13 = .ok (.invokevirtual 73, 3) := by decide +kernel
theorem dX1_plant_16 : decode cX1_plant 16 = .ok (.aload_n 0, 1) := by decide +kernel
theorem dX1_plant_17 : decode cX1_plant 17 = .ok (.getfield 10, 3) := by decide +kernel
theorem dX1_plant_20 : decode cX1_plant 20 = .ok (.iload_n 1, 1) := by decide +kernel
theorem dX1_plant_21 : decode cX1_plant 21 = .ok (.invokevirtual 95, 3) := by decide +kernel
theorem dX1_plant_24 : decode cX1_plant 24 = .ok (.iconst 3, 1) := by decide +kernel
theorem dX1_plant_25 : decode cX1_plant 25 = .ok (.if_icmp .lt 13, 3) := by decide +kernel
theorem dX1_plant_28 : decode cX1_plant 28 = .ok (.new 47, 3) := by decide +kernel
theorem dX1_plant_31 : decode cX1_plant 31 = .ok (.dup, 1) := by decide +kernel
theorem dX1_plant_32 : decode cX1_plant 32 = .ok (.ldc 98, 2) := by decide +kernel
theorem dX1_plant_34 : decode cX1_plant 34 = .ok (.invokespecial 51, 3) := by decide +kernel
theorem dX1_plant_37 : decode cX1_plant 37 = .ok (.athrow, 1) := by decide +kernel
theorem dX1_plant_38 : decode cX1_plant 38 = .ok (.aload_n 0, 1) := by decide +kernel
theorem dX1_plant_39 : decode cX1_plant 39 = .ok (.getfield 10, 3) := by decide +kernel
theorem dX1_plant_42 : decode cX1_plant 42 = .ok (.iload_n 2, 1) := by decide +kernel
theorem dX1_plant_43 : decode cX1_plant 43 = .ok (.iload_n 3, 1) := by decide +kernel
theorem dX1_plant_44 : decode cX1_plant 44 = .ok (.invokestatic 76, 3) := by decide +kernel
theorem dX1_plant_47 : decode cX1_plant 47 = .ok (.invokevirtual 100, 3) := by decide +kernel
theorem dX1_plant_50 : decode cX1_plant 50 = .ok (.ifCond .ne 13, 3) := by decide +kernel
theorem dX1_plant_53 : decode cX1_plant 53 = .ok (.new 47, 3) := by decide +kernel
theorem dX1_plant_56 : decode cX1_plant 56 = .ok (.dup, 1) := by decide +kernel
theorem dX1_plant_57 : decode cX1_plant 57 = .ok (.ldc 104, 2) := by decide +kernel
theorem dX1_plant_59 : decode cX1_plant 59 = .ok (.invokespecial 51, 3) := by decide +kernel
theorem dX1_plant_62 : decode cX1_plant 62 = .ok (.athrow, 1) := by decide +kernel
theorem dX1_plant_63 : decode cX1_plant 63 = .ok (.aload_n 0, 1) := by decide +kernel
theorem dX1_plant_64 : decode cX1_plant 64 = .ok (.getfield 34, 3) := by decide +kernel
theorem dX1_plant_67 : decode cX1_plant 67 = .ok (.iload_n 1, 1) := by decide +kernel
theorem dX1_plant_68 : decode cX1_plant 68 = .ok (.dup2, 1) := by decide +kernel
theorem dX1_plant_69 : decode cX1_plant 69 = .ok (.iaload, 1) := by decide +kernel
theorem dX1_plant_70 : decode cX1_plant 70 = .ok (.iconst 1, 1) := by decide +kernel
theorem dX1_plant_71 : decode cX1_plant 71 = .ok (.isub, 1) := by decide +kernel
theorem dX1_plant_72 : decode cX1_plant 72 = .ok (.iastore, 1) := by decide +kernel
theorem dX1_plant_73 : decode cX1_plant 73 = .ok (.aload_n 0, 1) := by decide +kernel
theorem dX1_plant_74 : decode cX1_plant 74 = .ok (.getfield 10, 3) := by decide +kernel
theorem dX1_plant_77 : decode cX1_plant 77 = .ok (.iload_n 2, 1) := by decide +kernel
theorem dX1_plant_78 : decode cX1_plant 78 = .ok (.iload_n 3, 1) := by decide +kernel
theorem dX1_plant_79 : decode cX1_plant 79 = .ok (.invokestatic 76, 3) := by decide +kernel
theorem dX1_plant_82 : decode cX1_plant 82 = .ok (.iload_n 1, 1) := by decide +kernel
theorem dX1_plant_83 : decode cX1_plant 83 = .ok (.invokevirtual 106, 3) := by decide +kernel
theorem dX1_plant_86 : decode cX1_plant 86 = .ok (.aload_n 0, 1) := by decide +kernel
theorem dX1_plant_87 : decode cX1_plant 87 = .ok (.getfield 10, 3) := by decide +kernel
theorem dX1_plant_90 : decode cX1_plant 90 = .ok (.iload_n 1, 1) := by decide +kernel
theorem dX1_plant_91 : decode cX1_plant 91 = .ok (.invokevirtual 95, 3) := by decide +kernel
theorem dX1_plant_94 : decode cX1_plant 94 = .ok (.ireturn, 1) := by decide +kernel
set_option maxRecDepth 20000 in
theorem ggX1_cell_X1_requireCell : GoodIn wsX1_cell wsX1_requireCell := goodIn_ca (goodIn_r _ [5, 6, 7, 8, 9, 4, 10] (by decide +kernel) (by decide +kernel)) (goodIn_sub (fun _ h => List.mem_cons_of_mem _ (List.mem_append_right _ h)) (by decide +kernel))
set_option maxRecDepth 20000 in
theorem gX1_cell_X1_requireCell : GoodIn wsX1_cell (va_wsS RX1 110 yX1_requireCell wsX1_requireCell) := goodIn_app (goodIn_of _ (by decide +kernel)) ggX1_cell_X1_requireCell
set_option maxRecDepth 20000 in
theorem ggX1_cell_X1_requireWhat : GoodIn wsX1_cell wsX1_requireWhat := goodIn_ca (goodIn_r _ [13, 6, 7] (by decide +kernel) (by decide +kernel)) (goodIn_sub (fun _ h => List.mem_cons_of_mem _ (List.mem_append_right _ h)) (by decide +kernel))
set_option maxRecDepth 20000 in
theorem gX1_cell_X1_requireWhat : GoodIn wsX1_cell (va_wsS RX1 113 yX1_requireWhat wsX1_requireWhat) := goodIn_app (goodIn_of _ (by decide +kernel)) ggX1_cell_X1_requireWhat
set_option maxRecDepth 20000 in
theorem ggX1_cell_X1_cellAt : GoodIn wsX1_cell wsX1_cellAt := goodIn_r _ [16] (by decide +kernel) (by decide +kernel)
set_option maxRecDepth 20000 in
theorem gX1_cell_X1_cellAt : GoodIn wsX1_cell (va_wsS RX1 76 yX1_cellAt wsX1_cellAt) := goodIn_app (goodIn_of _ (by decide +kernel)) ggX1_cell_X1_cellAt
set_option maxRecDepth 20000 in
theorem ggX1_cell_X0_tellCell : GoodIn wsX1_cell wsX0_tellCell := goodIn_r _ [21, 22, 23, 24, 25, 26, 27, 28, 20, 29, 30, 31, 32, 33, 34, 44, 45, 46, 47, 48, 49, 50, 51, 52] (by decide +kernel) (by decide +kernel)
set_option maxRecDepth 20000 in
theorem gX1_cell_X0_tellCell : GoodIn wsX1_cell (wsV RX1 116 RX0 yX0_tellCell wsX0_tellCell) := goodIn_app (goodIn_of _ (by decide +kernel)) ggX1_cell_X0_tellCell
theorem dX1_cell_0 : decode cX1_cell 0 = .ok (.iload_n 1, 1) := by decide +kernel
theorem dX1_cell_1 : decode cX1_cell 1 = .ok (.iload_n 2, 1) := by decide +kernel
theorem dX1_cell_2 : decode cX1_cell 2 = .ok (.invokestatic 110, 3) := by decide +kernel
theorem dX1_cell_5 : decode cX1_cell 5 = .ok (.iload_n 3, 1) := by decide +kernel
theorem dX1_cell_6 : decode cX1_cell 6 = .ok (.bipush 6, 2) := by decide +kernel
theorem dX1_cell_8 : decode cX1_cell 8 = .ok (.invokestatic 113, 3) := by decide +kernel
theorem dX1_cell_11 : decode cX1_cell 11 = .ok (.aload_n 0, 1) := by decide +kernel
theorem dX1_cell_12 : decode cX1_cell 12 = .ok (.getfield 10, 3) := by decide +kernel
theorem dX1_cell_15 : decode cX1_cell 15 = .ok (.iload_n 1, 1) := by decide +kernel
theorem dX1_cell_16 : decode cX1_cell 16 = .ok (.iload_n 2, 1) := by decide +kernel
theorem dX1_cell_17 : decode cX1_cell 17 = .ok (.invokestatic 76, 3) := by decide +kernel
theorem dX1_cell_20 : decode cX1_cell 20 = .ok (.iload_n 3, 1) := by decide +kernel
theorem dX1_cell_21 : decode cX1_cell 21 = .ok (.invokevirtual 116, 3) := by decide +kernel
theorem dX1_cell_24 : decode cX1_cell 24 = .ok (.ireturn, 1) := by decide +kernel
set_option maxRecDepth 20000 in
theorem ggX1_team_X1_requireTeam : GoodIn wsX1_team wsX1_requireTeam := goodIn_ca (goodIn_r _ [9, 10, 11, 12, 54, 55, 56, 57, 58, 59, 60, 61, 62] (by decide +kernel) (by decide +kernel)) (goodIn_sub (fun _ h => List.mem_cons_of_mem _ (List.mem_append_right _ h)) (by decide +kernel))
set_option maxRecDepth 20000 in
theorem gX1_team_X1_requireTeam : GoodIn wsX1_team (wsV RX1 63 RX1 yX1_requireTeam wsX1_requireTeam) := goodIn_app (goodIn_of _ (by decide +kernel)) ggX1_team_X1_requireTeam
set_option maxRecDepth 20000 in
theorem ggX1_team_X1_requireWhat : GoodIn wsX1_team wsX1_requireWhat := goodIn_ca (goodIn_r _ [15, 10, 11] (by decide +kernel) (by decide +kernel)) (goodIn_sub (fun _ h => List.mem_cons_of_mem _ (List.mem_append_right _ h)) (by decide +kernel))
set_option maxRecDepth 20000 in
theorem gX1_team_X1_requireWhat : GoodIn wsX1_team (va_wsS RX1 113 yX1_requireWhat wsX1_requireWhat) := goodIn_app (goodIn_of _ (by decide +kernel)) ggX1_team_X1_requireWhat
set_option maxRecDepth 20000 in
theorem ggX1_team_X0_pointsOf : GoodIn wsX1_team wsX0_pointsOf := goodIn_r _ [20, 21, 63, 64, 65, 66, 67, 68, 69, 70, 71] (by decide +kernel) (by decide +kernel)
set_option maxRecDepth 20000 in
theorem gX1_team_X0_pointsOf : GoodIn wsX1_team (wsV RX1 119 RX0 yX0_pointsOf wsX0_pointsOf) := goodIn_app (goodIn_of _ (by decide +kernel)) ggX1_team_X0_pointsOf
set_option maxRecDepth 20000 in
theorem ggX1_team_X0_sticksOf : GoodIn wsX1_team wsX0_sticksOf := goodIn_r _ [25, 26, 63, 64, 65, 66, 67, 68, 69, 70, 71] (by decide +kernel) (by decide +kernel)
set_option maxRecDepth 20000 in
theorem gX1_team_X0_sticksOf : GoodIn wsX1_team (wsV RX1 95 RX0 yX0_sticksOf wsX0_sticksOf) := goodIn_app (goodIn_of _ (by decide +kernel)) ggX1_team_X0_sticksOf
set_option maxRecDepth 20000 in
theorem ggX1_team_X0_sandOfArea : GoodIn wsX1_team wsX0_sandOfArea := goodIn_r _ [30, 31, 32, 33, 19, 34, 35, 8, 36, 63, 64, 65, 66, 67, 68, 69, 70, 71] (by decide +kernel) (by decide +kernel)
set_option maxRecDepth 20000 in
theorem gX1_team_X0_sandOfArea : GoodIn wsX1_team (wsV RX1 122 RX0 yX0_sandOfArea wsX0_sandOfArea) := goodIn_app (goodIn_of _ (by decide +kernel)) ggX1_team_X0_sandOfArea
set_option maxRecDepth 20000 in
theorem ggX1_team_X0_greatestHeightOfArea : GoodIn wsX1_team wsX0_greatestHeightOfArea := goodIn_r _ [40, 41, 42, 43, 44, 35, 8, 36, 45, 46, 47, 19, 48, 31, 63, 64, 65, 66, 67, 68, 69, 70, 71] (by decide +kernel) (by decide +kernel)
set_option maxRecDepth 20000 in
theorem gX1_team_X0_greatestHeightOfArea : GoodIn wsX1_team (wsV RX1 125 RX0 yX0_greatestHeightOfArea wsX0_greatestHeightOfArea) := goodIn_app (goodIn_of _ (by decide +kernel)) ggX1_team_X0_greatestHeightOfArea
set_option maxRecDepth 20000 in
theorem ggX1_team_X0_waterOfArea : GoodIn wsX1_team wsX0_waterOfArea := goodIn_r _ [52, 53, 32, 33, 19, 34, 35, 8, 36, 63, 64, 65, 66, 67, 68, 69, 70, 71] (by decide +kernel) (by decide +kernel)
set_option maxRecDepth 20000 in
theorem gX1_team_X0_waterOfArea : GoodIn wsX1_team (wsV RX1 128 RX0 yX0_waterOfArea wsX0_waterOfArea) := goodIn_app (goodIn_of _ (by decide +kernel)) ggX1_team_X0_waterOfArea
theorem dX1_team_0 : decode cX1_team 0 = .ok (.aload_n 0, 1) := by decide +kernel
theorem dX1_team_1 : decode cX1_team 1 = .ok (.iload_n 1, 1) := by decide +kernel
theorem dX1_team_2 : decode cX1_team 2 = .ok (.invokevirtual 63, 3) := by decide +kernel
theorem dX1_team_5 : decode cX1_team 5 = .ok (.iload_n 2, 1) := by decide +kernel
theorem dX1_team_6 : decode cX1_team 6 = .ok (.bipush 8, 2) := by decide +kernel
theorem dX1_team_8 : decode cX1_team 8 = .ok (.invokestatic 113, 3) := by decide +kernel
theorem dX1_team_11 : decode cX1_team 11 = .ok (.iload_n 2, 1) := by decide +kernel
theorem dX1_team_12 : decode cX1_team 12 = .ok (.tableswitch 103 0 6 #[44, 51, 58, 67, 76, 85, 94], 44) := by decide +kernel
theorem dX1_team_56 : decode cX1_team 56 = .ok (.aload_n 0, 1) := by decide +kernel
theorem dX1_team_57 : decode cX1_team 57 = .ok (.getfield 31, 3) := by decide +kernel
theorem dX1_team_60 : decode cX1_team 60 = .ok (.iload_n 1, 1) := by decide +kernel
theorem dX1_team_61 : decode cX1_team 61 = .ok (.iaload, 1) := by decide +kernel
theorem dX1_team_62 : decode cX1_team 62 = .ok (.ireturn, 1) := by decide +kernel
theorem dX1_team_63 : decode cX1_team 63 = .ok (.aload_n 0, 1) := by decide +kernel
theorem dX1_team_64 : decode cX1_team 64 = .ok (.getfield 34, 3) := by decide +kernel
theorem dX1_team_67 : decode cX1_team 67 = .ok (.iload_n 1, 1) := by decide +kernel
theorem dX1_team_68 : decode cX1_team 68 = .ok (.iaload, 1) := by decide +kernel
theorem dX1_team_69 : decode cX1_team 69 = .ok (.ireturn, 1) := by decide +kernel
theorem dX1_team_70 : decode cX1_team 70 = .ok (.aload_n 0, 1) := by decide +kernel
theorem dX1_team_71 : decode cX1_team 71 = .ok (.getfield 10, 3) := by decide +kernel
theorem dX1_team_74 : decode cX1_team 74 = .ok (.iload_n 1, 1) := by decide +kernel
theorem dX1_team_75 : decode cX1_team 75 = .ok (.invokevirtual 119, 3) := by decide +kernel
theorem dX1_team_78 : decode cX1_team 78 = .ok (.ireturn, 1) := by decide +kernel
theorem dX1_team_79 : decode cX1_team 79 = .ok (.aload_n 0, 1) := by decide +kernel
theorem dX1_team_80 : decode cX1_team 80 = .ok (.getfield 10, 3) := by decide +kernel
theorem dX1_team_83 : decode cX1_team 83 = .ok (.iload_n 1, 1) := by decide +kernel
theorem dX1_team_84 : decode cX1_team 84 = .ok (.invokevirtual 95, 3) := by decide +kernel
theorem dX1_team_87 : decode cX1_team 87 = .ok (.ireturn, 1) := by decide +kernel
theorem dX1_team_88 : decode cX1_team 88 = .ok (.aload_n 0, 1) := by decide +kernel
theorem dX1_team_89 : decode cX1_team 89 = .ok (.getfield 10, 3) := by decide +kernel
theorem dX1_team_92 : decode cX1_team 92 = .ok (.iload_n 1, 1) := by decide +kernel
theorem dX1_team_93 : decode cX1_team 93 = .ok (.invokevirtual 122, 3) := by decide +kernel
theorem dX1_team_96 : decode cX1_team 96 = .ok (.ireturn, 1) := by decide +kernel
theorem dX1_team_97 : decode cX1_team 97 = .ok (.aload_n 0, 1) := by decide +kernel
theorem dX1_team_98 : decode cX1_team 98 = .ok (.getfield 10, 3) := by decide +kernel
theorem dX1_team_101 : decode cX1_team 101 = .ok (.iload_n 1, 1) := by decide +kernel
theorem dX1_team_102 : decode cX1_team 102 = .ok (.invokevirtual 125, 3) := by decide +kernel
theorem dX1_team_105 : decode cX1_team 105 = .ok (.ireturn, 1) := by decide +kernel
theorem dX1_team_106 : decode cX1_team 106 = .ok (.aload_n 0, 1) := by decide +kernel
theorem dX1_team_107 : decode cX1_team 107 = .ok (.getfield 10, 3) := by decide +kernel
theorem dX1_team_110 : decode cX1_team 110 = .ok (.iload_n 1, 1) := by decide +kernel
theorem dX1_team_111 : decode cX1_team 111 = .ok (.invokevirtual 128, 3) := by decide +kernel
theorem dX1_team_114 : decode cX1_team 114 = .ok (.ireturn, 1) := by decide +kernel
theorem dX1_team_115 : decode cX1_team 115 = .ok (.aload_n 0, 1) := by decide +kernel
theorem dX1_team_116 : decode cX1_team 116 = .ok (.getfield 37, 3) := by decide +kernel
theorem dX1_team_119 : decode cX1_team 119 = .ok (.iload_n 1, 1) := by decide +kernel
theorem dX1_team_120 : decode cX1_team 120 = .ok (.iaload, 1) := by decide +kernel
theorem dX1_team_121 : decode cX1_team 121 = .ok (.ireturn, 1) := by decide +kernel
set_option maxRecDepth 20000 in
theorem ggX1_count_X1_requireWhat : GoodIn wsX1_count wsX1_requireWhat := goodIn_ca (goodIn_r _ [8, 9, 10] (by decide +kernel) (by decide +kernel)) (goodIn_sub (fun _ h => List.mem_cons_of_mem _ (List.mem_append_right _ h)) (by decide +kernel))
set_option maxRecDepth 20000 in
theorem gX1_count_X1_requireWhat : GoodIn wsX1_count (va_wsS RX1 113 yX1_requireWhat wsX1_requireWhat) := goodIn_app (goodIn_of _ (by decide +kernel)) ggX1_count_X1_requireWhat
set_option maxRecDepth 20000 in
theorem ggX1_count_X0_allWater : GoodIn wsX1_count wsX0_allWater := goodIn_r _ [15, 16, 17, 18, 14, 19, 43, 44, 45, 46, 47, 48, 49, 50, 51] (by decide +kernel) (by decide +kernel)
set_option maxRecDepth 20000 in
theorem gX1_count_X0_allWater : GoodIn wsX1_count (wsV RX1 134 RX0 yX0_allWater wsX0_allWater) := goodIn_app (goodIn_of _ (by decide +kernel)) ggX1_count_X0_allWater
set_option maxRecDepth 20000 in
theorem ggX1_count_X0_allSand : GoodIn wsX1_count wsX0_allSand := goodIn_r _ [23, 24, 17, 18, 14, 19, 43, 44, 45, 46, 47, 48, 49, 50, 51] (by decide +kernel) (by decide +kernel)
set_option maxRecDepth 20000 in
theorem gX1_count_X0_allSand : GoodIn wsX1_count (wsV RX1 138 RX0 yX0_allSand wsX0_allSand) := goodIn_app (goodIn_of _ (by decide +kernel)) ggX1_count_X0_allSand
set_option maxRecDepth 20000 in
theorem ggX1_count_X0_allSticks : GoodIn wsX1_count wsX0_allSticks := goodIn_r _ [28, 29, 30, 31, 14, 32, 33, 43, 44, 45, 46, 47, 48, 49, 50, 51] (by decide +kernel) (by decide +kernel)
set_option maxRecDepth 20000 in
theorem gX1_count_X0_allSticks : GoodIn wsX1_count (wsV RX1 147 RX0 yX0_allSticks wsX0_allSticks) := goodIn_app (goodIn_of _ (by decide +kernel)) ggX1_count_X0_allSticks
theorem dX1_count_0 : decode cX1_count 0 = .ok (.iload_n 1, 1) := by decide +kernel
theorem dX1_count_1 : decode cX1_count 1 = .ok (.bipush 9, 2) := by decide +kernel
theorem dX1_count_3 : decode cX1_count 3 = .ok (.invokestatic 113, 3) := by decide +kernel
theorem dX1_count_6 : decode cX1_count 6 = .ok (.iload_n 1, 1) := by decide +kernel
theorem dX1_count_7 : decode cX1_count 7 = .ok (.tableswitch 103 0 7 #[45, 50, 55, 63, 71, 79, 87, 95], 45) := by decide +kernel
theorem dX1_count_52 : decode cX1_count 52 = .ok (.aload_n 0, 1) := by decide +kernel
theorem dX1_count_53 : decode cX1_count 53 = .ok (.getfield 131, 3) := by decide +kernel
theorem dX1_count_56 : decode cX1_count 56 = .ok (.ireturn, 1) := by decide +kernel
theorem dX1_count_57 : decode cX1_count 57 = .ok (.aload_n 0, 1) := by decide +kernel
theorem dX1_count_58 : decode cX1_count 58 = .ok (.getfield 43, 3) := by decide +kernel
theorem dX1_count_61 : decode cX1_count 61 = .ok (.ireturn, 1) := by decide +kernel
theorem dX1_count_62 : decode cX1_count 62 = .ok (.aload_n 0, 1) := by decide +kernel
theorem dX1_count_63 : decode cX1_count 63 = .ok (.getfield 10, 3) := by decide +kernel
theorem dX1_count_66 : decode cX1_count 66 = .ok (.invokevirtual 134, 3) := by decide +kernel
theorem dX1_count_69 : decode cX1_count 69 = .ok (.ireturn, 1) := by decide +kernel
theorem dX1_count_70 : decode cX1_count 70 = .ok (.aload_n 0, 1) := by decide +kernel
theorem dX1_count_71 : decode cX1_count 71 = .ok (.getfield 10, 3) := by decide +kernel
theorem dX1_count_74 : decode cX1_count 74 = .ok (.invokevirtual 138, 3) := by decide +kernel
theorem dX1_count_77 : decode cX1_count 77 = .ok (.ireturn, 1) := by decide +kernel
theorem dX1_count_78 : decode cX1_count 78 = .ok (.aload_n 0, 1) := by decide +kernel
theorem dX1_count_79 : decode cX1_count 79 = .ok (.getfield 10, 3) := by decide +kernel
theorem dX1_count_82 : decode cX1_count 82 = .ok (.getfield 141, 3) := by decide +kernel
theorem dX1_count_85 : decode cX1_count 85 = .ok (.ireturn, 1) := by decide +kernel
theorem dX1_count_86 : decode cX1_count 86 = .ok (.aload_n 0, 1) := by decide +kernel
theorem dX1_count_87 : decode cX1_count 87 = .ok (.getfield 10, 3) := by decide +kernel
theorem dX1_count_90 : decode cX1_count 90 = .ok (.getfield 144, 3) := by decide +kernel
theorem dX1_count_93 : decode cX1_count 93 = .ok (.ireturn, 1) := by decide +kernel
theorem dX1_count_94 : decode cX1_count 94 = .ok (.aload_n 0, 1) := by decide +kernel
theorem dX1_count_95 : decode cX1_count 95 = .ok (.getfield 10, 3) := by decide +kernel
theorem dX1_count_98 : decode cX1_count 98 = .ok (.invokevirtual 147, 3) := by decide +kernel
theorem dX1_count_101 : decode cX1_count 101 = .ok (.ireturn, 1) := by decide +kernel
theorem dX1_count_102 : decode cX1_count 102 = .ok (.aload_n 0, 1) := by decide +kernel
theorem dX1_count_103 : decode cX1_count 103 = .ok (.getfield 10, 3) := by decide +kernel
theorem dX1_count_106 : decode cX1_count 106 = .ok (.getfield 150, 3) := by decide +kernel
theorem dX1_count_109 : decode cX1_count 109 = .ok (.ireturn, 1) := by decide +kernel
theorem dX1_count_110 : decode cX1_count 110 = .ok (.aload_n 0, 1) := by decide +kernel
theorem dX1_count_111 : decode cX1_count 111 = .ok (.getfield 153, 3) := by decide +kernel
theorem dX1_count_114 : decode cX1_count 114 = .ok (.ireturn, 1) := by decide +kernel
set_option maxRecDepth 20000 in
theorem ggX1_pass_X1_requireHours : GoodIn wsX1_pass wsX1_requireHours := goodIn_ca (goodIn_r _ [7, 8, 9] (by decide +kernel) (by decide +kernel)) (goodIn_sub (fun _ h => List.mem_cons_of_mem _ (List.mem_append_right _ h)) (by decide +kernel))
set_option maxRecDepth 20000 in
theorem gX1_pass_X1_requireHours : GoodIn wsX1_pass (va_wsS RX1 156 yX1_requireHours wsX1_requireHours) := goodIn_app (goodIn_of _ (by decide +kernel)) ggX1_pass_X1_requireHours
set_option maxRecDepth 20000 in
theorem ggX1_pass_X1_letHoursGoBy : GoodIn wsX1_pass wsX1_letHoursGoBy := goodIn_r _ [13, 14, 2, 15, 16, 17, 18, 19, 20, 21, 22, 23, 24, 25, 26, 27, 28, 29, 30, 31, 32, 33, 34, 35, 36, 37, 38, 39, 40, 41, 42, 43, 44, 45, 46, 47, 48, 49, 50, 51, 52, 53, 54, 55, 56, 57, 58, 59, 60, 61, 62, 63, 64, 65, 66, 67, 68, 69, 70, 71, 72, 73, 74, 75, 76, 77, 78, 79, 80, 81, 82, 83, 84, 85, 86, 87, 88, 89, 90, 91, 92, 93, 94, 96, 97, 98, 99, 100, 101, 102, 103, 104, 105, 106, 107, 108, 109, 110, 111, 112, 113] (by decide +kernel) (by decide +kernel)
set_option maxRecDepth 20000 in
theorem gX1_pass_X1_letHoursGoBy : GoodIn wsX1_pass (wsV RX1 159 RX1 yX1_letHoursGoBy wsX1_letHoursGoBy) := goodIn_app (goodIn_of _ (by decide +kernel)) ggX1_pass_X1_letHoursGoBy
set_option maxRecDepth 20000 in
theorem ggX1_pass_J7_fill_53178 : GoodIn wsX1_pass wsJ7_fill_53178 := goodIn_r _ [33] (by decide +kernel) (by decide +kernel)
set_option maxRecDepth 20000 in
theorem gX1_pass_J7_fill_53178 : GoodIn wsX1_pass (va_wsS RX1 163 yJ7_fill_53178 wsJ7_fill_53178) := goodIn_app (goodIn_of _ (by decide +kernel)) ggX1_pass_J7_fill_53178
theorem dX1_pass_0 : decode cX1_pass 0 = .ok (.iload_n 1, 1) := by decide +kernel
theorem dX1_pass_1 : decode cX1_pass 1 = .ok (.bipush 48, 2) := by decide +kernel
theorem dX1_pass_3 : decode cX1_pass 3 = .ok (.invokestatic 156, 3) := by decide +kernel
theorem dX1_pass_6 : decode cX1_pass 6 = .ok (.aload_n 0, 1) := by decide +kernel
theorem dX1_pass_7 : decode cX1_pass 7 = .ok (.getfield 10, 3) := by decide +kernel
theorem dX1_pass_10 : decode cX1_pass 10 = .ok (.getfield 150, 3) := by decide +kernel
theorem dX1_pass_13 : decode cX1_pass 13 = .ok (.istore_n 2, 1) := by decide +kernel
theorem dX1_pass_14 : decode cX1_pass 14 = .ok (.aload_n 0, 1) := by decide +kernel
theorem dX1_pass_15 : decode cX1_pass 15 = .ok (.aload_n 0, 1) := by decide +kernel
theorem dX1_pass_16 : decode cX1_pass 16 = .ok (.getfield 10, 3) := by decide +kernel
theorem dX1_pass_19 : decode cX1_pass 19 = .ok (.iload_n 1, 1) := by decide +kernel
theorem dX1_pass_20 : decode cX1_pass 20 = .ok (.invokevirtual 159, 3) := by decide +kernel
theorem dX1_pass_23 : decode cX1_pass 23 = .ok (.aload_n 0, 1) := by decide +kernel
theorem dX1_pass_24 : decode cX1_pass 24 = .ok (.dup, 1) := by decide +kernel
theorem dX1_pass_25 : decode cX1_pass 25 = .ok (.getfield 131, 3) := by decide +kernel
theorem dX1_pass_28 : decode cX1_pass 28 = .ok (.iload_n 1, 1) := by decide +kernel
theorem dX1_pass_29 : decode cX1_pass 29 = .ok (.iadd, 1) := by decide +kernel
theorem dX1_pass_30 : decode cX1_pass 30 = .ok (.putfield 131, 3) := by decide +kernel
theorem dX1_pass_33 : decode cX1_pass 33 = .ok (.aload_n 0, 1) := by decide +kernel
theorem dX1_pass_34 : decode cX1_pass 34 = .ok (.getfield 34, 3) := by decide +kernel
theorem dX1_pass_37 : decode cX1_pass 37 = .ok (.bipush 20, 2) := by decide +kernel
theorem dX1_pass_39 : decode cX1_pass 39 = .ok (.invokestatic 163, 3) := by decide +kernel
theorem dX1_pass_42 : decode cX1_pass 42 = .ok (.aload_n 0, 1) := by decide +kernel
theorem dX1_pass_43 : decode cX1_pass 43 = .ok (.getfield 10, 3) := by decide +kernel
theorem dX1_pass_46 : decode cX1_pass 46 = .ok (.getfield 150, 3) := by decide +kernel
theorem dX1_pass_49 : decode cX1_pass 49 = .ok (.iload_n 2, 1) := by decide +kernel
theorem dX1_pass_50 : decode cX1_pass 50 = .ok (.isub, 1) := by decide +kernel
theorem dX1_pass_51 : decode cX1_pass 51 = .ok (.ireturn, 1) := by decide +kernel
set_option maxRecDepth 20000 in
theorem ggX1_endRound_X1_teamsWithFewerPoints : GoodIn wsX1_endRound wsX1_teamsWithFewerPoints := goodIn_r _ [8, 1, 9, 10, 11, 12, 13, 14, 15, 43, 44, 45, 46, 47, 48, 49, 50, 51, 52, 53, 54, 55, 56, 57, 58, 59, 60] (by decide +kernel) (by decide +kernel)
set_option maxRecDepth 20000 in
theorem gX1_endRound_X1_teamsWithFewerPoints : GoodIn wsX1_endRound (wsV RX1 169 RX1 yX1_teamsWithFewerPoints wsX1_teamsWithFewerPoints) := goodIn_app (goodIn_of _ (by decide +kernel)) ggX1_endRound_X1_teamsWithFewerPoints
set_option maxRecDepth 20000 in
theorem ggX1_endRound_X1_beginRound : GoodIn wsX1_endRound wsX1_beginRound := goodIn_r _ [19, 9, 20, 21, 22, 23, 24, 13, 25, 26, 27, 28, 29, 30, 31, 32, 33, 34, 35, 36, 37, 38, 39, 40, 41, 15, 42, 43, 44, 45, 46, 47, 48, 49, 50, 51, 52, 53, 54, 55, 56, 57, 58, 59, 60] (by decide +kernel) (by decide +kernel)
set_option maxRecDepth 20000 in
theorem gX1_endRound_X1_beginRound : GoodIn wsX1_endRound (wsV RX1 40 RX1 yX1_beginRound wsX1_beginRound) := goodIn_app (goodIn_of _ (by decide +kernel)) ggX1_endRound_X1_beginRound
theorem dX1_endRound_0 : decode cX1_endRound 0 = .ok (.iconst 0, 1) := by decide +kernel
theorem dX1_endRound_1 : decode cX1_endRound 1 = .ok (.istore_n 1, 1) := by decide +kernel
theorem dX1_endRound_2 : decode cX1_endRound 2 = .ok (.iload_n 1, 1) := by decide +kernel
theorem dX1_endRound_3 : decode cX1_endRound 3 = .ok (.aload_n 0, 1) := by decide +kernel
theorem dX1_endRound_4 : decode cX1_endRound 4 = .ok (.getfield 43, 3) := by decide +kernel
theorem dX1_endRound_7 : decode cX1_endRound 7 = .ok (.if_icmp .ge 23, 3) := by decide +kernel
theorem dX1_endRound_10 : decode cX1_endRound 10 = .ok (.aload_n 0, 1) := by decide +kernel
theorem dX1_endRound_11 : decode cX1_endRound 11 = .ok (.getfield 37, 3) := by decide +kernel
theorem dX1_endRound_14 : decode cX1_endRound 14 = .ok (.iload_n 1, 1) := by decide +kernel
theorem dX1_endRound_15 : decode cX1_endRound 15 = .ok (.dup2, 1) := by decide +kernel
theorem dX1_endRound_16 : decode cX1_endRound 16 = .ok (.iaload, 1) := by decide +kernel
theorem dX1_endRound_17 : decode cX1_endRound 17 = .ok (.aload_n 0, 1) := by decide +kernel
theorem dX1_endRound_18 : decode cX1_endRound 18 = .ok (.iload_n 1, 1) := by decide +kernel
theorem dX1_endRound_19 : decode cX1_endRound 19 = .ok (.invokevirtual 169, 3) := by decide +kernel
theorem dX1_endRound_22 : decode cX1_endRound 22 = .ok (.iadd, 1) := by decide +kernel
theorem dX1_endRound_23 : decode cX1_endRound 23 = .ok (.iastore, 1) := by decide +kernel
theorem dX1_endRound_24 : decode cX1_endRound 24 = .ok (.iinc 1 1, 3) := by decide +kernel
theorem dX1_endRound_27 : decode cX1_endRound 27 = .ok (.goto (-25), 3) := by decide +kernel
theorem dX1_endRound_30 : decode cX1_endRound 30 = .ok (.aload_n 0, 1) := by decide +kernel
theorem dX1_endRound_31 : decode cX1_endRound 31 = .ok (.invokevirtual 40, 3) := by decide +kernel
theorem dX1_endRound_34 : decode cX1_endRound 34 = .ok (.aload_n 0, 1) := by decide +kernel
theorem dX1_endRound_35 : decode cX1_endRound 35 = .ok (.dup, 1) := by decide +kernel
theorem dX1_endRound_36 : decode cX1_endRound 36 = .ok (.getfield 153, 3) := by decide +kernel
theorem dX1_endRound_39 : decode cX1_endRound 39 = .ok (.iconst 1, 1) := by decide +kernel
theorem dX1_endRound_40 : decode cX1_endRound 40 = .ok (.iadd, 1) := by decide +kernel
theorem dX1_endRound_41 : decode cX1_endRound 41 = .ok (.putfield 153, 3) := by decide +kernel
theorem dX1_endRound_44 : decode cX1_endRound 44 = .ok (.aload_n 0, 1) := by decide +kernel
theorem dX1_endRound_45 : decode cX1_endRound 45 = .ok (.getfield 153, 3) := by decide +kernel
theorem dX1_endRound_48 : decode cX1_endRound 48 = .ok (.ireturn, 1) := by decide +kernel
set_option maxRecDepth 20000 in
theorem ggX1_leader_X1_teamsAheadOf : GoodIn wsX1_leader wsX1_teamsAheadOf := goodIn_r _ [8, 3, 9, 10, 11, 7, 12, 13, 14, 15, 16, 17, 18, 19, 20, 21, 22, 23, 24, 25, 26, 27, 28, 29, 30, 31, 32, 33, 34, 35, 36, 37, 38] (by decide +kernel) (by decide +kernel)
set_option maxRecDepth 20000 in
theorem gX1_leader_X1_teamsAheadOf : GoodIn wsX1_leader (wsV RX1 174 RX1 yX1_teamsAheadOf wsX1_teamsAheadOf) := goodIn_app (goodIn_of _ (by decide +kernel)) ggX1_leader_X1_teamsAheadOf
theorem dX1_leader_0 : decode cX1_leader 0 = .ok (.iload_n 1, 1) := by decide +kernel
theorem dX1_leader_1 : decode cX1_leader 1 = .ok (.ifCond .lt 11, 3) := by decide +kernel
theorem dX1_leader_4 : decode cX1_leader 4 = .ok (.iload_n 1, 1) := by decide +kernel
theorem dX1_leader_5 : decode cX1_leader 5 = .ok (.aload_n 0, 1) := by decide +kernel
theorem dX1_leader_6 : decode cX1_leader 6 = .ok (.getfield 43, 3) := by decide +kernel
theorem dX1_leader_9 : decode cX1_leader 9 = .ok (.if_icmp .lt 13, 3) := by decide +kernel
theorem dX1_leader_12 : decode cX1_leader 12 = .ok (.new 54, 3) := by decide +kernel
theorem dX1_leader_15 : decode cX1_leader 15 = .ok (.dup, 1) := by decide +kernel
theorem dX1_leader_16 : decode cX1_leader 16 = .ok (.ldc 172, 2) := by decide +kernel
theorem dX1_leader_18 : decode cX1_leader 18 = .ok (.invokespecial 58, 3) := by decide +kernel
theorem dX1_leader_21 : decode cX1_leader 21 = .ok (.athrow, 1) := by decide +kernel
theorem dX1_leader_22 : decode cX1_leader 22 = .ok (.iconst 0, 1) := by decide +kernel
theorem dX1_leader_23 : decode cX1_leader 23 = .ok (.istore_n 2, 1) := by decide +kernel
theorem dX1_leader_24 : decode cX1_leader 24 = .ok (.iconst 0, 1) := by decide +kernel
theorem dX1_leader_25 : decode cX1_leader 25 = .ok (.istore_n 3, 1) := by decide +kernel
theorem dX1_leader_26 : decode cX1_leader 26 = .ok (.iload_n 3, 1) := by decide +kernel
theorem dX1_leader_27 : decode cX1_leader 27 = .ok (.aload_n 0, 1) := by decide +kernel
theorem dX1_leader_28 : decode cX1_leader 28 = .ok (.getfield 43, 3) := by decide +kernel
theorem dX1_leader_31 : decode cX1_leader 31 = .ok (.if_icmp .ge 20, 3) := by decide +kernel
theorem dX1_leader_34 : decode cX1_leader 34 = .ok (.aload_n 0, 1) := by decide +kernel
theorem dX1_leader_35 : decode cX1_leader 35 = .ok (.iload_n 3, 1) := by decide +kernel
theorem dX1_leader_36 : decode cX1_leader 36 = .ok (.invokevirtual 174, 3) := by decide +kernel
theorem dX1_leader_39 : decode cX1_leader 39 = .ok (.iload_n 1, 1) := by decide +kernel
theorem dX1_leader_40 : decode cX1_leader 40 = .ok (.if_icmp .ne 5, 3) := by decide +kernel
theorem dX1_leader_43 : decode cX1_leader 43 = .ok (.iload_n 3, 1) := by decide +kernel
theorem dX1_leader_44 : decode cX1_leader 44 = .ok (.istore_n 2, 1) := by decide +kernel
theorem dX1_leader_45 : decode cX1_leader 45 = .ok (.iinc 3 1, 3) := by decide +kernel
theorem dX1_leader_48 : decode cX1_leader 48 = .ok (.goto (-22), 3) := by decide +kernel
theorem dX1_leader_51 : decode cX1_leader 51 = .ok (.iload_n 2, 1) := by decide +kernel
theorem dX1_leader_52 : decode cX1_leader 52 = .ok (.ireturn, 1) := by decide +kernel
set_option maxRecDepth 20000 in
theorem ggX1_flood_X1_requireLevel : GoodIn wsX1_flood wsX1_requireLevel := goodIn_ca (goodIn_r _ [6, 7, 8] (by decide +kernel) (by decide +kernel)) (goodIn_sub (fun _ h => List.mem_cons_of_mem _ (List.mem_append_right _ h)) (by decide +kernel))
set_option maxRecDepth 20000 in
theorem gX1_flood_X1_requireLevel : GoodIn wsX1_flood (va_wsS RX1 59 yX1_requireLevel wsX1_requireLevel) := goodIn_app (goodIn_of _ (by decide +kernel)) ggX1_flood_X1_requireLevel
set_option maxRecDepth 20000 in
theorem ggX1_flood_X0_become : GoodIn wsX1_flood wsX0_become := goodIn_r _ [13, 14, 15, 16, 17, 18, 19, 20, 21, 22, 23, 24, 25, 26, 70, 71, 72, 73, 74, 75, 76, 77, 78] (by decide +kernel) (by decide +kernel)
set_option maxRecDepth 20000 in
theorem gX1_flood_X0_become : GoodIn wsX1_flood (wsV RX1 177 RX0 yX0_become wsX0_become) := goodIn_app (goodIn_of _ (by decide +kernel)) ggX1_flood_X0_become
set_option maxRecDepth 20000 in
theorem ggX1_flood_X0_findWater : GoodIn wsX1_flood wsX0_findWater := goodIn_r _ [30, 20, 31, 32, 33, 34, 35, 36, 37, 12, 38, 39, 40, 41, 42, 43, 44, 45, 46, 14, 47, 48, 49, 50, 51, 52, 53, 70, 71, 72, 73, 74, 75, 76, 77, 78] (by decide +kernel) (by decide +kernel)
set_option maxRecDepth 20000 in
theorem gX1_flood_X0_findWater : GoodIn wsX1_flood (wsV RX1 181 RX0 yX0_findWater wsX0_findWater) := goodIn_app (goodIn_of _ (by decide +kernel)) ggX1_flood_X0_findWater
set_option maxRecDepth 20000 in
theorem ggX1_flood_X0_allWater : GoodIn wsX1_flood wsX0_allWater := goodIn_r _ [57, 20, 58, 59, 12, 60, 70, 71, 72, 73, 74, 75, 76, 77, 78] (by decide +kernel) (by decide +kernel)
set_option maxRecDepth 20000 in
theorem gX1_flood_X0_allWater : GoodIn wsX1_flood (wsV RX1 134 RX0 yX0_allWater wsX0_allWater) := goodIn_app (goodIn_of _ (by decide +kernel)) ggX1_flood_X0_allWater
theorem dX1_flood_0 : decode cX1_flood 0 = .ok (.iload_n 1, 1) := by decide +kernel
theorem dX1_flood_1 : decode cX1_flood 1 = .ok (.invokestatic 59, 3) := by decide +kernel
theorem dX1_flood_4 : decode cX1_flood 4 = .ok (.aload_n 0, 1) := by decide +kernel
theorem dX1_flood_5 : decode cX1_flood 5 = .ok (.getfield 16, 3) := by decide +kernel
theorem dX1_flood_8 : decode cX1_flood 8 = .ok (.aload_n 0, 1) := by decide +kernel
theorem dX1_flood_9 : decode cX1_flood 9 = .ok (.getfield 10, 3) := by decide +kernel
theorem dX1_flood_12 : decode cX1_flood 12 = .ok (.invokevirtual 177, 3) := by decide +kernel
theorem dX1_flood_15 : decode cX1_flood 15 = .ok (.aload_n 0, 1) := by decide +kernel
theorem dX1_flood_16 : decode cX1_flood 16 = .ok (.getfield 16, 3) := by decide +kernel
theorem dX1_flood_19 : decode cX1_flood 19 = .ok (.iload_n 1, 1) := by decide +kernel
theorem dX1_flood_20 : decode cX1_flood 20 = .ok (.invokevirtual 181, 3) := by decide +kernel
theorem dX1_flood_23 : decode cX1_flood 23 = .ok (.aload_n 0, 1) := by decide +kernel
theorem dX1_flood_24 : decode cX1_flood 24 = .ok (.getfield 16, 3) := by decide +kernel
theorem dX1_flood_27 : decode cX1_flood 27 = .ok (.invokevirtual 134, 3) := by decide +kernel
theorem dX1_flood_30 : decode cX1_flood 30 = .ok (.ireturn, 1) := by decide +kernel
set_option maxRecDepth 20000 in
theorem ggX1_reach_X1_requireCell : GoodIn wsX1_reach wsX1_requireCell := goodIn_ca (goodIn_r _ [6, 7, 8, 9, 10, 5, 11] (by decide +kernel) (by decide +kernel)) (goodIn_sub (fun _ h => List.mem_cons_of_mem _ (List.mem_append_right _ h)) (by decide +kernel))
set_option maxRecDepth 20000 in
theorem gX1_reach_X1_requireCell : GoodIn wsX1_reach (va_wsS RX1 110 yX1_requireCell wsX1_requireCell) := goodIn_app (goodIn_of _ (by decide +kernel)) ggX1_reach_X1_requireCell
set_option maxRecDepth 20000 in
theorem ggX1_reach_X1_cellAt : GoodIn wsX1_reach wsX1_cellAt := goodIn_r _ [14] (by decide +kernel) (by decide +kernel)
set_option maxRecDepth 20000 in
theorem gX1_reach_X1_cellAt : GoodIn wsX1_reach (va_wsS RX1 76 yX1_cellAt wsX1_cellAt) := goodIn_app (goodIn_of _ (by decide +kernel)) ggX1_reach_X1_cellAt
set_option maxRecDepth 20000 in
theorem ggX1_reach_X0_become : GoodIn wsX1_reach wsX0_become := goodIn_r _ [19, 20, 21, 22, 23, 24, 25, 26, 27, 28, 29, 30, 31, 32, 70, 71, 72, 73, 74, 75, 76, 77, 78] (by decide +kernel) (by decide +kernel)
set_option maxRecDepth 20000 in
theorem gX1_reach_X0_become : GoodIn wsX1_reach (wsV RX1 177 RX0 yX0_become wsX0_become) := goodIn_app (goodIn_of _ (by decide +kernel)) ggX1_reach_X0_become
set_option maxRecDepth 20000 in
theorem ggX1_reach_X0_findWater : GoodIn wsX1_reach wsX0_findWater := goodIn_r _ [36, 26, 37, 38, 39, 40, 41, 42, 43, 18, 44, 45, 46, 47, 48, 49, 50, 51, 52, 20, 53, 54, 55, 56, 57, 58, 59, 70, 71, 72, 73, 74, 75, 76, 77, 78] (by decide +kernel) (by decide +kernel)
set_option maxRecDepth 20000 in
theorem gX1_reach_X0_findWater : GoodIn wsX1_reach (wsV RX1 181 RX0 yX0_findWater wsX0_findWater) := goodIn_app (goodIn_of _ (by decide +kernel)) ggX1_reach_X0_findWater
set_option maxRecDepth 20000 in
theorem ggX1_reach_X0_isWet : GoodIn wsX1_reach wsX0_isWet := goodIn_r _ [48, 26, 70, 71, 72, 73, 74, 75, 76, 77, 78] (by decide +kernel) (by decide +kernel)
set_option maxRecDepth 20000 in
theorem gX1_reach_X0_isWet : GoodIn wsX1_reach (wsV RX1 184 RX0 yX0_isWet wsX0_isWet) := goodIn_app (goodIn_of _ (by decide +kernel)) ggX1_reach_X0_isWet
theorem dX1_reach_0 : decode cX1_reach 0 = .ok (.iload_n 1, 1) := by decide +kernel
theorem dX1_reach_1 : decode cX1_reach 1 = .ok (.iload_n 2, 1) := by decide +kernel
theorem dX1_reach_2 : decode cX1_reach 2 = .ok (.invokestatic 110, 3) := by decide +kernel
theorem dX1_reach_5 : decode cX1_reach 5 = .ok (.iload_n 1, 1) := by decide +kernel
theorem dX1_reach_6 : decode cX1_reach 6 = .ok (.iload_n 2, 1) := by decide +kernel
theorem dX1_reach_7 : decode cX1_reach 7 = .ok (.invokestatic 76, 3) := by decide +kernel
theorem dX1_reach_10 : decode cX1_reach 10 = .ok (.istore_n 3, 1) := by decide +kernel
theorem dX1_reach_11 : decode cX1_reach 11 = .ok (.aload_n 0, 1) := by decide +kernel
theorem dX1_reach_12 : decode cX1_reach 12 = .ok (.getfield 16, 3) := by decide +kernel
theorem dX1_reach_15 : decode cX1_reach 15 = .ok (.aload_n 0, 1) := by decide +kernel
theorem dX1_reach_16 : decode cX1_reach 16 = .ok (.getfield 10, 3) := by decide +kernel
theorem dX1_reach_19 : decode cX1_reach 19 = .ok (.invokevirtual 177, 3) := by decide +kernel
theorem dX1_reach_22 : decode cX1_reach 22 = .ok (.iconst 0, 1) := by decide +kernel
theorem dX1_reach_23 : decode cX1_reach 23 = .ok (.istore 4, 2) := by decide +kernel
theorem dX1_reach_25 : decode cX1_reach 25 = .ok (.iload 4, 2) := by decide +kernel
theorem dX1_reach_27 : decode cX1_reach 27 = .ok (.bipush 60, 2) := by decide +kernel
theorem dX1_reach_29 : decode cX1_reach 29 = .ok (.if_icmp .ge 32, 3) := by decide +kernel
theorem dX1_reach_32 : decode cX1_reach 32 = .ok (.aload_n 0, 1) := by decide +kernel
theorem dX1_reach_33 : decode cX1_reach 33 = .ok (.getfield 16, 3) := by decide +kernel
theorem dX1_reach_36 : decode cX1_reach 36 = .ok (.iload 4, 2) := by decide +kernel
theorem dX1_reach_38 : decode cX1_reach 38 = .ok (.invokevirtual 181, 3) := by decide +kernel
theorem dX1_reach_41 : decode cX1_reach 41 = .ok (.aload_n 0, 1) := by decide +kernel
theorem dX1_reach_42 : decode cX1_reach 42 = .ok (.getfield 16, 3) := by decide +kernel
theorem dX1_reach_45 : decode cX1_reach 45 = .ok (.iload_n 3, 1) := by decide +kernel
theorem dX1_reach_46 : decode cX1_reach 46 = .ok (.invokevirtual 184, 3) := by decide +kernel
theorem dX1_reach_49 : decode cX1_reach 49 = .ok (.ifCond .eq 6, 3) := by decide +kernel
theorem dX1_reach_52 : decode cX1_reach 52 = .ok (.iload 4, 2) := by decide +kernel
theorem dX1_reach_54 : decode cX1_reach 54 = .ok (.ireturn, 1) := by decide +kernel
theorem dX1_reach_55 : decode cX1_reach 55 = .ok (.iinc 4 1, 3) := by decide +kernel
theorem dX1_reach_58 : decode cX1_reach 58 = .ok (.goto (-33), 3) := by decide +kernel
theorem dX1_reach_61 : decode cX1_reach 61 = .ok (.bipush 60, 2) := by decide +kernel
theorem dX1_reach_63 : decode cX1_reach 63 = .ok (.ireturn, 1) := by decide +kernel
set_option maxRecDepth 20000 in
theorem ggX1_foresee_X1_requireHours : GoodIn wsX1_foresee wsX1_requireHours := goodIn_ca (goodIn_r _ [6, 7, 8] (by decide +kernel) (by decide +kernel)) (goodIn_sub (fun _ h => List.mem_cons_of_mem _ (List.mem_append_left _ (List.mem_append_right _ h))) (by decide +kernel))
set_option maxRecDepth 20000 in
theorem gX1_foresee_X1_requireHours : GoodIn wsX1_foresee (va_wsS RX1 156 yX1_requireHours wsX1_requireHours) := goodIn_app (goodIn_of _ (by decide +kernel)) ggX1_foresee_X1_requireHours
set_option maxRecDepth 20000 in
theorem ggX1_foresee_X1_requireTeam : GoodIn wsX1_foresee wsX1_requireTeam := goodIn_ca (goodIn_r _ [12, 13, 14, 15, 130, 131, 132, 133, 134, 135, 136, 137, 138] (by decide +kernel) (by decide +kernel)) (goodIn_sub (fun _ h => List.mem_cons_of_mem _ (List.mem_append_right _ h)) (by decide +kernel))
set_option maxRecDepth 20000 in
theorem gX1_foresee_X1_requireTeam : GoodIn wsX1_foresee (wsV RX1 63 RX1 yX1_requireTeam wsX1_requireTeam) := goodIn_app (goodIn_of _ (by decide +kernel)) ggX1_foresee_X1_requireTeam
set_option maxRecDepth 20000 in
theorem ggX1_foresee_X1_requireWhat : GoodIn wsX1_foresee wsX1_requireWhat := goodIn_ca (goodIn_r _ [18, 13, 14] (by decide +kernel) (by decide +kernel)) (goodIn_sub (fun _ h => List.mem_cons_of_mem _ (List.mem_append_right _ h)) (by decide +kernel))
set_option maxRecDepth 20000 in
theorem gX1_foresee_X1_requireWhat : GoodIn wsX1_foresee (va_wsS RX1 113 yX1_requireWhat wsX1_requireWhat) := goodIn_app (goodIn_of _ (by decide +kernel)) ggX1_foresee_X1_requireWhat
set_option maxRecDepth 20000 in
theorem ggX1_foresee_X0_become : GoodIn wsX1_foresee wsX0_become := goodIn_r _ [23, 24, 25, 26, 27, 28, 29, 30, 31, 32, 33, 34, 35, 36, 139, 140, 141, 142, 143, 144, 145, 146, 147] (by decide +kernel) (by decide +kernel)
set_option maxRecDepth 20000 in
theorem gX1_foresee_X0_become : GoodIn wsX1_foresee (wsV RX1 177 RX0 yX0_become wsX0_become) := goodIn_app (goodIn_of _ (by decide +kernel)) ggX1_foresee_X0_become
set_option maxRecDepth 20000 in
theorem ggX1_foresee_X1_letHoursGoBy : GoodIn wsX1_foresee wsX1_letHoursGoBy := goodIn_r _ [40, 41, 42, 43, 44, 45, 46, 47, 48, 49, 22, 50, 35, 51, 52, 53, 54, 30, 55, 56, 57, 58, 59, 60, 61, 62, 63, 64, 65, 66, 67, 68, 69, 70, 24, 71, 72, 73, 74, 75, 76, 77, 78, 79, 80, 81, 29, 82, 83, 84, 85, 86, 87, 88, 34, 89, 90, 91, 92, 93, 94, 95, 96, 97, 98, 99, 100, 101, 102, 103, 104, 105, 106, 107, 108, 109, 110, 111, 112, 31, 32, 36, 33, 130, 131, 132, 133, 134, 135, 136, 137, 138, 139, 140, 141, 142, 143, 144, 145, 146, 147] (by decide +kernel) (by decide +kernel)
set_option maxRecDepth 20000 in
theorem gX1_foresee_X1_letHoursGoBy : GoodIn wsX1_foresee (wsV RX1 159 RX1 yX1_letHoursGoBy wsX1_letHoursGoBy) := goodIn_app (goodIn_of _ (by decide +kernel)) ggX1_foresee_X1_letHoursGoBy
set_option maxRecDepth 20000 in
theorem ggX1_foresee_X0_pointsOf : GoodIn wsX1_foresee wsX0_pointsOf := goodIn_r _ [116, 33, 139, 140, 141, 142, 143, 144, 145, 146, 147] (by decide +kernel) (by decide +kernel)
set_option maxRecDepth 20000 in
theorem gX1_foresee_X0_pointsOf : GoodIn wsX1_foresee (wsV RX1 119 RX0 yX0_pointsOf wsX0_pointsOf) := goodIn_app (goodIn_of _ (by decide +kernel)) ggX1_foresee_X0_pointsOf
set_option maxRecDepth 20000 in
theorem ggX1_foresee_X0_sticksOf : GoodIn wsX1_foresee wsX0_sticksOf := goodIn_r _ [120, 31, 139, 140, 141, 142, 143, 144, 145, 146, 147] (by decide +kernel) (by decide +kernel)
set_option maxRecDepth 20000 in
theorem gX1_foresee_X0_sticksOf : GoodIn wsX1_foresee (wsV RX1 95 RX0 yX0_sticksOf wsX0_sticksOf) := goodIn_app (goodIn_of _ (by decide +kernel)) ggX1_foresee_X0_sticksOf
set_option maxRecDepth 20000 in
theorem ggX1_foresee_X0_sandOfArea : GoodIn wsX1_foresee wsX0_sandOfArea := goodIn_r _ [124, 24, 125, 126, 22, 127, 128, 5, 129, 139, 140, 141, 142, 143, 144, 145, 146, 147] (by decide +kernel) (by decide +kernel)
set_option maxRecDepth 20000 in
theorem gX1_foresee_X0_sandOfArea : GoodIn wsX1_foresee (wsV RX1 122 RX0 yX0_sandOfArea wsX0_sandOfArea) := goodIn_app (goodIn_of _ (by decide +kernel)) ggX1_foresee_X0_sandOfArea
theorem dX1_foresee_0 : decode cX1_foresee 0 = .ok (.iload_n 1, 1) := by decide +kernel
theorem dX1_foresee_1 : decode cX1_foresee 1 = .ok (.bipush 48, 2) := by decide +kernel
theorem dX1_foresee_3 : decode cX1_foresee 3 = .ok (.invokestatic 156, 3) := by decide +kernel
theorem dX1_foresee_6 : decode cX1_foresee 6 = .ok (.aload_n 0, 1) := by decide +kernel
theorem dX1_foresee_7 : decode cX1_foresee 7 = .ok (.iload_n 2, 1) := by decide +kernel
theorem dX1_foresee_8 : decode cX1_foresee 8 = .ok (.invokevirtual 63, 3) := by decide +kernel
theorem dX1_foresee_11 : decode cX1_foresee 11 = .ok (.iload_n 3, 1) := by decide +kernel
theorem dX1_foresee_12 : decode cX1_foresee 12 = .ok (.iconst 3, 1) := by decide +kernel
theorem dX1_foresee_13 : decode cX1_foresee 13 = .ok (.invokestatic 113, 3) := by decide +kernel
theorem dX1_foresee_16 : decode cX1_foresee 16 = .ok (.aload_n 0, 1) := by decide +kernel
theorem dX1_foresee_17 : decode cX1_foresee 17 = .ok (.getfield 16, 3) := by decide +kernel
theorem dX1_foresee_20 : decode cX1_foresee 20 = .ok (.aload_n 0, 1) := by decide +kernel
theorem dX1_foresee_21 : decode cX1_foresee 21 = .ok (.getfield 10, 3) := by decide +kernel
theorem dX1_foresee_24 : decode cX1_foresee 24 = .ok (.invokevirtual 177, 3) := by decide +kernel
theorem dX1_foresee_27 : decode cX1_foresee 27 = .ok (.aload_n 0, 1) := by decide +kernel
theorem dX1_foresee_28 : decode cX1_foresee 28 = .ok (.aload_n 0, 1) := by decide +kernel
theorem dX1_foresee_29 : decode cX1_foresee 29 = .ok (.getfield 16, 3) := by decide +kernel
theorem dX1_foresee_32 : decode cX1_foresee 32 = .ok (.iload_n 1, 1) := by decide +kernel
theorem dX1_foresee_33 : decode cX1_foresee 33 = .ok (.invokevirtual 159, 3) := by decide +kernel
theorem dX1_foresee_36 : decode cX1_foresee 36 = .ok (.iload_n 3, 1) := by decide +kernel
theorem dX1_foresee_37 : decode cX1_foresee 37 = .ok (.lookupswitch 54 #[(0, 27), (1, 45)], 27) := by decide +kernel
theorem dX1_foresee_64 : decode cX1_foresee 64 = .ok (.aload_n 0, 1) := by decide +kernel
theorem dX1_foresee_65 : decode cX1_foresee 65 = .ok (.getfield 16, 3) := by decide +kernel
theorem dX1_foresee_68 : decode cX1_foresee 68 = .ok (.iload_n 2, 1) := by decide +kernel
theorem dX1_foresee_69 : decode cX1_foresee 69 = .ok (.invokevirtual 119, 3) := by decide +kernel
theorem dX1_foresee_72 : decode cX1_foresee 72 = .ok (.aload_n 0, 1) := by decide +kernel
theorem dX1_foresee_73 : decode cX1_foresee 73 = .ok (.getfield 10, 3) := by decide +kernel
theorem dX1_foresee_76 : decode cX1_foresee 76 = .ok (.iload_n 2, 1) := by decide +kernel
theorem dX1_foresee_77 : decode cX1_foresee 77 = .ok (.invokevirtual 119, 3) := by decide +kernel
theorem dX1_foresee_80 : decode cX1_foresee 80 = .ok (.isub, 1) := by decide +kernel
theorem dX1_foresee_81 : decode cX1_foresee 81 = .ok (.ireturn, 1) := by decide +kernel
theorem dX1_foresee_82 : decode cX1_foresee 82 = .ok (.aload_n 0, 1) := by decide +kernel
theorem dX1_foresee_83 : decode cX1_foresee 83 = .ok (.getfield 16, 3) := by decide +kernel
theorem dX1_foresee_86 : decode cX1_foresee 86 = .ok (.iload_n 2, 1) := by decide +kernel
theorem dX1_foresee_87 : decode cX1_foresee 87 = .ok (.invokevirtual 95, 3) := by decide +kernel
theorem dX1_foresee_90 : decode cX1_foresee 90 = .ok (.ireturn, 1) := by decide +kernel
theorem dX1_foresee_91 : decode cX1_foresee 91 = .ok (.aload_n 0, 1) := by decide +kernel
theorem dX1_foresee_92 : decode cX1_foresee 92 = .ok (.getfield 16, 3) := by decide +kernel
theorem dX1_foresee_95 : decode cX1_foresee 95 = .ok (.iload_n 2, 1) := by decide +kernel
theorem dX1_foresee_96 : decode cX1_foresee 96 = .ok (.invokevirtual 122, 3) := by decide +kernel
theorem dX1_foresee_99 : decode cX1_foresee 99 = .ok (.ireturn, 1) := by decide +kernel
set_option maxRecDepth 20000 in
theorem ggX1_advise_X1_requireTeam : GoodIn wsX1_advise wsX1_requireTeam := goodIn_ca (goodIn_r _ [7, 8, 9, 10, 133, 134, 135, 136, 137, 138, 139, 140, 141] (by decide +kernel) (by decide +kernel)) (goodIn_sub (fun _ h => List.mem_cons_of_mem _ (List.mem_append_left _ (List.mem_append_right _ h))) (by decide +kernel))
set_option maxRecDepth 20000 in
theorem gX1_advise_X1_requireTeam : GoodIn wsX1_advise (wsV RX1 63 RX1 yX1_requireTeam wsX1_requireTeam) := goodIn_app (goodIn_of _ (by decide +kernel)) ggX1_advise_X1_requireTeam
set_option maxRecDepth 20000 in
theorem ggX1_advise_X1_requireHours : GoodIn wsX1_advise wsX1_requireHours := goodIn_ca (goodIn_r _ [13, 14, 15] (by decide +kernel) (by decide +kernel)) (goodIn_sub (fun _ h => List.mem_cons_of_mem _ (List.mem_append_right _ h)) (by decide +kernel))
set_option maxRecDepth 20000 in
theorem gX1_advise_X1_requireHours : GoodIn wsX1_advise (va_wsS RX1 156 yX1_requireHours wsX1_requireHours) := goodIn_app (goodIn_of _ (by decide +kernel)) ggX1_advise_X1_requireHours
set_option maxRecDepth 20000 in
theorem ggX1_advise_X0_become : GoodIn wsX1_advise wsX0_become := goodIn_r _ [20, 21, 22, 23, 24, 25, 26, 27, 28, 29, 30, 31, 32, 33, 142, 143, 144, 145, 146, 147, 148, 149, 150] (by decide +kernel) (by decide +kernel)
set_option maxRecDepth 20000 in
theorem gX1_advise_X0_become : GoodIn wsX1_advise (wsV RX1 177 RX0 yX0_become wsX0_become) := goodIn_app (goodIn_of _ (by decide +kernel)) ggX1_advise_X0_become
set_option maxRecDepth 20000 in
theorem ggX1_advise_X0_clearSticks : GoodIn wsX1_advise wsX0_clearSticks := goodIn_r _ [37, 28, 29, 30, 38, 39, 40, 41, 142, 143, 144, 145, 146, 147, 148, 149, 150] (by decide +kernel) (by decide +kernel)
set_option maxRecDepth 20000 in
theorem gX1_advise_X0_clearSticks : GoodIn wsX1_advise (wsV RX1 187 RX0 yX0_clearSticks wsX0_clearSticks) := goodIn_app (goodIn_of _ (by decide +kernel)) ggX1_advise_X0_clearSticks
set_option maxRecDepth 20000 in
theorem ggX1_advise_X1_isInArea : GoodIn wsX1_advise wsX1_isInArea := goodIn_r _ [44] (by decide +kernel) (by decide +kernel)
set_option maxRecDepth 20000 in
theorem gX1_advise_X1_isInArea : GoodIn wsX1_advise (va_wsS RX1 190 yX1_isInArea wsX1_isInArea) := goodIn_app (goodIn_of _ (by decide +kernel)) ggX1_advise_X1_isInArea
set_option maxRecDepth 20000 in
theorem ggX1_advise_X0_isFree : GoodIn wsX1_advise wsX0_isFree := goodIn_r _ [48, 49, 50, 51, 19, 52, 28, 53, 54, 55, 56, 27, 142, 143, 144, 145, 146, 147, 148, 149, 150] (by decide +kernel) (by decide +kernel)
set_option maxRecDepth 20000 in
theorem gX1_advise_X0_isFree : GoodIn wsX1_advise (wsV RX1 100 RX0 yX0_isFree wsX0_isFree) := goodIn_app (goodIn_of _ (by decide +kernel)) ggX1_advise_X0_isFree
set_option maxRecDepth 20000 in
theorem ggX1_advise_X0_putStick : GoodIn wsX1_advise wsX0_putStick := goodIn_r _ [60, 28, 29, 61, 62, 63, 19, 64, 21, 142, 143, 144, 145, 146, 147, 148, 149, 150] (by decide +kernel) (by decide +kernel)
set_option maxRecDepth 20000 in
theorem gX1_advise_X0_putStick : GoodIn wsX1_advise (wsV RX1 106 RX0 yX0_putStick wsX0_putStick) := goodIn_app (goodIn_of _ (by decide +kernel)) ggX1_advise_X0_putStick
set_option maxRecDepth 20000 in
theorem ggX1_advise_X1_letHoursGoBy : GoodIn wsX1_advise wsX1_letHoursGoBy := goodIn_r _ [68, 69, 70, 71, 72, 73, 74, 75, 76, 77, 19, 78, 32, 79, 80, 81, 82, 27, 38, 39, 40, 41, 83, 84, 85, 86, 53, 54, 55, 56, 61, 62, 63, 64, 21, 87, 88, 89, 90, 91, 92, 93, 94, 95, 96, 97, 26, 98, 99, 100, 101, 102, 103, 104, 31, 105, 106, 107, 108, 109, 110, 111, 112, 113, 114, 115, 116, 117, 118, 119, 120, 121, 122, 123, 124, 125, 126, 127, 128, 28, 29, 33, 30, 133, 134, 135, 136, 137, 138, 139, 140, 141, 142, 143, 144, 145, 146, 147, 148, 149, 150] (by decide +kernel) (by decide +kernel)
set_option maxRecDepth 20000 in
theorem gX1_advise_X1_letHoursGoBy : GoodIn wsX1_advise (wsV RX1 159 RX1 yX1_letHoursGoBy wsX1_letHoursGoBy) := goodIn_app (goodIn_of _ (by decide +kernel)) ggX1_advise_X1_letHoursGoBy
set_option maxRecDepth 20000 in
theorem ggX1_advise_X0_pointsOf : GoodIn wsX1_advise wsX0_pointsOf := goodIn_r _ [132, 30, 142, 143, 144, 145, 146, 147, 148, 149, 150] (by decide +kernel) (by decide +kernel)
set_option maxRecDepth 20000 in
theorem gX1_advise_X0_pointsOf : GoodIn wsX1_advise (wsV RX1 119 RX0 yX0_pointsOf wsX0_pointsOf) := goodIn_app (goodIn_of _ (by decide +kernel)) ggX1_advise_X0_pointsOf
theorem dX1_advise_0 : decode cX1_advise 0 = .ok (.aload_n 0, 1) := by decide +kernel
theorem dX1_advise_1 : decode cX1_advise 1 = .ok (.iload_n 1, 1) := by decide +kernel
theorem dX1_advise_2 : decode cX1_advise 2 = .ok (.invokevirtual 63, 3) := by decide +kernel
theorem dX1_advise_5 : decode cX1_advise 5 = .ok (.iload_n 2, 1) := by decide +kernel
theorem dX1_advise_6 : decode cX1_advise 6 = .ok (.bipush 12, 2) := by decide +kernel
theorem dX1_advise_8 : decode cX1_advise 8 = .ok (.invokestatic 156, 3) := by decide +kernel
theorem dX1_advise_11 : decode cX1_advise 11 = .ok (.aload_n 0, 1) := by decide +kernel
theorem dX1_advise_12 : decode cX1_advise 12 = .ok (.getfield 16, 3) := by decide +kernel
theorem dX1_advise_15 : decode cX1_advise 15 = .ok (.aload_n 0, 1) := by decide +kernel
theorem dX1_advise_16 : decode cX1_advise 16 = .ok (.getfield 10, 3) := by decide +kernel
theorem dX1_advise_19 : decode cX1_advise 19 = .ok (.invokevirtual 177, 3) := by decide +kernel
theorem dX1_advise_22 : decode cX1_advise 22 = .ok (.aload_n 0, 1) := by decide +kernel
theorem dX1_advise_23 : decode cX1_advise 23 = .ok (.getfield 16, 3) := by decide +kernel
theorem dX1_advise_26 : decode cX1_advise 26 = .ok (.invokevirtual 187, 3) := by decide +kernel
theorem dX1_advise_29 : decode cX1_advise 29 = .ok (.iconst 0, 1) := by decide +kernel
theorem dX1_advise_30 : decode cX1_advise 30 = .ok (.istore_n 3, 1) := by decide +kernel
theorem dX1_advise_31 : decode cX1_advise 31 = .ok (.iload_n 3, 1) := by decide +kernel
theorem dX1_advise_32 : decode cX1_advise 32 = .ok (.bipush 120, 2) := by decide +kernel
theorem dX1_advise_34 : decode cX1_advise 34 = .ok (.if_icmp .ge 37, 3) := by decide +kernel
theorem dX1_advise_37 : decode cX1_advise 37 = .ok (.iload_n 1, 1) := by decide +kernel
theorem dX1_advise_38 : decode cX1_advise 38 = .ok (.iload_n 3, 1) := by decide +kernel
theorem dX1_advise_39 : decode cX1_advise 39 = .ok (.invokestatic 190, 3) := by decide +kernel
theorem dX1_advise_42 : decode cX1_advise 42 = .ok (.ifCond .eq 23, 3) := by decide +kernel
theorem dX1_advise_45 : decode cX1_advise 45 = .ok (.aload_n 0, 1) := by decide +kernel
theorem dX1_advise_46 : decode cX1_advise 46 = .ok (.getfield 10, 3) := by decide +kernel
theorem dX1_advise_49 : decode cX1_advise 49 = .ok (.iload_n 3, 1) := by decide +kernel
theorem dX1_advise_50 : decode cX1_advise 50 = .ok (.invokevirtual 100, 3) := by decide +kernel
theorem dX1_advise_53 : decode cX1_advise 53 = .ok (.ifCond .eq 12, 3) := by decide +kernel
theorem dX1_advise_56 : decode cX1_advise 56 = .ok (.aload_n 0, 1) := by decide +kernel
theorem dX1_advise_57 : decode cX1_advise 57 = .ok (.getfield 16, 3) := by decide +kernel
theorem dX1_advise_60 : decode cX1_advise 60 = .ok (.iload_n 3, 1) := by decide +kernel
theorem dX1_advise_61 : decode cX1_advise 61 = .ok (.iload_n 3, 1) := by decide +kernel
theorem dX1_advise_62 : decode cX1_advise 62 = .ok (.invokevirtual 106, 3) := by decide +kernel
theorem dX1_advise_65 : decode cX1_advise 65 = .ok (.iinc 3 1, 3) := by decide +kernel
theorem dX1_advise_68 : decode cX1_advise 68 = .ok (.goto (-37), 3) := by decide +kernel
theorem dX1_advise_71 : decode cX1_advise 71 = .ok (.aload_n 0, 1) := by decide +kernel
theorem dX1_advise_72 : decode cX1_advise 72 = .ok (.aload_n 0, 1) := by decide +kernel
theorem dX1_advise_73 : decode cX1_advise 73 = .ok (.getfield 16, 3) := by decide +kernel
theorem dX1_advise_76 : decode cX1_advise 76 = .ok (.iload_n 2, 1) := by decide +kernel
theorem dX1_advise_77 : decode cX1_advise 77 = .ok (.invokevirtual 159, 3) := by decide +kernel
theorem dX1_advise_80 : decode cX1_advise 80 = .ok (.iconst (-1), 1) := by decide +kernel
theorem dX1_advise_81 : decode cX1_advise 81 = .ok (.istore_n 3, 1) := by decide +kernel
theorem dX1_advise_82 : decode cX1_advise 82 = .ok (.iconst (-1), 1) := by decide +kernel
theorem dX1_advise_83 : decode cX1_advise 83 = .ok (.istore 4, 2) := by decide +kernel
theorem dX1_advise_85 : decode cX1_advise 85 = .ok (.iconst 0, 1) := by decide +kernel
theorem dX1_advise_86 : decode cX1_advise 86 = .ok (.istore 5, 2) := by decide +kernel
theorem dX1_advise_88 : decode cX1_advise 88 = .ok (.iload 5, 2) := by decide +kernel
theorem dX1_advise_90 : decode cX1_advise 90 = .ok (.bipush 120, 2) := by decide +kernel
theorem dX1_advise_92 : decode cX1_advise 92 = .ok (.if_icmp .ge 58, 3) := by decide +kernel
theorem dX1_advise_95 : decode cX1_advise 95 = .ok (.iload_n 1, 1) := by decide +kernel
theorem dX1_advise_96 : decode cX1_advise 96 = .ok (.iload 5, 2) := by decide +kernel
theorem dX1_advise_98 : decode cX1_advise 98 = .ok (.invokestatic 190, 3) := by decide +kernel
theorem dX1_advise_101 : decode cX1_advise 101 = .ok (.ifCond .eq 43, 3) := by decide +kernel
theorem dX1_advise_104 : decode cX1_advise 104 = .ok (.aload_n 0, 1) := by decide +kernel
theorem dX1_advise_105 : decode cX1_advise 105 = .ok (.getfield 10, 3) := by decide +kernel
theorem dX1_advise_108 : decode cX1_advise 108 = .ok (.iload 5, 2) := by decide +kernel
theorem dX1_advise_110 : decode cX1_advise 110 = .ok (.invokevirtual 100, 3) := by decide +kernel
theorem dX1_advise_113 : decode cX1_advise 113 = .ok (.ifCond .eq 31, 3) := by decide +kernel
theorem dX1_advise_116 : decode cX1_advise 116 = .ok (.aload_n 0, 1) := by decide +kernel
theorem dX1_advise_117 : decode cX1_advise 117 = .ok (.getfield 16, 3) := by decide +kernel
theorem dX1_advise_120 : decode cX1_advise 120 = .ok (.iload 5, 2) := by decide +kernel
theorem dX1_advise_122 : decode cX1_advise 122 = .ok (.invokevirtual 119, 3) := by decide +kernel
theorem dX1_advise_125 : decode cX1_advise 125 = .ok (.iload 4, 2) := by decide +kernel
theorem dX1_advise_127 : decode cX1_advise 127 = .ok (.if_icmp .le 17, 3) := by decide +kernel
theorem dX1_advise_130 : decode cX1_advise 130 = .ok (.iload 5, 2) := by decide +kernel
theorem dX1_advise_132 : decode cX1_advise 132 = .ok (.istore_n 3, 1) := by decide +kernel
theorem dX1_advise_133 : decode cX1_advise 133 = .ok (.aload_n 0, 1) := by decide +kernel
theorem dX1_advise_134 : decode cX1_advise 134 = .ok (.getfield 16, 3) := by decide +kernel
theorem dX1_advise_137 : decode cX1_advise 137 = .ok (.iload 5, 2) := by decide +kernel
theorem dX1_advise_139 : decode cX1_advise 139 = .ok (.invokevirtual 119, 3) := by decide +kernel
theorem dX1_advise_142 : decode cX1_advise 142 = .ok (.istore 4, 2) := by decide +kernel
theorem dX1_advise_144 : decode cX1_advise 144 = .ok (.iinc 5 1, 3) := by decide +kernel
theorem dX1_advise_147 : decode cX1_advise 147 = .ok (.goto (-59), 3) := by decide +kernel
theorem dX1_advise_150 : decode cX1_advise 150 = .ok (.iload_n 3, 1) := by decide +kernel
theorem dX1_advise_151 : decode cX1_advise 151 = .ok (.ireturn, 1) := by decide +kernel
set_option maxRecDepth 20000 in
theorem ggX1_mean_X0_allHeights : GoodIn wsX1_mean wsX0_allHeights := goodIn_r _ [7, 8, 9, 10, 6, 11, 12, 22, 23, 24, 25, 26, 27, 28, 29, 30] (by decide +kernel) (by decide +kernel)
set_option maxRecDepth 20000 in
theorem gX1_mean_X0_allHeights : GoodIn wsX1_mean (wsV RX1 194 RX0 yX0_allHeights wsX0_allHeights) := goodIn_app (goodIn_of _ (by decide +kernel)) ggX1_mean_X0_allHeights
theorem dX1_mean_0 : decode cX1_mean 0 = .ok (.aload_n 0, 1) := by decide +kernel
theorem dX1_mean_1 : decode cX1_mean 1 = .ok (.getfield 10, 3) := by decide +kernel
theorem dX1_mean_4 : decode cX1_mean 4 = .ok (.invokevirtual 194, 3) := by decide +kernel
theorem dX1_mean_7 : decode cX1_mean 7 = .ok (.i2d, 1) := by decide +kernel
theorem dX1_mean_8 : decode cX1_mean 8 = .ok (.ldc2_w 197, 3) := by decide +kernel
theorem dX1_mean_11 : decode cX1_mean 11 = .ok (.ddiv, 1) := by decide +kernel
theorem dX1_mean_12 : decode cX1_mean 12 = .ok (.dreturn, 1) := by decide +kernel
set_option maxRecDepth 20000 in
theorem ggX1_digest_X1_count : GoodIn wsX1_digest wsX1_count := goodIn_ca (goodIn_r _ [10, 11, 4, 5, 12, 13, 14, 9, 15, 16, 17, 18, 19, 20, 21, 22, 23, 24, 25, 26, 27, 28, 29, 30, 31, 32, 33, 34, 35, 36, 37, 38, 39, 40, 92, 93, 94, 95, 96, 97, 98, 99, 100, 101, 102, 103, 104, 105, 106, 107, 108, 109] (by decide +kernel) (by decide +kernel)) (goodIn_sub (fun _ h => List.mem_cons_of_mem _ (List.mem_append_right _ h)) (by decide +kernel))
set_option maxRecDepth 20000 in
theorem gX1_digest_X1_count : GoodIn wsX1_digest (wsV RX1 203 RX1 yX1_count wsX1_count) := goodIn_app (goodIn_of _ (by decide +kernel)) ggX1_digest_X1_count
set_option maxRecDepth 20000 in
theorem ggX1_digest_X1_team : GoodIn wsX1_digest wsX1_team := goodIn_ca (goodIn_r _ [44, 45, 46, 5, 47, 48, 49, 50, 9, 51, 16, 17, 4, 13, 14, 15, 52, 53, 54, 21, 55, 56, 57, 58, 59, 60, 40, 61, 62, 63, 64, 31, 65, 66, 67, 68, 69, 70, 71, 72, 73, 74, 75, 76, 77, 78, 79, 80, 81, 82, 83, 84, 85, 23, 92, 93, 94, 95, 96, 97, 98, 99, 100, 101, 102, 103, 104, 105, 106, 107, 108, 109] (by decide +kernel) (by decide +kernel)) (goodIn_sub (fun _ h => List.mem_cons_of_mem _ (List.mem_append_right _ h)) (by decide +kernel))
set_option maxRecDepth 20000 in
theorem gX1_digest_X1_team : GoodIn wsX1_digest (wsV RX1 206 RX1 yX1_team wsX1_team) := goodIn_app (goodIn_of _ (by decide +kernel)) ggX1_digest_X1_team
set_option maxRecDepth 20000 in
theorem ggX1_digest_X0_tellCell : GoodIn wsX1_digest wsX0_tellCell := goodIn_r _ [89, 31, 90, 23, 91, 78, 79, 80, 21, 81, 36, 37, 38, 39, 40, 101, 102, 103, 104, 105, 106, 107, 108, 109] (by decide +kernel) (by decide +kernel)
set_option maxRecDepth 20000 in
theorem gX1_digest_X0_tellCell : GoodIn wsX1_digest (wsV RX1 116 RX0 yX0_tellCell wsX0_tellCell) := goodIn_app (goodIn_of _ (by decide +kernel)) ggX1_digest_X0_tellCell
theorem dX1_digest_0 : decode cX1_digest 0 = .ok (.ldc2_w 199, 3) := by decide +kernel
theorem dX1_digest_3 : decode cX1_digest 3 = .ok (.lstore_n 1, 1) := by decide +kernel
theorem dX1_digest_4 : decode cX1_digest 4 = .ok (.iconst 0, 1) := by decide +kernel
theorem dX1_digest_5 : decode cX1_digest 5 = .ok (.istore_n 3, 1) := by decide +kernel
theorem dX1_digest_6 : decode cX1_digest 6 = .ok (.iload_n 3, 1) := by decide +kernel
theorem dX1_digest_7 : decode cX1_digest 7 = .ok (.bipush 9, 2) := by decide +kernel
theorem dX1_digest_9 : decode cX1_digest 9 = .ok (.if_icmp .ge 22, 3) := by decide +kernel
theorem dX1_digest_12 : decode cX1_digest 12 = .ok (.lload_n 1, 1) := by decide +kernel
theorem dX1_digest_13 : decode cX1_digest 13 = .ok (.ldc2_w 201, 3) := by decide +kernel
theorem dX1_digest_16 : decode cX1_digest 16 = .ok (.lmul, 1) := by decide +kernel
theorem dX1_digest_17 : decode cX1_digest 17 = .ok (.aload_n 0, 1) := by decide +kernel
theorem dX1_digest_18 : decode cX1_digest 18 = .ok (.iload_n 3, 1) := by decide +kernel
theorem dX1_digest_19 : decode cX1_digest 19 = .ok (.invokevirtual 203, 3) := by decide +kernel
theorem dX1_digest_22 : decode cX1_digest 22 = .ok (.i2l, 1) := by decide +kernel
theorem dX1_digest_23 : decode cX1_digest 23 = .ok (.ladd, 1) := by decide +kernel
theorem dX1_digest_24 : decode cX1_digest 24 = .ok (.lstore_n 1, 1) := by decide +kernel
theorem dX1_digest_25 : decode cX1_digest 25 = .ok (.iinc 3 1, 3) := by decide +kernel
theorem dX1_digest_28 : decode cX1_digest 28 = .ok (.goto (-22), 3) := by decide +kernel
theorem dX1_digest_31 : decode cX1_digest 31 = .ok (.iconst 0, 1) := by decide +kernel
theorem dX1_digest_32 : decode cX1_digest 32 = .ok (.istore_n 3, 1) := by decide +kernel
theorem dX1_digest_33 : decode cX1_digest 33 = .ok (.iload_n 3, 1) := by decide +kernel
theorem dX1_digest_34 : decode cX1_digest 34 = .ok (.bipush 12, 2) := by decide +kernel
theorem dX1_digest_36 : decode cX1_digest 36 = .ok (.if_icmp .ge 23, 3) := by decide +kernel
theorem dX1_digest_39 : decode cX1_digest 39 = .ok (.lload_n 1, 1) := by decide +kernel
theorem dX1_digest_40 : decode cX1_digest 40 = .ok (.ldc2_w 201, 3) := by decide +kernel
theorem dX1_digest_43 : decode cX1_digest 43 = .ok (.lmul, 1) := by decide +kernel
theorem dX1_digest_44 : decode cX1_digest 44 = .ok (.aload_n 0, 1) := by decide +kernel
theorem dX1_digest_45 : decode cX1_digest 45 = .ok (.getfield 28, 3) := by decide +kernel
theorem dX1_digest_48 : decode cX1_digest 48 = .ok (.iload_n 3, 1) := by decide +kernel
theorem dX1_digest_49 : decode cX1_digest 49 = .ok (.iaload, 1) := by decide +kernel
theorem dX1_digest_50 : decode cX1_digest 50 = .ok (.i2l, 1) := by decide +kernel
theorem dX1_digest_51 : decode cX1_digest 51 = .ok (.ladd, 1) := by decide +kernel
theorem dX1_digest_52 : decode cX1_digest 52 = .ok (.lstore_n 1, 1) := by decide +kernel
theorem dX1_digest_53 : decode cX1_digest 53 = .ok (.iinc 3 1, 3) := by decide +kernel
theorem dX1_digest_56 : decode cX1_digest 56 = .ok (.goto (-23), 3) := by decide +kernel
theorem dX1_digest_59 : decode cX1_digest 59 = .ok (.iconst 0, 1) := by decide +kernel
theorem dX1_digest_60 : decode cX1_digest 60 = .ok (.istore_n 3, 1) := by decide +kernel
theorem dX1_digest_61 : decode cX1_digest 61 = .ok (.iload_n 3, 1) := by decide +kernel
theorem dX1_digest_62 : decode cX1_digest 62 = .ok (.aload_n 0, 1) := by decide +kernel
theorem dX1_digest_63 : decode cX1_digest 63 = .ok (.getfield 43, 3) := by decide +kernel
theorem dX1_digest_66 : decode cX1_digest 66 = .ok (.if_icmp .ge 40, 3) := by decide +kernel
theorem dX1_digest_69 : decode cX1_digest 69 = .ok (.iconst 0, 1) := by decide +kernel
theorem dX1_digest_70 : decode cX1_digest 70 = .ok (.istore 4, 2) := by decide +kernel
theorem dX1_digest_72 : decode cX1_digest 72 = .ok (.iload 4, 2) := by decide +kernel
theorem dX1_digest_74 : decode cX1_digest 74 = .ok (.bipush 8, 2) := by decide +kernel
theorem dX1_digest_76 : decode cX1_digest 76 = .ok (.if_icmp .ge 24, 3) := by decide +kernel
theorem dX1_digest_79 : decode cX1_digest 79 = .ok (.lload_n 1, 1) := by decide +kernel
theorem dX1_digest_80 : decode cX1_digest 80 = .ok (.ldc2_w 201, 3) := by decide +kernel
theorem dX1_digest_83 : decode cX1_digest 83 = .ok (.lmul, 1) := by decide +kernel
theorem dX1_digest_84 : decode cX1_digest 84 = .ok (.aload_n 0, 1) := by decide +kernel
theorem dX1_digest_85 : decode cX1_digest 85 = .ok (.iload_n 3, 1) := by decide +kernel
theorem dX1_digest_86 : decode cX1_digest 86 = .ok (.iload 4, 2) := by decide +kernel
theorem dX1_digest_88 : decode cX1_digest 88 = .ok (.invokevirtual 206, 3) := by decide +kernel
theorem dX1_digest_91 : decode cX1_digest 91 = .ok (.i2l, 1) := by decide +kernel
theorem dX1_digest_92 : decode cX1_digest 92 = .ok (.ladd, 1) := by decide +kernel
theorem dX1_digest_93 : decode cX1_digest 93 = .ok (.lstore_n 1, 1) := by decide +kernel
theorem dX1_digest_94 : decode cX1_digest 94 = .ok (.iinc 4 1, 3) := by decide +kernel
theorem dX1_digest_97 : decode cX1_digest 97 = .ok (.goto (-25), 3) := by decide +kernel
theorem dX1_digest_100 : decode cX1_digest 100 = .ok (.iinc 3 1, 3) := by decide +kernel
theorem dX1_digest_103 : decode cX1_digest 103 = .ok (.goto (-42), 3) := by decide +kernel
theorem dX1_digest_106 : decode cX1_digest 106 = .ok (.iconst 0, 1) := by decide +kernel
theorem dX1_digest_107 : decode cX1_digest 107 = .ok (.istore_n 3, 1) := by decide +kernel
theorem dX1_digest_108 : decode cX1_digest 108 = .ok (.iload_n 3, 1) := by decide +kernel
theorem dX1_digest_109 : decode cX1_digest 109 = .ok (.bipush 120, 2) := by decide +kernel
theorem dX1_digest_111 : decode cX1_digest 111 = .ok (.if_icmp .ge 43, 3) := by decide +kernel
theorem dX1_digest_114 : decode cX1_digest 114 = .ok (.iconst 0, 1) := by decide +kernel
theorem dX1_digest_115 : decode cX1_digest 115 = .ok (.istore 4, 2) := by decide +kernel
theorem dX1_digest_117 : decode cX1_digest 117 = .ok (.iload 4, 2) := by decide +kernel
theorem dX1_digest_119 : decode cX1_digest 119 = .ok (.bipush 6, 2) := by decide +kernel
theorem dX1_digest_121 : decode cX1_digest 121 = .ok (.if_icmp .ge 27, 3) := by decide +kernel
theorem dX1_digest_124 : decode cX1_digest 124 = .ok (.lload_n 1, 1) := by decide +kernel
theorem dX1_digest_125 : decode cX1_digest 125 = .ok (.ldc2_w 201, 3) := by decide +kernel
theorem dX1_digest_128 : decode cX1_digest 128 = .ok (.lmul, 1) := by decide +kernel
theorem dX1_digest_129 : decode cX1_digest 129 = .ok (.aload_n 0, 1) := by decide +kernel
theorem dX1_digest_130 : decode cX1_digest 130 = .ok (.getfield 10, 3) := by decide +kernel
theorem dX1_digest_133 : decode cX1_digest 133 = .ok (.iload_n 3, 1) := by decide +kernel
theorem dX1_digest_134 : decode cX1_digest 134 = .ok (.iload 4, 2) := by decide +kernel
theorem dX1_digest_136 : decode cX1_digest 136 = .ok (.invokevirtual 116, 3) := by decide +kernel
theorem dX1_digest_139 : decode cX1_digest 139 = .ok (.i2l, 1) := by decide +kernel
theorem dX1_digest_140 : decode cX1_digest 140 = .ok (.ladd, 1) := by decide +kernel
theorem dX1_digest_141 : decode cX1_digest 141 = .ok (.lstore_n 1, 1) := by decide +kernel
theorem dX1_digest_142 : decode cX1_digest 142 = .ok (.iinc 4 1, 3) := by decide +kernel
theorem dX1_digest_145 : decode cX1_digest 145 = .ok (.goto (-28), 3) := by decide +kernel
theorem dX1_digest_148 : decode cX1_digest 148 = .ok (.iinc 3 1, 3) := by decide +kernel
theorem dX1_digest_151 : decode cX1_digest 151 = .ok (.goto (-43), 3) := by decide +kernel
theorem dX1_digest_154 : decode cX1_digest 154 = .ok (.lload_n 1, 1) := by decide +kernel
theorem dX1_digest_155 : decode cX1_digest 155 = .ok (.lreturn, 1) := by decide +kernel
set_option maxRecDepth 20000 in
theorem ggX1_beginRound_X0_begin : GoodIn wsX1_beginRound wsX0_begin := goodIn_r _ [8, 9, 10, 11, 12, 13, 14, 15, 16, 17, 18, 19, 20, 21, 7, 22, 23, 24, 25, 36, 37, 38, 39, 40, 41, 42, 43, 44] (by decide +kernel) (by decide +kernel)
set_option maxRecDepth 20000 in
theorem gX1_beginRound_X0_begin : GoodIn wsX1_beginRound (wsV RX1 209 RX0 yX0_begin wsX0_begin) := goodIn_app (goodIn_of _ (by decide +kernel)) ggX1_beginRound_X0_begin
set_option maxRecDepth 20000 in
theorem ggX1_beginRound_J7_fill_53178 : GoodIn wsX1_beginRound wsJ7_fill_53178 := goodIn_r _ [18] (by decide +kernel) (by decide +kernel)
set_option maxRecDepth 20000 in
theorem gX1_beginRound_J7_fill_53178 : GoodIn wsX1_beginRound (va_wsS RX1 163 yJ7_fill_53178 wsJ7_fill_53178) := goodIn_app (goodIn_of _ (by decide +kernel)) ggX1_beginRound_J7_fill_53178
theorem dX1_beginRound_0 : decode cX1_beginRound 0 = .ok (.aload_n 0, 1) := by decide +kernel
theorem dX1_beginRound_1 : decode cX1_beginRound 1 = .ok (.getfield 10, 3) := by decide +kernel
theorem dX1_beginRound_4 : decode cX1_beginRound 4 = .ok (.invokevirtual 209, 3) := by decide +kernel
theorem dX1_beginRound_7 : decode cX1_beginRound 7 = .ok (.aload_n 0, 1) := by decide +kernel
theorem dX1_beginRound_8 : decode cX1_beginRound 8 = .ok (.getfield 31, 3) := by decide +kernel
theorem dX1_beginRound_11 : decode cX1_beginRound 11 = .ok (.iconst 0, 1) := by decide +kernel
theorem dX1_beginRound_12 : decode cX1_beginRound 12 = .ok (.invokestatic 163, 3) := by decide +kernel
theorem dX1_beginRound_15 : decode cX1_beginRound 15 = .ok (.aload_n 0, 1) := by decide +kernel
theorem dX1_beginRound_16 : decode cX1_beginRound 16 = .ok (.getfield 34, 3) := by decide +kernel
theorem dX1_beginRound_19 : decode cX1_beginRound 19 = .ok (.bipush 20, 2) := by decide +kernel
theorem dX1_beginRound_21 : decode cX1_beginRound 21 = .ok (.invokestatic 163, 3) := by decide +kernel
theorem dX1_beginRound_24 : decode cX1_beginRound 24 = .ok (.return_, 1) := by decide +kernel
set_option maxRecDepth 20000 in
theorem ggX1_letHoursGoBy_J9_floorMod_7cf53 : GoodIn wsX1_letHoursGoBy wsJ9_floorMod_7cf53 := goodIn_r _ [6] (by decide +kernel) (by decide +kernel)
set_option maxRecDepth 20000 in
theorem gX1_letHoursGoBy_J9_floorMod_7cf53 : GoodIn wsX1_letHoursGoBy (va_wsS RX1 212 yJ9_floorMod_7cf53 wsJ9_floorMod_7cf53) := goodIn_app (goodIn_of _ (by decide +kernel)) ggX1_letHoursGoBy_J9_floorMod_7cf53
set_option maxRecDepth 20000 in
theorem ggX1_letHoursGoBy_X0_letHourGoBy : GoodIn wsX1_letHoursGoBy wsX0_letHourGoBy := goodIn_r _ [11, 12, 13, 14, 15, 10, 16, 17, 18, 19, 20, 21, 22, 23, 24, 25, 26, 27, 28, 29, 30, 31, 32, 33, 34, 35, 36, 37, 38, 39, 40, 41, 42, 43, 44, 45, 46, 47, 48, 49, 50, 51, 52, 53, 54, 55, 56, 57, 58, 59, 60, 61, 62, 63, 64, 65, 66, 67, 68, 69, 70, 71, 72, 73, 74, 75, 76, 77, 78, 79, 80, 81, 82, 92, 93, 94, 95, 96, 97, 98, 99, 100] (by decide +kernel) (by decide +kernel)
set_option maxRecDepth 20000 in
theorem gX1_letHoursGoBy_X0_letHourGoBy : GoodIn wsX1_letHoursGoBy (wsV RX1 215 RX0 yX0_letHourGoBy wsX0_letHourGoBy) := goodIn_app (goodIn_of _ (by decide +kernel)) ggX1_letHoursGoBy_X0_letHourGoBy
theorem dX1_letHoursGoBy_0 : decode cX1_letHoursGoBy 0 = .ok (.iconst 0, 1) := by decide +kernel
theorem dX1_letHoursGoBy_1 : decode cX1_letHoursGoBy 1 = .ok (.istore_n 3, 1) := by decide +kernel
theorem dX1_letHoursGoBy_2 : decode cX1_letHoursGoBy 2 = .ok (.iload_n 3, 1) := by decide +kernel
theorem dX1_letHoursGoBy_3 : decode cX1_letHoursGoBy 3 = .ok (.iload_n 2, 1) := by decide +kernel
theorem dX1_letHoursGoBy_4 : decode cX1_letHoursGoBy 4 = .ok (.if_icmp .ge 29, 3) := by decide +kernel
theorem dX1_letHoursGoBy_7 : decode cX1_letHoursGoBy 7 = .ok (.aload_n 1, 1) := by decide +kernel
theorem dX1_letHoursGoBy_8 : decode cX1_letHoursGoBy 8 = .ok (.aload_n 0, 1) := by decide +kernel
theorem dX1_letHoursGoBy_9 : decode cX1_letHoursGoBy 9 = .ok (.getfield 28, 3) := by decide +kernel
theorem dX1_letHoursGoBy_12 : decode cX1_letHoursGoBy 12 = .ok (.aload_n 0, 1) := by decide +kernel
theorem dX1_letHoursGoBy_13 : decode cX1_letHoursGoBy 13 = .ok (.getfield 131, 3) := by decide +kernel
theorem dX1_letHoursGoBy_16 : decode cX1_letHoursGoBy 16 = .ok (.iload_n 3, 1) := by decide +kernel
theorem dX1_letHoursGoBy_17 : decode cX1_letHoursGoBy 17 = .ok (.iadd, 1) := by decide +kernel
theorem dX1_letHoursGoBy_18 : decode cX1_letHoursGoBy 18 = .ok (.bipush 12, 2) := by decide +kernel
theorem dX1_letHoursGoBy_20 : decode cX1_letHoursGoBy 20 = .ok (.invokestatic 212, 3) := by decide +kernel
theorem dX1_letHoursGoBy_23 : decode cX1_letHoursGoBy 23 = .ok (.iaload, 1) := by decide +kernel
theorem dX1_letHoursGoBy_24 : decode cX1_letHoursGoBy 24 = .ok (.invokevirtual 215, 3) := by decide +kernel
theorem dX1_letHoursGoBy_27 : decode cX1_letHoursGoBy 27 = .ok (.iinc 3 1, 3) := by decide +kernel
theorem dX1_letHoursGoBy_30 : decode cX1_letHoursGoBy 30 = .ok (.goto (-28), 3) := by decide +kernel
theorem dX1_letHoursGoBy_33 : decode cX1_letHoursGoBy 33 = .ok (.return_, 1) := by decide +kernel
set_option maxRecDepth 20000 in
theorem ggX1_teamsWithFewerPoints_X0_pointsOf : GoodIn wsX1_teamsWithFewerPoints wsX0_pointsOf := goodIn_r _ [7, 8, 18, 19, 20, 21, 22, 23, 24, 25, 26] (by decide +kernel) (by decide +kernel)
set_option maxRecDepth 20000 in
theorem gX1_teamsWithFewerPoints_X0_pointsOf : GoodIn wsX1_teamsWithFewerPoints (wsV RX1 119 RX0 yX0_pointsOf wsX0_pointsOf) := goodIn_app (goodIn_of _ (by decide +kernel)) ggX1_teamsWithFewerPoints_X0_pointsOf
theorem dX1_teamsWithFewerPoints_0 : decode cX1_teamsWithFewerPoints 0 = .ok (.iconst 0, 1) := by decide +kernel
theorem dX1_teamsWithFewerPoints_1 : decode cX1_teamsWithFewerPoints 1 = .ok (.istore_n 2, 1) := by decide +kernel
theorem dX1_teamsWithFewerPoints_2 : decode cX1_teamsWithFewerPoints 2 = .ok (.iconst 0, 1) := by decide +kernel
theorem dX1_teamsWithFewerPoints_3 : decode cX1_teamsWithFewerPoints 3 = .ok (.istore_n 3, 1) := by decide +kernel
theorem dX1_teamsWithFewerPoints_4 : decode cX1_teamsWithFewerPoints 4 = .ok (.iload_n 3, 1) := by decide +kernel
theorem dX1_teamsWithFewerPoints_5 : decode cX1_teamsWithFewerPoints 5 = .ok (.aload_n 0, 1) := by decide +kernel
theorem dX1_teamsWithFewerPoints_6 : decode cX1_teamsWithFewerPoints 6 = .ok (.getfield 43, 3) := by decide +kernel
theorem dX1_teamsWithFewerPoints_9 : decode cX1_teamsWithFewerPoints 9 = .ok (.if_icmp .ge 31, 3) := by decide +kernel
theorem dX1_teamsWithFewerPoints_12 : decode cX1_teamsWithFewerPoints 12 = .ok (.aload_n 0, 1) := by decide +kernel
theorem dX1_teamsWithFewerPoints_13 : decode cX1_teamsWithFewerPoints 13 = .ok (.getfield 10, 3) := by decide +kernel
theorem dX1_teamsWithFewerPoints_16 : decode cX1_teamsWithFewerPoints 16 = .ok (.iload_n 3, 1) := by decide +kernel
theorem dX1_teamsWithFewerPoints_17 : decode cX1_teamsWithFewerPoints 17 = .ok (.invokevirtual 119, 3) := by decide +kernel
theorem dX1_teamsWithFewerPoints_20 : decode cX1_teamsWithFewerPoints 20 = .ok (.aload_n 0, 1) := by decide +kernel
theorem dX1_teamsWithFewerPoints_21 : decode cX1_teamsWithFewerPoints 21 = .ok (.getfield 10, 3) := by decide +kernel
theorem dX1_teamsWithFewerPoints_24 : decode cX1_teamsWithFewerPoints 24 = .ok (.iload_n 1, 1) := by decide +kernel
theorem dX1_teamsWithFewerPoints_25 : decode cX1_teamsWithFewerPoints 25 = .ok (.invokevirtual 119, 3) := by decide +kernel
theorem dX1_teamsWithFewerPoints_28 : decode cX1_teamsWithFewerPoints 28 = .ok (.if_icmp .ge 6, 3) := by decide +kernel
theorem dX1_teamsWithFewerPoints_31 : decode cX1_teamsWithFewerPoints 31 = .ok (.iinc 2 1, 3) := by decide +kernel
theorem dX1_teamsWithFewerPoints_34 : decode cX1_teamsWithFewerPoints 34 = .ok (.iinc 3 1, 3) := by decide +kernel
theorem dX1_teamsWithFewerPoints_37 : decode cX1_teamsWithFewerPoints 37 = .ok (.goto (-33), 3) := by decide +kernel
theorem dX1_teamsWithFewerPoints_40 : decode cX1_teamsWithFewerPoints 40 = .ok (.iload_n 2, 1) := by decide +kernel
theorem dX1_teamsWithFewerPoints_41 : decode cX1_teamsWithFewerPoints 41 = .ok (.ireturn, 1) := by decide +kernel
set_option maxRecDepth 20000 in
theorem ggX1_teamsAheadOf_X1_isAhead : GoodIn wsX1_teamsAheadOf wsX1_isAhead := goodIn_r _ [6, 7, 8, 9, 10, 11, 12, 13, 14, 15, 16, 17, 18, 19, 20, 21, 22, 23, 24, 25, 26, 27, 28, 29, 30, 31, 32] (by decide +kernel) (by decide +kernel)
set_option maxRecDepth 20000 in
theorem gX1_teamsAheadOf_X1_isAhead : GoodIn wsX1_teamsAheadOf (wsV RX1 218 RX1 yX1_isAhead wsX1_isAhead) := goodIn_app (goodIn_of _ (by decide +kernel)) ggX1_teamsAheadOf_X1_isAhead
theorem dX1_teamsAheadOf_0 : decode cX1_teamsAheadOf 0 = .ok (.iconst 0, 1) := by decide +kernel
theorem dX1_teamsAheadOf_1 : decode cX1_teamsAheadOf 1 = .ok (.istore_n 2, 1) := by decide +kernel
theorem dX1_teamsAheadOf_2 : decode cX1_teamsAheadOf 2 = .ok (.iconst 0, 1) := by decide +kernel
theorem dX1_teamsAheadOf_3 : decode cX1_teamsAheadOf 3 = .ok (.istore_n 3, 1) := by decide +kernel
theorem dX1_teamsAheadOf_4 : decode cX1_teamsAheadOf 4 = .ok (.iload_n 3, 1) := by decide +kernel
theorem dX1_teamsAheadOf_5 : decode cX1_teamsAheadOf 5 = .ok (.aload_n 0, 1) := by decide +kernel
theorem dX1_teamsAheadOf_6 : decode cX1_teamsAheadOf 6 = .ok (.getfield 43, 3) := by decide +kernel
theorem dX1_teamsAheadOf_9 : decode cX1_teamsAheadOf 9 = .ok (.if_icmp .ge 21, 3) := by decide +kernel
theorem dX1_teamsAheadOf_12 : decode cX1_teamsAheadOf 12 = .ok (.aload_n 0, 1) := by decide +kernel
theorem dX1_teamsAheadOf_13 : decode cX1_teamsAheadOf 13 = .ok (.iload_n 3, 1) := by decide +kernel
theorem dX1_teamsAheadOf_14 : decode cX1_teamsAheadOf 14 = .ok (.iload_n 1, 1) := by decide +kernel
theorem dX1_teamsAheadOf_15 : decode cX1_teamsAheadOf 15 = .ok (.invokevirtual 218, 3) := by decide +kernel
theorem dX1_teamsAheadOf_18 : decode cX1_teamsAheadOf 18 = .ok (.ifCond .eq 6, 3) := by decide +kernel
theorem dX1_teamsAheadOf_21 : decode cX1_teamsAheadOf 21 = .ok (.iinc 2 1, 3) := by decide +kernel
theorem dX1_teamsAheadOf_24 : decode cX1_teamsAheadOf 24 = .ok (.iinc 3 1, 3) := by decide +kernel
theorem dX1_teamsAheadOf_27 : decode cX1_teamsAheadOf 27 = .ok (.goto (-23), 3) := by decide +kernel
theorem dX1_teamsAheadOf_30 : decode cX1_teamsAheadOf 30 = .ok (.iload_n 2, 1) := by decide +kernel
theorem dX1_teamsAheadOf_31 : decode cX1_teamsAheadOf 31 = .ok (.ireturn, 1) := by decide +kernel
set_option maxRecDepth 20000 in
theorem ggX1_isAhead_X0_pointsOf : GoodIn wsX1_isAhead wsX0_pointsOf := goodIn_r _ [7, 8, 18, 19, 20, 21, 22, 23, 24, 25, 26] (by decide +kernel) (by decide +kernel)
set_option maxRecDepth 20000 in
theorem gX1_isAhead_X0_pointsOf : GoodIn wsX1_isAhead (wsV RX1 119 RX0 yX0_pointsOf wsX0_pointsOf) := goodIn_app (goodIn_of _ (by decide +kernel)) ggX1_isAhead_X0_pointsOf
theorem dX1_isAhead_0 : decode cX1_isAhead 0 = .ok (.aload_n 0, 1) := by decide +kernel
theorem dX1_isAhead_1 : decode cX1_isAhead 1 = .ok (.getfield 37, 3) := by decide +kernel
theorem dX1_isAhead_4 : decode cX1_isAhead 4 = .ok (.iload_n 1, 1) := by decide +kernel
theorem dX1_isAhead_5 : decode cX1_isAhead 5 = .ok (.iaload, 1) := by decide +kernel
theorem dX1_isAhead_6 : decode cX1_isAhead 6 = .ok (.aload_n 0, 1) := by decide +kernel
theorem dX1_isAhead_7 : decode cX1_isAhead 7 = .ok (.getfield 37, 3) := by decide +kernel
theorem dX1_isAhead_10 : decode cX1_isAhead 10 = .ok (.iload_n 2, 1) := by decide +kernel
theorem dX1_isAhead_11 : decode cX1_isAhead 11 = .ok (.iaload, 1) := by decide +kernel
theorem dX1_isAhead_12 : decode cX1_isAhead 12 = .ok (.if_icmp .eq 24, 3) := by decide +kernel
theorem dX1_isAhead_15 : decode cX1_isAhead 15 = .ok (.aload_n 0, 1) := by decide +kernel
theorem dX1_isAhead_16 : decode cX1_isAhead 16 = .ok (.getfield 37, 3) := by decide +kernel
theorem dX1_isAhead_19 : decode cX1_isAhead 19 = .ok (.iload_n 1, 1) := by decide +kernel
theorem dX1_isAhead_20 : decode cX1_isAhead 20 = .ok (.iaload, 1) := by decide +kernel
theorem dX1_isAhead_21 : decode cX1_isAhead 21 = .ok (.aload_n 0, 1) := by decide +kernel
theorem dX1_isAhead_22 : decode cX1_isAhead 22 = .ok (.getfield 37, 3) := by decide +kernel
theorem dX1_isAhead_25 : decode cX1_isAhead 25 = .ok (.iload_n 2, 1) := by decide +kernel
theorem dX1_isAhead_26 : decode cX1_isAhead 26 = .ok (.iaload, 1) := by decide +kernel
theorem dX1_isAhead_27 : decode cX1_isAhead 27 = .ok (.if_icmp .le 7, 3) := by decide +kernel
theorem dX1_isAhead_30 : decode cX1_isAhead 30 = .ok (.iconst 1, 1) := by decide +kernel
theorem dX1_isAhead_31 : decode cX1_isAhead 31 = .ok (.goto 4, 3) := by decide +kernel
theorem dX1_isAhead_34 : decode cX1_isAhead 34 = .ok (.iconst 0, 1) := by decide +kernel
theorem dX1_isAhead_35 : decode cX1_isAhead 35 = .ok (.ireturn, 1) := by decide +kernel
theorem dX1_isAhead_36 : decode cX1_isAhead 36 = .ok (.aload_n 0, 1) := by decide +kernel
theorem dX1_isAhead_37 : decode cX1_isAhead 37 = .ok (.getfield 10, 3) := by decide +kernel
theorem dX1_isAhead_40 : decode cX1_isAhead 40 = .ok (.iload_n 1, 1) := by decide +kernel
theorem dX1_isAhead_41 : decode cX1_isAhead 41 = .ok (.invokevirtual 119, 3) := by decide +kernel
theorem dX1_isAhead_44 : decode cX1_isAhead 44 = .ok (.aload_n 0, 1) := by decide +kernel
theorem dX1_isAhead_45 : decode cX1_isAhead 45 = .ok (.getfield 10, 3) := by decide +kernel
theorem dX1_isAhead_48 : decode cX1_isAhead 48 = .ok (.iload_n 2, 1) := by decide +kernel
theorem dX1_isAhead_49 : decode cX1_isAhead 49 = .ok (.invokevirtual 119, 3) := by decide +kernel
theorem dX1_isAhead_52 : decode cX1_isAhead 52 = .ok (.if_icmp .eq 28, 3) := by decide +kernel
theorem dX1_isAhead_55 : decode cX1_isAhead 55 = .ok (.aload_n 0, 1) := by decide +kernel
theorem dX1_isAhead_56 : decode cX1_isAhead 56 = .ok (.getfield 10, 3) := by decide +kernel
theorem dX1_isAhead_59 : decode cX1_isAhead 59 = .ok (.iload_n 1, 1) := by decide +kernel
theorem dX1_isAhead_60 : decode cX1_isAhead 60 = .ok (.invokevirtual 119, 3) := by decide +kernel
theorem dX1_isAhead_63 : decode cX1_isAhead 63 = .ok (.aload_n 0, 1) := by decide +kernel
theorem dX1_isAhead_64 : decode cX1_isAhead 64 = .ok (.getfield 10, 3) := by decide +kernel
theorem dX1_isAhead_67 : decode cX1_isAhead 67 = .ok (.iload_n 2, 1) := by decide +kernel
theorem dX1_isAhead_68 : decode cX1_isAhead 68 = .ok (.invokevirtual 119, 3) := by decide +kernel
theorem dX1_isAhead_71 : decode cX1_isAhead 71 = .ok (.if_icmp .le 7, 3) := by decide +kernel
theorem dX1_isAhead_74 : decode cX1_isAhead 74 = .ok (.iconst 1, 1) := by decide +kernel
theorem dX1_isAhead_75 : decode cX1_isAhead 75 = .ok (.goto 4, 3) := by decide +kernel
theorem dX1_isAhead_78 : decode cX1_isAhead 78 = .ok (.iconst 0, 1) := by decide +kernel
theorem dX1_isAhead_79 : decode cX1_isAhead 79 = .ok (.ireturn, 1) := by decide +kernel
theorem dX1_isAhead_80 : decode cX1_isAhead 80 = .ok (.iload_n 1, 1) := by decide +kernel
theorem dX1_isAhead_81 : decode cX1_isAhead 81 = .ok (.iload_n 2, 1) := by decide +kernel
theorem dX1_isAhead_82 : decode cX1_isAhead 82 = .ok (.if_icmp .ge 7, 3) := by decide +kernel
theorem dX1_isAhead_85 : decode cX1_isAhead 85 = .ok (.iconst 1, 1) := by decide +kernel
theorem dX1_isAhead_86 : decode cX1_isAhead 86 = .ok (.goto 4, 3) := by decide +kernel
theorem dX1_isAhead_89 : decode cX1_isAhead 89 = .ok (.iconst 0, 1) := by decide +kernel
theorem dX1_isAhead_90 : decode cX1_isAhead 90 = .ok (.ireturn, 1) := by decide +kernel
theorem dX1_isOnBeach_0 : decode cX1_isOnBeach 0 = .ok (.iload_n 0, 1) := by decide +kernel
theorem dX1_isOnBeach_1 : decode cX1_isOnBeach 1 = .ok (.ifCond .lt 23, 3) := by decide +kernel
theorem dX1_isOnBeach_4 : decode cX1_isOnBeach 4 = .ok (.iload_n 0, 1) := by decide +kernel
theorem dX1_isOnBeach_5 : decode cX1_isOnBeach 5 = .ok (.bipush 12, 2) := by decide +kernel
theorem dX1_isOnBeach_7 : decode cX1_isOnBeach 7 = .ok (.if_icmp .ge 17, 3) := by decide +kernel
theorem dX1_isOnBeach_10 : decode cX1_isOnBeach 10 = .ok (.iload_n 1, 1) := by decide +kernel
theorem dX1_isOnBeach_11 : decode cX1_isOnBeach 11 = .ok (.ifCond .lt 13, 3) := by decide +kernel
theorem dX1_isOnBeach_14 : decode cX1_isOnBeach 14 = .ok (.iload_n 1, 1) := by decide +kernel
theorem dX1_isOnBeach_15 : decode cX1_isOnBeach 15 = .ok (.bipush 10, 2) := by decide +kernel
theorem dX1_isOnBeach_17 : decode cX1_isOnBeach 17 = .ok (.if_icmp .ge 7, 3) := by decide +kernel
theorem dX1_isOnBeach_20 : decode cX1_isOnBeach 20 = .ok (.iconst 1, 1) := by decide +kernel
theorem dX1_isOnBeach_21 : decode cX1_isOnBeach 21 = .ok (.goto 4, 3) := by decide +kernel
theorem dX1_isOnBeach_24 : decode cX1_isOnBeach 24 = .ok (.iconst 0, 1) := by decide +kernel
theorem dX1_isOnBeach_25 : decode cX1_isOnBeach 25 = .ok (.ireturn, 1) := by decide +kernel
theorem dX1_cellAt_0 : decode cX1_cellAt 0 = .ok (.iload_n 0, 1) := by decide +kernel
theorem dX1_cellAt_1 : decode cX1_cellAt 1 = .ok (.bipush 12, 2) := by decide +kernel
theorem dX1_cellAt_3 : decode cX1_cellAt 3 = .ok (.iload_n 1, 1) := by decide +kernel
theorem dX1_cellAt_4 : decode cX1_cellAt 4 = .ok (.imul, 1) := by decide +kernel
theorem dX1_cellAt_5 : decode cX1_cellAt 5 = .ok (.iadd, 1) := by decide +kernel
theorem dX1_cellAt_6 : decode cX1_cellAt 6 = .ok (.ireturn, 1) := by decide +kernel
theorem dX1_isInArea_0 : decode cX1_isInArea 0 = .ok (.iload_n 1, 1) := by decide +kernel
theorem dX1_isInArea_1 : decode cX1_isInArea 1 = .ok (.bipush 12, 2) := by decide +kernel
theorem dX1_isInArea_3 : decode cX1_isInArea 3 = .ok (.irem, 1) := by decide +kernel
theorem dX1_isInArea_4 : decode cX1_isInArea 4 = .ok (.iconst 3, 1) := by decide +kernel
theorem dX1_isInArea_5 : decode cX1_isInArea 5 = .ok (.idiv, 1) := by decide +kernel
theorem dX1_isInArea_6 : decode cX1_isInArea 6 = .ok (.iload_n 0, 1) := by decide +kernel
theorem dX1_isInArea_7 : decode cX1_isInArea 7 = .ok (.if_icmp .ne 7, 3) := by decide +kernel
theorem dX1_isInArea_10 : decode cX1_isInArea 10 = .ok (.iconst 1, 1) := by decide +kernel
theorem dX1_isInArea_11 : decode cX1_isInArea 11 = .ok (.goto 4, 3) := by decide +kernel
theorem dX1_isInArea_14 : decode cX1_isInArea 14 = .ok (.iconst 0, 1) := by decide +kernel
theorem dX1_isInArea_15 : decode cX1_isInArea 15 = .ok (.ireturn, 1) := by decide +kernel
theorem dX1_requireTeam_0 : decode cX1_requireTeam 0 = .ok (.iload_n 1, 1) := by decide +kernel
theorem dX1_requireTeam_1 : decode cX1_requireTeam 1 = .ok (.ifCond .lt 11, 3) := by decide +kernel
theorem dX1_requireTeam_4 : decode cX1_requireTeam 4 = .ok (.iload_n 1, 1) := by decide +kernel
theorem dX1_requireTeam_5 : decode cX1_requireTeam 5 = .ok (.aload_n 0, 1) := by decide +kernel
theorem dX1_requireTeam_6 : decode cX1_requireTeam 6 = .ok (.getfield 43, 3) := by decide +kernel
theorem dX1_requireTeam_9 : decode cX1_requireTeam 9 = .ok (.if_icmp .lt 13, 3) := by decide +kernel
theorem dX1_requireTeam_12 : decode cX1_requireTeam 12 = .ok (.new 54, 3) := by decide +kernel
theorem dX1_requireTeam_15 : decode cX1_requireTeam 15 = .ok (.dup, 1) := by decide +kernel
theorem dX1_requireTeam_16 : decode cX1_requireTeam 16 = .ok (.ldc 221, 2) := by decide +kernel
theorem dX1_requireTeam_18 : decode cX1_requireTeam 18 = .ok (.invokespecial 58, 3) := by decide +kernel
theorem dX1_requireTeam_21 : decode cX1_requireTeam 21 = .ok (.athrow, 1) := by decide +kernel
theorem dX1_requireTeam_22 : decode cX1_requireTeam 22 = .ok (.return_, 1) := by decide +kernel
set_option maxRecDepth 20000 in
theorem ggX1_requireCell_X1_isOnBeach : GoodIn wsX1_requireCell wsX1_isOnBeach := goodIn_r _ [6] (by decide +kernel) (by decide +kernel)
set_option maxRecDepth 20000 in
theorem gX1_requireCell_X1_isOnBeach : GoodIn wsX1_requireCell (va_wsS RX1 223 yX1_isOnBeach wsX1_isOnBeach) := goodIn_app (goodIn_of _ (by decide +kernel)) ggX1_requireCell_X1_isOnBeach
theorem dX1_requireCell_0 : decode cX1_requireCell 0 = .ok (.iload_n 0, 1) := by decide +kernel
theorem dX1_requireCell_1 : decode cX1_requireCell 1 = .ok (.iload_n 1, 1) := by decide +kernel
theorem dX1_requireCell_2 : decode cX1_requireCell 2 = .ok (.invokestatic 223, 3) := by decide +kernel
theorem dX1_requireCell_5 : decode cX1_requireCell 5 = .ok (.ifCond .ne 13, 3) := by decide +kernel
theorem dX1_requireCell_8 : decode cX1_requireCell 8 = .ok (.new 54, 3) := by decide +kernel
theorem dX1_requireCell_11 : decode cX1_requireCell 11 = .ok (.dup, 1) := by decide +kernel
theorem dX1_requireCell_12 : decode cX1_requireCell 12 = .ok (.ldc 226, 2) := by decide +kernel
theorem dX1_requireCell_14 : decode cX1_requireCell 14 = .ok (.invokespecial 58, 3) := by decide +kernel
theorem dX1_requireCell_17 : decode cX1_requireCell 17 = .ok (.athrow, 1) := by decide +kernel
theorem dX1_requireCell_18 : decode cX1_requireCell 18 = .ok (.return_, 1) := by decide +kernel
theorem dX1_requireWhat_0 : decode cX1_requireWhat 0 = .ok (.iload_n 0, 1) := by decide +kernel
theorem dX1_requireWhat_1 : decode cX1_requireWhat 1 = .ok (.ifCond .lt 8, 3) := by decide +kernel
theorem dX1_requireWhat_4 : decode cX1_requireWhat 4 = .ok (.iload_n 0, 1) := by decide +kernel
theorem dX1_requireWhat_5 : decode cX1_requireWhat 5 = .ok (.iload_n 1, 1) := by decide +kernel
theorem dX1_requireWhat_6 : decode cX1_requireWhat 6 = .ok (.if_icmp .lt 13, 3) := by decide +kernel
theorem dX1_requireWhat_9 : decode cX1_requireWhat 9 = .ok (.new 54, 3) := by decide +kernel
theorem dX1_requireWhat_12 : decode cX1_requireWhat 12 = .ok (.dup, 1) := by decide +kernel
theorem dX1_requireWhat_13 : decode cX1_requireWhat 13 = .ok (.ldc 228, 2) := by decide +kernel
theorem dX1_requireWhat_15 : decode cX1_requireWhat 15 = .ok (.invokespecial 58, 3) := by decide +kernel
theorem dX1_requireWhat_18 : decode cX1_requireWhat 18 = .ok (.athrow, 1) := by decide +kernel
theorem dX1_requireWhat_19 : decode cX1_requireWhat 19 = .ok (.return_, 1) := by decide +kernel
set_option maxRecDepth 20000 in
theorem ggX1_requireArea_X1_isOnBeach : GoodIn wsX1_requireArea wsX1_isOnBeach := goodIn_r _ [6] (by decide +kernel) (by decide +kernel)
set_option maxRecDepth 20000 in
theorem gX1_requireArea_X1_isOnBeach : GoodIn wsX1_requireArea (va_wsS RX1 223 yX1_isOnBeach wsX1_isOnBeach) := goodIn_app (goodIn_of _ (by decide +kernel)) ggX1_requireArea_X1_isOnBeach
set_option maxRecDepth 20000 in
theorem ggX1_requireArea_X1_cellAt : GoodIn wsX1_requireArea wsX1_cellAt := goodIn_r _ [9] (by decide +kernel) (by decide +kernel)
set_option maxRecDepth 20000 in
theorem gX1_requireArea_X1_cellAt : GoodIn wsX1_requireArea (va_wsS RX1 76 yX1_cellAt wsX1_cellAt) := goodIn_app (goodIn_of _ (by decide +kernel)) ggX1_requireArea_X1_cellAt
set_option maxRecDepth 20000 in
theorem ggX1_requireArea_X1_isInArea : GoodIn wsX1_requireArea wsX1_isInArea := goodIn_r _ [12] (by decide +kernel) (by decide +kernel)
set_option maxRecDepth 20000 in
theorem gX1_requireArea_X1_isInArea : GoodIn wsX1_requireArea (va_wsS RX1 190 yX1_isInArea wsX1_isInArea) := goodIn_app (goodIn_of _ (by decide +kernel)) ggX1_requireArea_X1_isInArea
theorem dX1_requireArea_0 : decode cX1_requireArea 0 = .ok (.iload_n 1, 1) := by decide +kernel
theorem dX1_requireArea_1 : decode cX1_requireArea 1 = .ok (.iload_n 2, 1) := by decide +kernel
theorem dX1_requireArea_2 : decode cX1_requireArea 2 = .ok (.invokestatic 223, 3) := by decide +kernel
theorem dX1_requireArea_5 : decode cX1_requireArea 5 = .ok (.ifCond .eq 15, 3) := by decide +kernel
theorem dX1_requireArea_8 : decode cX1_requireArea 8 = .ok (.iload_n 0, 1) := by decide +kernel
theorem dX1_requireArea_9 : decode cX1_requireArea 9 = .ok (.iload_n 1, 1) := by decide +kernel
theorem dX1_requireArea_10 : decode cX1_requireArea 10 = .ok (.iload_n 2, 1) := by decide +kernel
theorem dX1_requireArea_11 : decode cX1_requireArea 11 = .ok (.invokestatic 76, 3) := by decide +kernel
theorem dX1_requireArea_14 : decode cX1_requireArea 14 = .ok (.invokestatic 190, 3) := by decide +kernel
theorem dX1_requireArea_17 : decode cX1_requireArea 17 = .ok (.ifCond .ne 13, 3) := by decide +kernel
theorem dX1_requireArea_20 : decode cX1_requireArea 20 = .ok (.new 230, 3) := by decide +kernel
theorem dX1_requireArea_23 : decode cX1_requireArea 23 = .ok (.dup, 1) := by decide +kernel
theorem dX1_requireArea_24 : decode cX1_requireArea 24 = .ok (.ldc 232, 2) := by decide +kernel
theorem dX1_requireArea_26 : decode cX1_requireArea 26 = .ok (.invokespecial 234, 3) := by decide +kernel
theorem dX1_requireArea_29 : decode cX1_requireArea 29 = .ok (.athrow, 1) := by decide +kernel
theorem dX1_requireArea_30 : decode cX1_requireArea 30 = .ok (.return_, 1) := by decide +kernel
theorem dX1_requireAmount_0 : decode cX1_requireAmount 0 = .ok (.iload_n 0, 1) := by decide +kernel
theorem dX1_requireAmount_1 : decode cX1_requireAmount 1 = .ok (.iconst 1, 1) := by decide +kernel
theorem dX1_requireAmount_2 : decode cX1_requireAmount 2 = .ok (.if_icmp .lt 8, 3) := by decide +kernel
theorem dX1_requireAmount_5 : decode cX1_requireAmount 5 = .ok (.iload_n 0, 1) := by decide +kernel
theorem dX1_requireAmount_6 : decode cX1_requireAmount 6 = .ok (.iconst 5, 1) := by decide +kernel
theorem dX1_requireAmount_7 : decode cX1_requireAmount 7 = .ok (.if_icmp .le 13, 3) := by decide +kernel
theorem dX1_requireAmount_10 : decode cX1_requireAmount 10 = .ok (.new 230, 3) := by decide +kernel
theorem dX1_requireAmount_13 : decode cX1_requireAmount 13 = .ok (.dup, 1) := by decide +kernel
theorem dX1_requireAmount_14 : decode cX1_requireAmount 14 = .ok (.ldc 235, 2) := by decide +kernel
theorem dX1_requireAmount_16 : decode cX1_requireAmount 16 = .ok (.invokespecial 234, 3) := by decide +kernel
theorem dX1_requireAmount_19 : decode cX1_requireAmount 19 = .ok (.athrow, 1) := by decide +kernel
theorem dX1_requireAmount_20 : decode cX1_requireAmount 20 = .ok (.return_, 1) := by decide +kernel
theorem dX1_requireLevel_0 : decode cX1_requireLevel 0 = .ok (.iload_n 0, 1) := by decide +kernel
theorem dX1_requireLevel_1 : decode cX1_requireLevel 1 = .ok (.ifCond .lt 9, 3) := by decide +kernel
theorem dX1_requireLevel_4 : decode cX1_requireLevel 4 = .ok (.iload_n 0, 1) := by decide +kernel
theorem dX1_requireLevel_5 : decode cX1_requireLevel 5 = .ok (.bipush 30, 2) := by decide +kernel
theorem dX1_requireLevel_7 : decode cX1_requireLevel 7 = .ok (.if_icmp .le 13, 3) := by decide +kernel
theorem dX1_requireLevel_10 : decode cX1_requireLevel 10 = .ok (.new 230, 3) := by decide +kernel
theorem dX1_requireLevel_13 : decode cX1_requireLevel 13 = .ok (.dup, 1) := by decide +kernel
theorem dX1_requireLevel_14 : decode cX1_requireLevel 14 = .ok (.ldc 237, 2) := by decide +kernel
theorem dX1_requireLevel_16 : decode cX1_requireLevel 16 = .ok (.invokespecial 234, 3) := by decide +kernel
theorem dX1_requireLevel_19 : decode cX1_requireLevel 19 = .ok (.athrow, 1) := by decide +kernel
theorem dX1_requireLevel_20 : decode cX1_requireLevel 20 = .ok (.return_, 1) := by decide +kernel
theorem dX1_requireHours_0 : decode cX1_requireHours 0 = .ok (.iload_n 0, 1) := by decide +kernel
theorem dX1_requireHours_1 : decode cX1_requireHours 1 = .ok (.iconst 1, 1) := by decide +kernel
theorem dX1_requireHours_2 : decode cX1_requireHours 2 = .ok (.if_icmp .lt 8, 3) := by decide +kernel
theorem dX1_requireHours_5 : decode cX1_requireHours 5 = .ok (.iload_n 0, 1) := by decide +kernel
theorem dX1_requireHours_6 : decode cX1_requireHours 6 = .ok (.iload_n 1, 1) := by decide +kernel
theorem dX1_requireHours_7 : decode cX1_requireHours 7 = .ok (.if_icmp .le 13, 3) := by decide +kernel
theorem dX1_requireHours_10 : decode cX1_requireHours 10 = .ok (.new 230, 3) := by decide +kernel
theorem dX1_requireHours_13 : decode cX1_requireHours 13 = .ok (.dup, 1) := by decide +kernel
theorem dX1_requireHours_14 : decode cX1_requireHours 14 = .ok (.ldc 239, 2) := by decide +kernel
theorem dX1_requireHours_16 : decode cX1_requireHours 16 = .ok (.invokespecial 234, 3) := by decide +kernel
theorem dX1_requireHours_19 : decode cX1_requireHours 19 = .ok (.athrow, 1) := by decide +kernel
theorem dX1_requireHours_20 : decode cX1_requireHours 20 = .ok (.return_, 1) := by decide +kernel
theorem dX1_requireStrength_0 : decode cX1_requireStrength 0 = .ok (.aload_n 0, 1) := by decide +kernel
theorem dX1_requireStrength_1 : decode cX1_requireStrength 1 = .ok (.getfield 34, 3) := by decide +kernel
theorem dX1_requireStrength_4 : decode cX1_requireStrength 4 = .ok (.iload_n 1, 1) := by decide +kernel
theorem dX1_requireStrength_5 : decode cX1_requireStrength 5 = .ok (.iaload, 1) := by decide +kernel
theorem dX1_requireStrength_6 : decode cX1_requireStrength 6 = .ok (.ifCond .gt 13, 3) := by decide +kernel
theorem dX1_requireStrength_9 : decode cX1_requireStrength 9 = .ok (.new 47, 3) := by decide +kernel
theorem dX1_requireStrength_12 : decode cX1_requireStrength 12 = .ok (.dup, 1) := by decide +kernel
theorem dX1_requireStrength_13 : decode cX1_requireStrength 13 = .ok (.ldc 241, 2) := by decide +kernel
theorem dX1_requireStrength_15 : decode cX1_requireStrength 15 = .ok (.invokespecial 51, 3) := by decide +kernel
theorem dX1_requireStrength_18 : decode cX1_requireStrength 18 = .ok (.athrow, 1) := by decide +kernel
theorem dX1_requireStrength_19 : decode cX1_requireStrength 19 = .ok (.return_, 1) := by decide +kernel
