theorem dX3_add_15 : decode cX3_add 15 = .ok (.aload_n 0, 1) := by decide +kernel
theorem dX3_add_16 : decode cX3_add 16 = .ok (.getfield 9, 3) := by decide +kernel
theorem dX3_add_19 : decode cX3_add 19 = .ok (.iload_n 2, 1) := by decide +kernel
theorem dX3_add_20 : decode cX3_add 20 = .ok (.iload_n 1, 1) := by decide +kernel
theorem dX3_add_21 : decode cX3_add 21 = .ok (.iastore, 1) := by decide +kernel
theorem dX3_add_22 : decode cX3_add 22 = .ok (.aload_n 0, 1) := by decide +kernel
theorem dX3_add_23 : decode cX3_add 23 = .ok (.getfield 15, 3) := by decide +kernel
theorem dX3_add_26 : decode cX3_add 26 = .ok (.iload_n 2, 1) := by decide +kernel
theorem dX3_add_27 : decode cX3_add 27 = .ok (.iconst 1, 1) := by decide +kernel
theorem dX3_add_28 : decode cX3_add 28 = .ok (.bastore, 1) := by decide +kernel
theorem dX3_add_29 : decode cX3_add 29 = .ok (.aload_n 0, 1) := by decide +kernel
theorem dX3_add_30 : decode cX3_add 30 = .ok (.iload_n 2, 1) := by decide +kernel
theorem dX3_add_31 : decode cX3_add 31 = .ok (.iconst 1, 1) := by decide +kernel
theorem dX3_add_32 : decode cX3_add 32 = .ok (.iadd, 1) := by decide +kernel
theorem dX3_add_33 : decode cX3_add 33 = .ok (.putfield 19, 3) := by decide +kernel
theorem dX3_add_36 : decode cX3_add 36 = .ok (.iload_n 2, 1) := by decide +kernel
theorem dX3_add_37 : decode cX3_add 37 = .ok (.ireturn, 1) := by decide +kernel
set_option maxRecDepth 20000 in
theorem ggX3_windowOf_X3_has : GoodIn wsX3_windowOf wsX3_has := goodIn_r _ [6, 7, 8, 9, 10] (by decide +kernel) (by decide +kernel)
set_option maxRecDepth 20000 in
theorem gX3_windowOf_X3_has : GoodIn wsX3_windowOf (wsV RX3 23 RX3 yX3_has wsX3_has) := goodIn_app (goodIn_of _ (by decide +kernel)) ggX3_windowOf_X3_has
theorem dX3_windowOf_0 : decode cX3_windowOf 0 = .ok (.aload_n 0, 1) := by decide +kernel
theorem dX3_windowOf_1 : decode cX3_windowOf 1 = .ok (.iload_n 1, 1) := by decide +kernel
theorem dX3_windowOf_2 : decode cX3_windowOf 2 = .ok (.invokevirtual 23, 3) := by decide +kernel
theorem dX3_windowOf_5 : decode cX3_windowOf 5 = .ok (.ifCond .eq 12, 3) := by decide +kernel
theorem dX3_windowOf_8 : decode cX3_windowOf 8 = .ok (.aload_n 0, 1) := by decide +kernel
theorem dX3_windowOf_9 : decode cX3_windowOf 9 = .ok (.getfield 9, 3) := by decide +kernel
theorem dX3_windowOf_12 : decode cX3_windowOf 12 = .ok (.iload_n 1, 1) := by decide +kernel
theorem dX3_windowOf_13 : decode cX3_windowOf 13 = .ok (.iaload, 1) := by decide +kernel
theorem dX3_windowOf_14 : decode cX3_windowOf 14 = .ok (.goto 4, 3) := by decide +kernel
theorem dX3_windowOf_17 : decode cX3_windowOf 17 = .ok (.iconst (-1), 1) := by decide +kernel
theorem dX3_windowOf_18 : decode cX3_windowOf 18 = .ok (.ireturn, 1) := by decide +kernel
set_option maxRecDepth 20000 in
theorem ggX3_isBurning_X3_has : GoodIn wsX3_isBurning wsX3_has := goodIn_r _ [6, 7, 8, 9, 10] (by decide +kernel) (by decide +kernel)
set_option maxRecDepth 20000 in
theorem gX3_isBurning_X3_has : GoodIn wsX3_isBurning (wsV RX3 23 RX3 yX3_has wsX3_has) := goodIn_app (goodIn_of _ (by decide +kernel)) ggX3_isBurning_X3_has
theorem dX3_isBurning_0 : decode cX3_isBurning 0 = .ok (.aload_n 0, 1) := by decide +kernel
theorem dX3_isBurning_1 : decode cX3_isBurning 1 = .ok (.iload_n 1, 1) := by decide +kernel
theorem dX3_isBurning_2 : decode cX3_isBurning 2 = .ok (.invokevirtual 23, 3) := by decide +kernel
theorem dX3_isBurning_5 : decode cX3_isBurning 5 = .ok (.ifCond .eq 16, 3) := by decide +kernel
theorem dX3_isBurning_8 : decode cX3_isBurning 8 = .ok (.aload_n 0, 1) := by decide +kernel
theorem dX3_isBurning_9 : decode cX3_isBurning 9 = .ok (.getfield 15, 3) := by decide +kernel
theorem dX3_isBurning_12 : decode cX3_isBurning 12 = .ok (.iload_n 1, 1) := by decide +kernel
theorem dX3_isBurning_13 : decode cX3_isBurning 13 = .ok (.baload, 1) := by decide +kernel
theorem dX3_isBurning_14 : decode cX3_isBurning 14 = .ok (.ifCond .eq 7, 3) := by decide +kernel
theorem dX3_isBurning_17 : decode cX3_isBurning 17 = .ok (.iconst 1, 1) := by decide +kernel
theorem dX3_isBurning_18 : decode cX3_isBurning 18 = .ok (.goto 4, 3) := by decide +kernel
theorem dX3_isBurning_21 : decode cX3_isBurning 21 = .ok (.iconst 0, 1) := by decide +kernel
theorem dX3_isBurning_22 : decode cX3_isBurning 22 = .ok (.ireturn, 1) := by decide +kernel
set_option maxRecDepth 20000 in
theorem ggX3_setBurning_X3_has : GoodIn wsX3_setBurning wsX3_has := goodIn_r _ [6, 7, 8, 9, 10] (by decide +kernel) (by decide +kernel)
set_option maxRecDepth 20000 in
theorem gX3_setBurning_X3_has : GoodIn wsX3_setBurning (wsV RX3 23 RX3 yX3_has wsX3_has) := goodIn_app (goodIn_of _ (by decide +kernel)) ggX3_setBurning_X3_has
theorem dX3_setBurning_0 : decode cX3_setBurning 0 = .ok (.aload_n 0, 1) := by decide +kernel
theorem dX3_setBurning_1 : decode cX3_setBurning 1 = .ok (.iload_n 1, 1) := by decide +kernel
theorem dX3_setBurning_2 : decode cX3_setBurning 2 = .ok (.invokevirtual 23, 3) := by decide +kernel
theorem dX3_setBurning_5 : decode cX3_setBurning 5 = .ok (.ifCond .eq 10, 3) := by decide +kernel
theorem dX3_setBurning_8 : decode cX3_setBurning 8 = .ok (.aload_n 0, 1) := by decide +kernel
theorem dX3_setBurning_9 : decode cX3_setBurning 9 = .ok (.getfield 15, 3) := by decide +kernel
theorem dX3_setBurning_12 : decode cX3_setBurning 12 = .ok (.iload_n 1, 1) := by decide +kernel
theorem dX3_setBurning_13 : decode cX3_setBurning 13 = .ok (.iload_n 2, 1) := by decide +kernel
theorem dX3_setBurning_14 : decode cX3_setBurning 14 = .ok (.bastore, 1) := by decide +kernel
theorem dX3_setBurning_15 : decode cX3_setBurning 15 = .ok (.return_, 1) := by decide +kernel
set_option maxRecDepth 20000 in
theorem ggX3_lampsBurning_X4_countTrue : GoodIn wsX3_lampsBurning wsX4_countTrue := goodIn_r _ [4] (by decide +kernel) (by decide +kernel)
set_option maxRecDepth 20000 in
theorem gX3_lampsBurning_X4_countTrue_n27 : GoodIn wsX3_lampsBurning (wsX4_countTrue) := ggX3_lampsBurning_X4_countTrue
theorem dX3_lampsBurning_0 : decode cX3_lampsBurning 0 = .ok (.aload_n 0, 1) := by decide +kernel
theorem dX3_lampsBurning_1 : decode cX3_lampsBurning 1 = .ok (.getfield 15, 3) := by decide +kernel
theorem dX3_lampsBurning_4 : decode cX3_lampsBurning 4 = .ok (.invokestatic 27, 3) := by decide +kernel
theorem dX3_lampsBurning_7 : decode cX3_lampsBurning 7 = .ok (.ireturn, 1) := by decide +kernel
theorem dX3_shineOn_0 : decode cX3_shineOn 0 = .ok (.iconst 0, 1) := by decide +kernel
theorem dX3_shineOn_1 : decode cX3_shineOn 1 = .ok (.istore_n 2, 1) := by decide +kernel
theorem dX3_shineOn_2 : decode cX3_shineOn 2 = .ok (.iload_n 2, 1) := by decide +kernel
theorem dX3_shineOn_3 : decode cX3_shineOn 3 = .ok (.bipush 6, 2) := by decide +kernel
theorem dX3_shineOn_5 : decode cX3_shineOn 5 = .ok (.if_icmp .ge 35, 3) := by decide +kernel
theorem dX3_shineOn_8 : decode cX3_shineOn 8 = .ok (.aload_n 0, 1) := by decide +kernel
theorem dX3_shineOn_9 : decode cX3_shineOn 9 = .ok (.getfield 15, 3) := by decide +kernel
theorem dX3_shineOn_12 : decode cX3_shineOn 12 = .ok (.iload_n 2, 1) := by decide +kernel
theorem dX3_shineOn_13 : decode cX3_shineOn 13 = .ok (.baload, 1) := by decide +kernel
theorem dX3_shineOn_14 : decode cX3_shineOn 14 = .ok (.ifCond .eq 20, 3) := by decide +kernel
theorem dX3_shineOn_17 : decode cX3_shineOn 17 = .ok (.aload_n 0, 1) := by decide +kernel
theorem dX3_shineOn_18 : decode cX3_shineOn 18 = .ok (.getfield 9, 3) := by decide +kernel
theorem dX3_shineOn_21 : decode cX3_shineOn 21 = .ok (.iload_n 2, 1) := by decide +kernel
theorem dX3_shineOn_22 : decode cX3_shineOn 22 = .ok (.iaload, 1) := by decide +kernel
theorem dX3_shineOn_23 : decode cX3_shineOn 23 = .ok (.iload_n 1, 1) := by decide +kernel
theorem dX3_shineOn_24 : decode cX3_shineOn 24 = .ok (.isub, 1) := by decide +kernel
theorem dX3_shineOn_25 : decode cX3_shineOn 25 = .ok (.invokestatic 31, 3) := by decide +kernel
theorem dX3_shineOn_28 : decode cX3_shineOn 28 = .ok (.iconst 1, 1) := by decide +kernel
theorem dX3_shineOn_29 : decode cX3_shineOn 29 = .ok (.if_icmp .gt 5, 3) := by decide +kernel
theorem dX3_shineOn_32 : decode cX3_shineOn 32 = .ok (.iconst 1, 1) := by decide +kernel
theorem dX3_shineOn_33 : decode cX3_shineOn 33 = .ok (.ireturn, 1) := by decide +kernel
theorem dX3_shineOn_34 : decode cX3_shineOn 34 = .ok (.iinc 2 1, 3) := by decide +kernel
theorem dX3_shineOn_37 : decode cX3_shineOn 37 = .ok (.goto (-35), 3) := by decide +kernel
theorem dX3_shineOn_40 : decode cX3_shineOn 40 = .ok (.iconst 0, 1) := by decide +kernel
theorem dX3_shineOn_41 : decode cX3_shineOn 41 = .ok (.ireturn, 1) := by decide +kernel
theorem dX3_copyFrom_0 : decode cX3_copyFrom 0 = .ok (.iconst 0, 1) := by decide +kernel
theorem dX3_copyFrom_1 : decode cX3_copyFrom 1 = .ok (.istore_n 2, 1) := by decide +kernel
theorem dX3_copyFrom_2 : decode cX3_copyFrom 2 = .ok (.iload_n 2, 1) := by decide +kernel
theorem dX3_copyFrom_3 : decode cX3_copyFrom 3 = .ok (.bipush 6, 2) := by decide +kernel
theorem dX3_copyFrom_5 : decode cX3_copyFrom 5 = .ok (.if_icmp .ge 33, 3) := by decide +kernel
theorem dX3_copyFrom_8 : decode cX3_copyFrom 8 = .ok (.aload_n 0, 1) := by decide +kernel
theorem dX3_copyFrom_9 : decode cX3_copyFrom 9 = .ok (.getfield 9, 3) := by decide +kernel
theorem dX3_copyFrom_12 : decode cX3_copyFrom 12 = .ok (.iload_n 2, 1) := by decide +kernel
theorem dX3_copyFrom_13 : decode cX3_copyFrom 13 = .ok (.aload_n 1, 1) := by decide +kernel
theorem dX3_copyFrom_14 : decode cX3_copyFrom 14 = .ok (.getfield 9, 3) := by decide +kernel
theorem dX3_copyFrom_17 : decode cX3_copyFrom 17 = .ok (.iload_n 2, 1) := by decide +kernel
theorem dX3_copyFrom_18 : decode cX3_copyFrom 18 = .ok (.iaload, 1) := by decide +kernel
theorem dX3_copyFrom_19 : decode cX3_copyFrom 19 = .ok (.iastore, 1) := by decide +kernel
theorem dX3_copyFrom_20 : decode cX3_copyFrom 20 = .ok (.aload_n 0, 1) := by decide +kernel
theorem dX3_copyFrom_21 : decode cX3_copyFrom 21 = .ok (.getfield 15, 3) := by decide +kernel
theorem dX3_copyFrom_24 : decode cX3_copyFrom 24 = .ok (.iload_n 2, 1) := by decide +kernel
theorem dX3_copyFrom_25 : decode cX3_copyFrom 25 = .ok (.aload_n 1, 1) := by decide +kernel
theorem dX3_copyFrom_26 : decode cX3_copyFrom 26 = .ok (.getfield 15, 3) := by decide +kernel
theorem dX3_copyFrom_29 : decode cX3_copyFrom 29 = .ok (.iload_n 2, 1) := by decide +kernel
theorem dX3_copyFrom_30 : decode cX3_copyFrom 30 = .ok (.baload, 1) := by decide +kernel
theorem dX3_copyFrom_31 : decode cX3_copyFrom 31 = .ok (.bastore, 1) := by decide +kernel
theorem dX3_copyFrom_32 : decode cX3_copyFrom 32 = .ok (.iinc 2 1, 3) := by decide +kernel
theorem dX3_copyFrom_35 : decode cX3_copyFrom 35 = .ok (.goto (-33), 3) := by decide +kernel
theorem dX3_copyFrom_38 : decode cX3_copyFrom 38 = .ok (.aload_n 0, 1) := by decide +kernel
theorem dX3_copyFrom_39 : decode cX3_copyFrom 39 = .ok (.aload_n 1, 1) := by decide +kernel
theorem dX3_copyFrom_40 : decode cX3_copyFrom 40 = .ok (.getfield 19, 3) := by decide +kernel
theorem dX3_copyFrom_43 : decode cX3_copyFrom 43 = .ok (.putfield 19, 3) := by decide +kernel
theorem dX3_copyFrom_46 : decode cX3_copyFrom 46 = .ok (.return_, 1) := by decide +kernel
set_option maxRecDepth 20000 in
theorem ggX4_init_X2_init : GoodIn wsX4_init wsX2_init := goodIn_r _ [10, 11, 2, 3, 12, 13, 14, 15, 16, 17, 18, 19, 20, 21, 22, 23, 24, 25, 26, 27, 28, 29, 30, 31, 32, 33, 34, 35, 36, 37, 38, 39, 40, 41, 42, 43, 44, 53, 45, 46, 47, 48, 49, 50, 54, 55, 56, 57, 58, 59, 60, 61, 62, 63] (by decide +kernel) (by decide +kernel)
set_option maxRecDepth 20000 in
theorem gX4_init_X2_init_n11 : GoodIn wsX4_init (wsX2_init) := ggX4_init_X2_init
theorem dX4_init_0 : decode cX4_init 0 = .ok (.aload_n 0, 1) := by decide +kernel
theorem dX4_init_1 : decode cX4_init 1 = .ok (.invokespecial 3, 3) := by decide +kernel
theorem dX4_init_4 : decode cX4_init 4 = .ok (.aload_n 0, 1) := by decide +kernel
theorem dX4_init_5 : decode cX4_init 5 = .ok (.new 9, 3) := by decide +kernel
theorem dX4_init_8 : decode cX4_init 8 = .ok (.dup, 1) := by decide +kernel
theorem dX4_init_9 : decode cX4_init 9 = .ok (.invokespecial 11, 3) := by decide +kernel
theorem dX4_init_12 : decode cX4_init 12 = .ok (.putfield 12, 3) := by decide +kernel
theorem dX4_init_15 : decode cX4_init 15 = .ok (.aload_n 0, 1) := by decide +kernel
theorem dX4_init_16 : decode cX4_init 16 = .ok (.new 9, 3) := by decide +kernel
theorem dX4_init_19 : decode cX4_init 19 = .ok (.dup, 1) := by decide +kernel
theorem dX4_init_20 : decode cX4_init 20 = .ok (.invokespecial 11, 3) := by decide +kernel
theorem dX4_init_23 : decode cX4_init 23 = .ok (.putfield 16, 3) := by decide +kernel
theorem dX4_init_26 : decode cX4_init 26 = .ok (.return_, 1) := by decide +kernel
set_option maxRecDepth 20000 in
theorem ggX4_swarm_X4_needIndex : GoodIn wsX4_swarm wsX4_needIndex := goodIn_ca (goodIn_r _ [5, 6, 7] (by decide +kernel) (by decide +kernel)) (goodIn_sub (fun _ h => List.mem_cons_of_mem _ (List.mem_append_left _ (List.mem_append_right _ h))) (by decide +kernel))
set_option maxRecDepth 20000 in
theorem gX4_swarm_X4_needIndex : GoodIn wsX4_swarm (va_wsS RX4 19 yX4_needIndex wsX4_needIndex) := goodIn_app (goodIn_of _ (by decide +kernel)) ggX4_swarm_X4_needIndex
set_option maxRecDepth 20000 in
theorem ggX4_swarm_X4_needArgument : GoodIn wsX4_swarm wsX4_needArgument := goodIn_ca (goodIn_r _ [10, 11, 12] (by decide +kernel) (by decide +kernel)) (goodIn_sub (fun _ h => List.mem_cons_of_mem _ (List.mem_append_right _ h)) (by decide +kernel))
set_option maxRecDepth 20000 in
theorem gX4_swarm_X4_needArgument : GoodIn wsX4_swarm (va_wsS RX4 23 yX4_needArgument wsX4_needArgument) := goodIn_app (goodIn_of _ (by decide +kernel)) ggX4_swarm_X4_needArgument
set_option maxRecDepth 20000 in
theorem ggX4_swarm_X1_at : GoodIn wsX4_swarm wsX1_at := goodIn_r _ [17, 18, 19, 20, 16, 21, 38] (by decide +kernel) (by decide +kernel)
set_option maxRecDepth 20000 in
theorem gX4_swarm_X1_at : GoodIn wsX4_swarm (wsV RX4 31 RX1 yX1_at wsX1_at) := goodIn_app (goodIn_of _ (by decide +kernel)) ggX4_swarm_X1_at
set_option maxRecDepth 20000 in
theorem ggX4_swarm_X1_put : GoodIn wsX4_swarm wsX1_put := goodIn_r _ [25, 18, 26, 27, 28, 29, 19, 20, 16, 21, 38] (by decide +kernel) (by decide +kernel)
set_option maxRecDepth 20000 in
theorem gX4_swarm_X1_put : GoodIn wsX4_swarm (wsV RX4 37 RX1 yX1_put wsX1_put) := goodIn_app (goodIn_of _ (by decide +kernel)) ggX4_swarm_X1_put
theorem dX4_swarm_0 : decode cX4_swarm 0 = .ok (.iload_n 1, 1) := by decide +kernel
theorem dX4_swarm_1 : decode cX4_swarm 1 = .ok (.bipush 9, 2) := by decide +kernel
theorem dX4_swarm_3 : decode cX4_swarm 3 = .ok (.invokestatic 19, 3) := by decide +kernel
theorem dX4_swarm_6 : decode cX4_swarm 6 = .ok (.iload_n 2, 1) := by decide +kernel
theorem dX4_swarm_7 : decode cX4_swarm 7 = .ok (.iconst 4, 1) := by decide +kernel
theorem dX4_swarm_8 : decode cX4_swarm 8 = .ok (.invokestatic 19, 3) := by decide +kernel
theorem dX4_swarm_11 : decode cX4_swarm 11 = .ok (.iload_n 3, 1) := by decide +kernel
theorem dX4_swarm_12 : decode cX4_swarm 12 = .ok (.iconst 0, 1) := by decide +kernel
theorem dX4_swarm_13 : decode cX4_swarm 13 = .ok (.bipush 40, 2) := by decide +kernel
theorem dX4_swarm_15 : decode cX4_swarm 15 = .ok (.invokestatic 23, 3) := by decide +kernel
theorem dX4_swarm_18 : decode cX4_swarm 18 = .ok (.aload_n 0, 1) := by decide +kernel
theorem dX4_swarm_19 : decode cX4_swarm 19 = .ok (.getfield 12, 3) := by decide +kernel
theorem dX4_swarm_22 : decode cX4_swarm 22 = .ok (.getfield 27, 3) := by decide +kernel
theorem dX4_swarm_25 : decode cX4_swarm 25 = .ok (.iload_n 1, 1) := by decide +kernel
theorem dX4_swarm_26 : decode cX4_swarm 26 = .ok (.iload_n 2, 1) := by decide +kernel
theorem dX4_swarm_27 : decode cX4_swarm 27 = .ok (.invokevirtual 31, 3) := by decide +kernel
theorem dX4_swarm_30 : decode cX4_swarm 30 = .ok (.istore 4, 2) := by decide +kernel
theorem dX4_swarm_32 : decode cX4_swarm 32 = .ok (.aload_n 0, 1) := by decide +kernel
theorem dX4_swarm_33 : decode cX4_swarm 33 = .ok (.getfield 12, 3) := by decide +kernel
theorem dX4_swarm_36 : decode cX4_swarm 36 = .ok (.getfield 27, 3) := by decide +kernel
theorem dX4_swarm_39 : decode cX4_swarm 39 = .ok (.iload_n 1, 1) := by decide +kernel
theorem dX4_swarm_40 : decode cX4_swarm 40 = .ok (.iload_n 2, 1) := by decide +kernel
theorem dX4_swarm_41 : decode cX4_swarm 41 = .ok (.iload_n 3, 1) := by decide +kernel
theorem dX4_swarm_42 : decode cX4_swarm 42 = .ok (.invokevirtual 37, 3) := by decide +kernel
theorem dX4_swarm_45 : decode cX4_swarm 45 = .ok (.iload 4, 2) := by decide +kernel
theorem dX4_swarm_47 : decode cX4_swarm 47 = .ok (.ireturn, 1) := by decide +kernel
set_option maxRecDepth 20000 in
theorem ggX4_cell_X4_needIndex : GoodIn wsX4_cell wsX4_needIndex := goodIn_ca (goodIn_r _ [5, 6, 7] (by decide +kernel) (by decide +kernel)) (goodIn_sub (fun _ h => List.mem_cons_of_mem _ (List.mem_append_right _ h)) (by decide +kernel))
set_option maxRecDepth 20000 in
theorem gX4_cell_X4_needIndex : GoodIn wsX4_cell (va_wsS RX4 19 yX4_needIndex wsX4_needIndex) := goodIn_app (goodIn_of _ (by decide +kernel)) ggX4_cell_X4_needIndex
set_option maxRecDepth 20000 in
theorem ggX4_cell_X1_at : GoodIn wsX4_cell wsX1_at := goodIn_r _ [12, 13, 14, 15, 11, 16, 25] (by decide +kernel) (by decide +kernel)
set_option maxRecDepth 20000 in
theorem gX4_cell_X1_at : GoodIn wsX4_cell (wsV RX4 31 RX1 yX1_at wsX1_at) := goodIn_app (goodIn_of _ (by decide +kernel)) ggX4_cell_X1_at
theorem dX4_cell_0 : decode cX4_cell 0 = .ok (.iload_n 1, 1) := by decide +kernel
theorem dX4_cell_1 : decode cX4_cell 1 = .ok (.bipush 9, 2) := by decide +kernel
theorem dX4_cell_3 : decode cX4_cell 3 = .ok (.invokestatic 19, 3) := by decide +kernel
theorem dX4_cell_6 : decode cX4_cell 6 = .ok (.iload_n 2, 1) := by decide +kernel
theorem dX4_cell_7 : decode cX4_cell 7 = .ok (.iconst 4, 1) := by decide +kernel
theorem dX4_cell_8 : decode cX4_cell 8 = .ok (.invokestatic 19, 3) := by decide +kernel
theorem dX4_cell_11 : decode cX4_cell 11 = .ok (.aload_n 0, 1) := by decide +kernel
theorem dX4_cell_12 : decode cX4_cell 12 = .ok (.getfield 12, 3) := by decide +kernel
theorem dX4_cell_15 : decode cX4_cell 15 = .ok (.getfield 27, 3) := by decide +kernel
theorem dX4_cell_18 : decode cX4_cell 18 = .ok (.iload_n 1, 1) := by decide +kernel
theorem dX4_cell_19 : decode cX4_cell 19 = .ok (.iload_n 2, 1) := by decide +kernel
theorem dX4_cell_20 : decode cX4_cell 20 = .ok (.invokevirtual 31, 3) := by decide +kernel
theorem dX4_cell_23 : decode cX4_cell 23 = .ok (.ireturn, 1) := by decide +kernel
set_option maxRecDepth 20000 in
theorem ggX4_open_X4_needArgument : GoodIn wsX4_open wsX4_needArgument := goodIn_ca (goodIn_r _ [7, 8, 9] (by decide +kernel) (by decide +kernel)) (goodIn_sub (fun _ h => List.mem_cons_of_mem _ (List.mem_append_right _ h)) (by decide +kernel))
set_option maxRecDepth 20000 in
theorem gX4_open_X4_needArgument : GoodIn wsX4_open (va_wsS RX4 23 yX4_needArgument wsX4_needArgument) := goodIn_app (goodIn_of _ (by decide +kernel)) ggX4_open_X4_needArgument
set_option maxRecDepth 20000 in
theorem ggX4_open_X3_isFull : GoodIn wsX4_open wsX3_isFull := goodIn_r _ [14, 15, 30, 31, 32] (by decide +kernel) (by decide +kernel)
set_option maxRecDepth 20000 in
theorem gX4_open_X3_isFull : GoodIn wsX4_open (wsV RX4 44 RX3 yX3_isFull wsX3_isFull) := goodIn_app (goodIn_of _ (by decide +kernel)) ggX4_open_X3_isFull
set_option maxRecDepth 20000 in
theorem ggX4_open_X3_add : GoodIn wsX4_open wsX3_add := goodIn_r _ [19, 15, 20, 21, 30, 31, 32] (by decide +kernel) (by decide +kernel)
set_option maxRecDepth 20000 in
theorem gX4_open_X3_add : GoodIn wsX4_open (wsV RX4 57 RX3 yX3_add wsX3_add) := goodIn_app (goodIn_of _ (by decide +kernel)) ggX4_open_X3_add
theorem dX4_open_0 : decode cX4_open 0 = .ok (.iload_n 1, 1) := by decide +kernel
theorem dX4_open_1 : decode cX4_open 1 = .ok (.iconst 0, 1) := by decide +kernel
theorem dX4_open_2 : decode cX4_open 2 = .ok (.bipush 9, 2) := by decide +kernel
theorem dX4_open_4 : decode cX4_open 4 = .ok (.invokestatic 23, 3) := by decide +kernel
theorem dX4_open_7 : decode cX4_open 7 = .ok (.aload_n 0, 1) := by decide +kernel
theorem dX4_open_8 : decode cX4_open 8 = .ok (.getfield 12, 3) := by decide +kernel
theorem dX4_open_11 : decode cX4_open 11 = .ok (.getfield 40, 3) := by decide +kernel
theorem dX4_open_14 : decode cX4_open 14 = .ok (.invokevirtual 44, 3) := by decide +kernel
theorem dX4_open_17 : decode cX4_open 17 = .ok (.ifCond .eq 13, 3) := by decide +kernel
theorem dX4_open_20 : decode cX4_open 20 = .ok (.new 50, 3) := by decide +kernel
theorem dX4_open_23 : decode cX4_open 23 = .ok (.dup, 1) := by decide +kernel
theorem dX4_open_24 : decode cX4_open 24 = .ok (.ldc 52, 2) := by decide +kernel
theorem dX4_open_26 : decode cX4_open 26 = .ok (.invokespecial 54, 3) := by decide +kernel
theorem dX4_open_29 : decode cX4_open 29 = .ok (.athrow, 1) := by decide +kernel
theorem dX4_open_30 : decode cX4_open 30 = .ok (.aload_n 0, 1) := by decide +kernel
theorem dX4_open_31 : decode cX4_open 31 = .ok (.getfield 12, 3) := by decide +kernel
theorem dX4_open_34 : decode cX4_open 34 = .ok (.getfield 40, 3) := by decide +kernel
theorem dX4_open_37 : decode cX4_open 37 = .ok (.iload_n 1, 1) := by decide +kernel
theorem dX4_open_38 : decode cX4_open 38 = .ok (.invokevirtual 57, 3) := by decide +kernel
theorem dX4_open_41 : decode cX4_open 41 = .ok (.ireturn, 1) := by decide +kernel
set_option maxRecDepth 20000 in
theorem ggX4_lamp_X4_needRoom : GoodIn wsX4_lamp wsX4_needRoom := goodIn_ca (goodIn_r _ [6, 7, 8, 1, 9, 10, 11, 12, 13, 14, 25, 26, 27, 28, 29, 30, 31, 32, 33, 34, 35] (by decide +kernel) (by decide +kernel)) (goodIn_sub (fun _ h => List.mem_cons_of_mem _ (List.mem_append_right _ h)) (by decide +kernel))
set_option maxRecDepth 20000 in
theorem gX4_lamp_X4_needRoom : GoodIn wsX4_lamp (wsV RX4 61 RX4 yX4_needRoom wsX4_needRoom) := goodIn_app (goodIn_of _ (by decide +kernel)) ggX4_lamp_X4_needRoom
set_option maxRecDepth 20000 in
theorem ggX4_lamp_X3_isBurning : GoodIn wsX4_lamp wsX3_isBurning := goodIn_r _ [18, 19, 20, 10, 11, 12, 13, 14, 33, 34, 35] (by decide +kernel) (by decide +kernel)
set_option maxRecDepth 20000 in
theorem gX4_lamp_X3_isBurning : GoodIn wsX4_lamp (wsV RX4 65 RX3 yX3_isBurning wsX3_isBurning) := goodIn_app (goodIn_of _ (by decide +kernel)) ggX4_lamp_X3_isBurning
set_option maxRecDepth 20000 in
theorem ggX4_lamp_X3_setBurning : GoodIn wsX4_lamp wsX3_setBurning := goodIn_r _ [24, 19, 20, 10, 11, 12, 13, 14, 33, 34, 35] (by decide +kernel) (by decide +kernel)
set_option maxRecDepth 20000 in
theorem gX4_lamp_X3_setBurning : GoodIn wsX4_lamp (wsV RX4 69 RX3 yX3_setBurning wsX3_setBurning) := goodIn_app (goodIn_of _ (by decide +kernel)) ggX4_lamp_X3_setBurning
theorem dX4_lamp_0 : decode cX4_lamp 0 = .ok (.aload_n 0, 1) := by decide +kernel
theorem dX4_lamp_1 : decode cX4_lamp 1 = .ok (.iload_n 1, 1) := by decide +kernel
theorem dX4_lamp_2 : decode cX4_lamp 2 = .ok (.invokevirtual 61, 3) := by decide +kernel
theorem dX4_lamp_5 : decode cX4_lamp 5 = .ok (.aload_n 0, 1) := by decide +kernel
theorem dX4_lamp_6 : decode cX4_lamp 6 = .ok (.getfield 12, 3) := by decide +kernel
theorem dX4_lamp_9 : decode cX4_lamp 9 = .ok (.getfield 40, 3) := by decide +kernel
theorem dX4_lamp_12 : decode cX4_lamp 12 = .ok (.iload_n 1, 1) := by decide +kernel
theorem dX4_lamp_13 : decode cX4_lamp 13 = .ok (.aload_n 0, 1) := by decide +kernel
theorem dX4_lamp_14 : decode cX4_lamp 14 = .ok (.getfield 12, 3) := by decide +kernel
theorem dX4_lamp_17 : decode cX4_lamp 17 = .ok (.getfield 40, 3) := by decide +kernel
theorem dX4_lamp_20 : decode cX4_lamp 20 = .ok (.iload_n 1, 1) := by decide +kernel
theorem dX4_lamp_21 : decode cX4_lamp 21 = .ok (.invokevirtual 65, 3) := by decide +kernel
theorem dX4_lamp_24 : decode cX4_lamp 24 = .ok (.ifCond .ne 7, 3) := by decide +kernel
theorem dX4_lamp_27 : decode cX4_lamp 27 = .ok (.iconst 1, 1) := by decide +kernel
theorem dX4_lamp_28 : decode cX4_lamp 28 = .ok (.goto 4, 3) := by decide +kernel
theorem dX4_lamp_31 : decode cX4_lamp 31 = .ok (.iconst 0, 1) := by decide +kernel
theorem dX4_lamp_32 : decode cX4_lamp 32 = .ok (.invokevirtual 69, 3) := by decide +kernel
theorem dX4_lamp_35 : decode cX4_lamp 35 = .ok (.aload_n 0, 1) := by decide +kernel
theorem dX4_lamp_36 : decode cX4_lamp 36 = .ok (.getfield 12, 3) := by decide +kernel
theorem dX4_lamp_39 : decode cX4_lamp 39 = .ok (.getfield 40, 3) := by decide +kernel
theorem dX4_lamp_42 : decode cX4_lamp 42 = .ok (.iload_n 1, 1) := by decide +kernel
theorem dX4_lamp_43 : decode cX4_lamp 43 = .ok (.invokevirtual 65, 3) := by decide +kernel
theorem dX4_lamp_46 : decode cX4_lamp 46 = .ok (.ireturn, 1) := by decide +kernel
set_option maxRecDepth 20000 in
theorem ggX4_room_X4_needRoom : GoodIn wsX4_room wsX4_needRoom := goodIn_ca (goodIn_r _ [6, 7, 8, 1, 9, 10, 11, 12, 13, 14, 53, 54, 55, 56, 57, 58, 59, 60, 61, 62, 63] (by decide +kernel) (by decide +kernel)) (goodIn_sub (fun _ h => List.mem_cons_of_mem _ (List.mem_append_right _ h)) (by decide +kernel))
set_option maxRecDepth 20000 in
theorem gX4_room_X4_needRoom : GoodIn wsX4_room (wsV RX4 61 RX4 yX4_needRoom wsX4_needRoom) := goodIn_app (goodIn_of _ (by decide +kernel)) ggX4_room_X4_needRoom
set_option maxRecDepth 20000 in
theorem ggX4_room_X4_needIndex : GoodIn wsX4_room wsX4_needIndex := goodIn_ca (goodIn_r _ [17, 7, 8] (by decide +kernel) (by decide +kernel)) (goodIn_sub (fun _ h => List.mem_cons_of_mem _ (List.mem_append_right _ h)) (by decide +kernel))
set_option maxRecDepth 20000 in
theorem gX4_room_X4_needIndex : GoodIn wsX4_room (va_wsS RX4 19 yX4_needIndex wsX4_needIndex) := goodIn_app (goodIn_of _ (by decide +kernel)) ggX4_room_X4_needIndex
set_option maxRecDepth 20000 in
theorem ggX4_room_X2_tellRoom : GoodIn wsX4_room wsX2_tellRoom := goodIn_r _ [22, 23, 24, 25, 26, 27, 12, 28, 29, 30, 10, 11, 13, 14, 31, 32, 33, 34, 35, 36, 37, 38, 39, 40, 41, 42, 43, 44, 45, 46, 47, 48, 49, 50, 51, 52, 55, 56, 57, 58, 59, 60, 61, 62, 63, 64, 65, 66, 67, 68, 69, 70] (by decide +kernel) (by decide +kernel)
set_option maxRecDepth 20000 in
theorem gX4_room_X2_tellRoom : GoodIn wsX4_room (wsV RX4 73 RX2 yX2_tellRoom wsX2_tellRoom) := goodIn_app (goodIn_of _ (by decide +kernel)) ggX4_room_X2_tellRoom
theorem dX4_room_0 : decode cX4_room 0 = .ok (.aload_n 0, 1) := by decide +kernel
theorem dX4_room_1 : decode cX4_room 1 = .ok (.iload_n 1, 1) := by decide +kernel
theorem dX4_room_2 : decode cX4_room 2 = .ok (.invokevirtual 61, 3) := by decide +kernel
theorem dX4_room_5 : decode cX4_room 5 = .ok (.iload_n 2, 1) := by decide +kernel
theorem dX4_room_6 : decode cX4_room 6 = .ok (.iconst 4, 1) := by decide +kernel
theorem dX4_room_7 : decode cX4_room 7 = .ok (.invokestatic 19, 3) := by decide +kernel
theorem dX4_room_10 : decode cX4_room 10 = .ok (.aload_n 0, 1) := by decide +kernel
theorem dX4_room_11 : decode cX4_room 11 = .ok (.getfield 12, 3) := by decide +kernel
theorem dX4_room_14 : decode cX4_room 14 = .ok (.iload_n 1, 1) := by decide +kernel
theorem dX4_room_15 : decode cX4_room 15 = .ok (.iload_n 2, 1) := by decide +kernel
theorem dX4_room_16 : decode cX4_room 16 = .ok (.invokevirtual 73, 3) := by decide +kernel
theorem dX4_room_19 : decode cX4_room 19 = .ok (.ireturn, 1) := by decide +kernel
set_option maxRecDepth 20000 in
theorem ggX4_isLit_X4_needIndex : GoodIn wsX4_isLit wsX4_needIndex := goodIn_ca (goodIn_r _ [5, 6, 7] (by decide +kernel) (by decide +kernel)) (goodIn_sub (fun _ h => List.mem_cons_of_mem _ (List.mem_append_right _ h)) (by decide +kernel))
set_option maxRecDepth 20000 in
theorem gX4_isLit_X4_needIndex : GoodIn wsX4_isLit (va_wsS RX4 19 yX4_needIndex wsX4_needIndex) := goodIn_app (goodIn_of _ (by decide +kernel)) ggX4_isLit_X4_needIndex
set_option maxRecDepth 20000 in
theorem ggX4_isLit_X3_shineOn : GoodIn wsX4_isLit wsX3_shineOn := goodIn_r _ [12, 13, 14, 15, 16, 17, 18, 27, 28, 29] (by decide +kernel) (by decide +kernel)
set_option maxRecDepth 20000 in
theorem gX4_isLit_X3_shineOn : GoodIn wsX4_isLit (wsV RX4 76 RX3 yX3_shineOn wsX3_shineOn) := goodIn_app (goodIn_of _ (by decide +kernel)) ggX4_isLit_X3_shineOn
theorem dX4_isLit_0 : decode cX4_isLit 0 = .ok (.iload_n 1, 1) := by decide +kernel
theorem dX4_isLit_1 : decode cX4_isLit 1 = .ok (.bipush 9, 2) := by decide +kernel
theorem dX4_isLit_3 : decode cX4_isLit 3 = .ok (.invokestatic 19, 3) := by decide +kernel
theorem dX4_isLit_6 : decode cX4_isLit 6 = .ok (.aload_n 0, 1) := by decide +kernel
theorem dX4_isLit_7 : decode cX4_isLit 7 = .ok (.getfield 12, 3) := by decide +kernel
theorem dX4_isLit_10 : decode cX4_isLit 10 = .ok (.getfield 40, 3) := by decide +kernel
theorem dX4_isLit_13 : decode cX4_isLit 13 = .ok (.iload_n 1, 1) := by decide +kernel
theorem dX4_isLit_14 : decode cX4_isLit 14 = .ok (.invokevirtual 76, 3) := by decide +kernel
theorem dX4_isLit_17 : decode cX4_isLit 17 = .ok (.ireturn, 1) := by decide +kernel
set_option maxRecDepth 20000 in
theorem ggX4_stay_X4_needRoom : GoodIn wsX4_stay wsX4_needRoom := goodIn_ca (goodIn_r _ [8, 9, 10, 3, 11, 12, 13, 14, 15, 16, 36, 37, 38, 39, 40, 41, 42, 43, 44, 45, 46] (by decide +kernel) (by decide +kernel)) (goodIn_sub (fun _ h => List.mem_cons_of_mem _ (List.mem_append_left _ (List.mem_append_right _ h))) (by decide +kernel))
set_option maxRecDepth 20000 in
theorem gX4_stay_X4_needRoom : GoodIn wsX4_stay (wsV RX4 61 RX4 yX4_needRoom wsX4_needRoom) := goodIn_app (goodIn_of _ (by decide +kernel)) ggX4_stay_X4_needRoom
set_option maxRecDepth 20000 in
theorem ggX4_stay_X4_needArgument : GoodIn wsX4_stay wsX4_needArgument := goodIn_ca (goodIn_r _ [19, 20, 21] (by decide +kernel) (by decide +kernel)) (goodIn_sub (fun _ h => List.mem_cons_of_mem _ (List.mem_append_right _ h)) (by decide +kernel))
set_option maxRecDepth 20000 in
theorem gX4_stay_X4_needArgument : GoodIn wsX4_stay (va_wsS RX4 23 yX4_needArgument wsX4_needArgument) := goodIn_app (goodIn_of _ (by decide +kernel)) ggX4_stay_X4_needArgument
set_option maxRecDepth 20000 in
theorem ggX4_stay_X0_isFull : GoodIn wsX4_stay wsX0_isFull := goodIn_r _ [26, 27, 47, 48, 49, 50, 51, 52, 53] (by decide +kernel) (by decide +kernel)
set_option maxRecDepth 20000 in
theorem gX4_stay_X0_isFull : GoodIn wsX4_stay (wsV RX4 83 RX0 yX0_isFull wsX0_isFull) := goodIn_app (goodIn_of _ (by decide +kernel)) ggX4_stay_X0_isFull
set_option maxRecDepth 20000 in
theorem ggX4_stay_X0_add : GoodIn wsX4_stay wsX0_add := goodIn_r _ [31, 27, 32, 33, 34, 35, 47, 48, 49, 50, 51, 52, 53] (by decide +kernel) (by decide +kernel)
set_option maxRecDepth 20000 in
theorem gX4_stay_X0_add : GoodIn wsX4_stay (wsV RX4 88 RX0 yX0_add wsX0_add) := goodIn_app (goodIn_of _ (by decide +kernel)) ggX4_stay_X0_add
theorem dX4_stay_0 : decode cX4_stay 0 = .ok (.aload_n 0, 1) := by decide +kernel
theorem dX4_stay_1 : decode cX4_stay 1 = .ok (.iload_n 1, 1) := by decide +kernel
theorem dX4_stay_2 : decode cX4_stay 2 = .ok (.invokevirtual 61, 3) := by decide +kernel
theorem dX4_stay_5 : decode cX4_stay 5 = .ok (.iload_n 2, 1) := by decide +kernel
theorem dX4_stay_6 : decode cX4_stay 6 = .ok (.iconst 0, 1) := by decide +kernel
theorem dX4_stay_7 : decode cX4_stay 7 = .ok (.bipush 9, 2) := by decide +kernel
theorem dX4_stay_9 : decode cX4_stay 9 = .ok (.invokestatic 23, 3) := by decide +kernel
theorem dX4_stay_12 : decode cX4_stay 12 = .ok (.aload_n 0, 1) := by decide +kernel
theorem dX4_stay_13 : decode cX4_stay 13 = .ok (.getfield 12, 3) := by decide +kernel
theorem dX4_stay_16 : decode cX4_stay 16 = .ok (.getfield 79, 3) := by decide +kernel
theorem dX4_stay_19 : decode cX4_stay 19 = .ok (.invokevirtual 83, 3) := by decide +kernel
theorem dX4_stay_22 : decode cX4_stay 22 = .ok (.ifCond .eq 13, 3) := by decide +kernel
theorem dX4_stay_25 : decode cX4_stay 25 = .ok (.new 50, 3) := by decide +kernel
theorem dX4_stay_28 : decode cX4_stay 28 = .ok (.dup, 1) := by decide +kernel
theorem dX4_stay_29 : decode cX4_stay 29 = .ok (.ldc 86, 2) := by decide +kernel
theorem dX4_stay_31 : decode cX4_stay 31 = .ok (.invokespecial 54, 3) := by decide +kernel
theorem dX4_stay_34 : decode cX4_stay 34 = .ok (.athrow, 1) := by decide +kernel
theorem dX4_stay_35 : decode cX4_stay 35 = .ok (.aload_n 0, 1) := by decide +kernel
theorem dX4_stay_36 : decode cX4_stay 36 = .ok (.getfield 12, 3) := by decide +kernel
theorem dX4_stay_39 : decode cX4_stay 39 = .ok (.getfield 79, 3) := by decide +kernel
theorem dX4_stay_42 : decode cX4_stay 42 = .ok (.iload_n 1, 1) := by decide +kernel
theorem dX4_stay_43 : decode cX4_stay 43 = .ok (.iload_n 2, 1) := by decide +kernel
theorem dX4_stay_44 : decode cX4_stay 44 = .ok (.iload_n 3, 1) := by decide +kernel
theorem dX4_stay_45 : decode cX4_stay 45 = .ok (.invokevirtual 88, 3) := by decide +kernel
theorem dX4_stay_48 : decode cX4_stay 48 = .ok (.ireturn, 1) := by decide +kernel
set_option maxRecDepth 20000 in
theorem ggX4_move_X4_needGuest : GoodIn wsX4_move wsX4_needGuest := goodIn_ca (goodIn_r _ [6, 7, 8, 1, 9, 10, 11, 12, 13, 14, 46, 47, 48, 49, 50, 51, 52, 53, 54, 55, 56, 57, 58, 59, 60] (by decide +kernel) (by decide +kernel)) (goodIn_sub (fun _ h => List.mem_cons_of_mem _ (List.mem_append_left _ (List.mem_append_right _ h))) (by decide +kernel))
set_option maxRecDepth 20000 in
theorem gX4_move_X4_needGuest : GoodIn wsX4_move (wsV RX4 91 RX4 yX4_needGuest wsX4_needGuest) := goodIn_app (goodIn_of _ (by decide +kernel)) ggX4_move_X4_needGuest
set_option maxRecDepth 20000 in
theorem ggX4_move_X4_needRoom : GoodIn wsX4_move wsX4_needRoom := goodIn_ca (goodIn_r _ [18, 7, 8, 1, 19, 20, 21, 22, 23, 24, 46, 47, 48, 49, 50, 51, 52, 53, 61, 62, 63] (by decide +kernel) (by decide +kernel)) (goodIn_sub (fun _ h => List.mem_cons_of_mem _ (List.mem_append_left _ (List.mem_append_right _ h))) (by decide +kernel))
set_option maxRecDepth 20000 in
theorem gX4_move_X4_needRoom : GoodIn wsX4_move (wsV RX4 61 RX4 yX4_needRoom wsX4_needRoom) := goodIn_app (goodIn_of _ (by decide +kernel)) ggX4_move_X4_needRoom
set_option maxRecDepth 20000 in
theorem ggX4_move_X4_needStaying : GoodIn wsX4_move wsX4_needStaying := goodIn_ca (goodIn_r _ [28, 29, 30, 1, 31, 32, 33, 12, 34, 35, 36, 10, 11, 13, 14, 46, 47, 48, 49, 50, 51, 52, 53, 54, 55, 56, 57, 58, 59, 60] (by decide +kernel) (by decide +kernel)) (goodIn_sub (fun _ h => List.mem_cons_of_mem _ (List.mem_append_right _ h)) (by decide +kernel))
set_option maxRecDepth 20000 in
theorem gX4_move_X4_needStaying : GoodIn wsX4_move (wsV RX4 94 RX4 yX4_needStaying wsX4_needStaying) := goodIn_app (goodIn_of _ (by decide +kernel)) ggX4_move_X4_needStaying
set_option maxRecDepth 20000 in
theorem ggX4_move_X0_roomOf : GoodIn wsX4_move wsX0_roomOf := goodIn_r _ [40, 41, 36, 10, 11, 12, 13, 14, 54, 55, 56, 57, 58, 59, 60] (by decide +kernel) (by decide +kernel)
set_option maxRecDepth 20000 in
theorem gX4_move_X0_roomOf : GoodIn wsX4_move (wsV RX4 97 RX0 yX0_roomOf wsX0_roomOf) := goodIn_app (goodIn_of _ (by decide +kernel)) ggX4_move_X0_roomOf
set_option maxRecDepth 20000 in
theorem ggX4_move_X0_setRoom : GoodIn wsX4_move wsX0_setRoom := goodIn_r _ [45, 41, 36, 10, 11, 12, 13, 14, 54, 55, 56, 57, 58, 59, 60] (by decide +kernel) (by decide +kernel)
set_option maxRecDepth 20000 in
theorem gX4_move_X0_setRoom : GoodIn wsX4_move (wsV RX4 100 RX0 yX0_setRoom wsX0_setRoom) := goodIn_app (goodIn_of _ (by decide +kernel)) ggX4_move_X0_setRoom
theorem dX4_move_0 : decode cX4_move 0 = .ok (.aload_n 0, 1) := by decide +kernel
theorem dX4_move_1 : decode cX4_move 1 = .ok (.iload_n 1, 1) := by decide +kernel
theorem dX4_move_2 : decode cX4_move 2 = .ok (.invokevirtual 91, 3) := by decide +kernel
theorem dX4_move_5 : decode cX4_move 5 = .ok (.aload_n 0, 1) := by decide +kernel
theorem dX4_move_6 : decode cX4_move 6 = .ok (.iload_n 2, 1) := by decide +kernel
theorem dX4_move_7 : decode cX4_move 7 = .ok (.invokevirtual 61, 3) := by decide +kernel
theorem dX4_move_10 : decode cX4_move 10 = .ok (.aload_n 0, 1) := by decide +kernel
theorem dX4_move_11 : decode cX4_move 11 = .ok (.iload_n 1, 1) := by decide +kernel
theorem dX4_move_12 : decode cX4_move 12 = .ok (.invokevirtual 94, 3) := by decide +kernel
theorem dX4_move_15 : decode cX4_move 15 = .ok (.aload_n 0, 1) := by decide +kernel
theorem dX4_move_16 : decode cX4_move 16 = .ok (.getfield 12, 3) := by decide +kernel
theorem dX4_move_19 : decode cX4_move 19 = .ok (.getfield 79, 3) := by decide +kernel
theorem dX4_move_22 : decode cX4_move 22 = .ok (.iload_n 1, 1) := by decide +kernel
theorem dX4_move_23 : decode cX4_move 23 = .ok (.invokevirtual 97, 3) := by decide +kernel
theorem dX4_move_26 : decode cX4_move 26 = .ok (.istore_n 3, 1) := by decide +kernel
theorem dX4_move_27 : decode cX4_move 27 = .ok (.aload_n 0, 1) := by decide +kernel
theorem dX4_move_28 : decode cX4_move 28 = .ok (.getfield 12, 3) := by decide +kernel
theorem dX4_move_31 : decode cX4_move 31 = .ok (.getfield 79, 3) := by decide +kernel
theorem dX4_move_34 : decode cX4_move 34 = .ok (.iload_n 1, 1) := by decide +kernel
theorem dX4_move_35 : decode cX4_move 35 = .ok (.iload_n 2, 1) := by decide +kernel
theorem dX4_move_36 : decode cX4_move 36 = .ok (.invokevirtual 100, 3) := by decide +kernel
theorem dX4_move_39 : decode cX4_move 39 = .ok (.iload_n 3, 1) := by decide +kernel
theorem dX4_move_40 : decode cX4_move 40 = .ok (.ireturn, 1) := by decide +kernel
set_option maxRecDepth 20000 in
theorem ggX4_leave_X4_needGuest : GoodIn wsX4_leave wsX4_needGuest := goodIn_ca (goodIn_r _ [6, 7, 8, 1, 9, 10, 11, 12, 13, 14, 37, 38, 39, 40, 41, 42, 43, 44, 45, 46, 47, 48, 49, 50, 51] (by decide +kernel) (by decide +kernel)) (goodIn_sub (fun _ h => List.mem_cons_of_mem _ (List.mem_append_left _ (List.mem_append_right _ h))) (by decide +kernel))
set_option maxRecDepth 20000 in
theorem gX4_leave_X4_needGuest : GoodIn wsX4_leave (wsV RX4 91 RX4 yX4_needGuest wsX4_needGuest) := goodIn_app (goodIn_of _ (by decide +kernel)) ggX4_leave_X4_needGuest
set_option maxRecDepth 20000 in
theorem ggX4_leave_X4_needStaying : GoodIn wsX4_leave wsX4_needStaying := goodIn_ca (goodIn_r _ [18, 19, 20, 1, 21, 22, 23, 12, 24, 25, 26, 10, 11, 13, 14, 37, 38, 39, 40, 41, 42, 43, 44, 45, 46, 47, 48, 49, 50, 51] (by decide +kernel) (by decide +kernel)) (goodIn_sub (fun _ h => List.mem_cons_of_mem _ (List.mem_append_right _ h)) (by decide +kernel))
set_option maxRecDepth 20000 in
theorem gX4_leave_X4_needStaying : GoodIn wsX4_leave (wsV RX4 94 RX4 yX4_needStaying wsX4_needStaying) := goodIn_app (goodIn_of _ (by decide +kernel)) ggX4_leave_X4_needStaying
set_option maxRecDepth 20000 in
theorem ggX4_leave_X0_sendOff : GoodIn wsX4_leave wsX0_sendOff := goodIn_r _ [30, 25, 31, 26, 10, 11, 12, 13, 14, 45, 46, 47, 48, 49, 50, 51] (by decide +kernel) (by decide +kernel)
set_option maxRecDepth 20000 in
theorem gX4_leave_X0_sendOff : GoodIn wsX4_leave (wsV RX4 103 RX0 yX0_sendOff wsX0_sendOff) := goodIn_app (goodIn_of _ (by decide +kernel)) ggX4_leave_X0_sendOff
set_option maxRecDepth 20000 in
theorem ggX4_leave_X0_sawOf : GoodIn wsX4_leave wsX0_sawOf := goodIn_r _ [35, 36, 26, 10, 11, 12, 13, 14, 45, 46, 47, 48, 49, 50, 51] (by decide +kernel) (by decide +kernel)
set_option maxRecDepth 20000 in
theorem gX4_leave_X0_sawOf : GoodIn wsX4_leave (wsV RX4 106 RX0 yX0_sawOf wsX0_sawOf) := goodIn_app (goodIn_of _ (by decide +kernel)) ggX4_leave_X0_sawOf
theorem dX4_leave_0 : decode cX4_leave 0 = .ok (.aload_n 0, 1) := by decide +kernel
theorem dX4_leave_1 : decode cX4_leave 1 = .ok (.iload_n 1, 1) := by decide +kernel
theorem dX4_leave_2 : decode cX4_leave 2 = .ok (.invokevirtual 91, 3) := by decide +kernel
theorem dX4_leave_5 : decode cX4_leave 5 = .ok (.aload_n 0, 1) := by decide +kernel
theorem dX4_leave_6 : decode cX4_leave 6 = .ok (.iload_n 1, 1) := by decide +kernel
theorem dX4_leave_7 : decode cX4_leave 7 = .ok (.invokevirtual 94, 3) := by decide +kernel
theorem dX4_leave_10 : decode cX4_leave 10 = .ok (.aload_n 0, 1) := by decide +kernel
theorem dX4_leave_11 : decode cX4_leave 11 = .ok (.getfield 12, 3) := by decide +kernel
theorem dX4_leave_14 : decode cX4_leave 14 = .ok (.getfield 79, 3) := by decide +kernel
theorem dX4_leave_17 : decode cX4_leave 17 = .ok (.iload_n 1, 1) := by decide +kernel
theorem dX4_leave_18 : decode cX4_leave 18 = .ok (.invokevirtual 103, 3) := by decide +kernel
theorem dX4_leave_21 : decode cX4_leave 21 = .ok (.aload_n 0, 1) := by decide +kernel
theorem dX4_leave_22 : decode cX4_leave 22 = .ok (.getfield 12, 3) := by decide +kernel
theorem dX4_leave_25 : decode cX4_leave 25 = .ok (.getfield 79, 3) := by decide +kernel
theorem dX4_leave_28 : decode cX4_leave 28 = .ok (.iload_n 1, 1) := by decide +kernel
theorem dX4_leave_29 : decode cX4_leave 29 = .ok (.invokevirtual 106, 3) := by decide +kernel
theorem dX4_leave_32 : decode cX4_leave 32 = .ok (.ireturn, 1) := by decide +kernel
set_option maxRecDepth 20000 in
theorem ggX4_hush_X4_needGuest : GoodIn wsX4_hush wsX4_needGuest := goodIn_ca (goodIn_r _ [6, 7, 8, 1, 9, 10, 11, 12, 13, 14, 30, 31, 32, 33, 34, 35, 36, 37, 38, 39, 40, 41, 42, 43, 44] (by decide +kernel) (by decide +kernel)) (goodIn_sub (fun _ h => List.mem_cons_of_mem _ (List.mem_append_left _ (List.mem_append_right _ h))) (by decide +kernel))
set_option maxRecDepth 20000 in
theorem gX4_hush_X4_needGuest : GoodIn wsX4_hush (wsV RX4 91 RX4 yX4_needGuest wsX4_needGuest) := goodIn_app (goodIn_of _ (by decide +kernel)) ggX4_hush_X4_needGuest
set_option maxRecDepth 20000 in
theorem ggX4_hush_X4_needArgument : GoodIn wsX4_hush wsX4_needArgument := goodIn_ca (goodIn_r _ [17, 18, 19] (by decide +kernel) (by decide +kernel)) (goodIn_sub (fun _ h => List.mem_cons_of_mem _ (List.mem_append_right _ h)) (by decide +kernel))
set_option maxRecDepth 20000 in
theorem gX4_hush_X4_needArgument : GoodIn wsX4_hush (va_wsS RX4 23 yX4_needArgument wsX4_needArgument) := goodIn_app (goodIn_of _ (by decide +kernel)) ggX4_hush_X4_needArgument
set_option maxRecDepth 20000 in
theorem ggX4_hush_X0_whisperOf : GoodIn wsX4_hush wsX0_whisperOf := goodIn_r _ [23, 24, 25, 10, 11, 12, 13, 14, 38, 39, 40, 41, 42, 43, 44] (by decide +kernel) (by decide +kernel)
set_option maxRecDepth 20000 in
theorem gX4_hush_X0_whisperOf : GoodIn wsX4_hush (wsV RX4 109 RX0 yX0_whisperOf wsX0_whisperOf) := goodIn_app (goodIn_of _ (by decide +kernel)) ggX4_hush_X0_whisperOf
set_option maxRecDepth 20000 in
theorem ggX4_hush_X0_setWhisper : GoodIn wsX4_hush wsX0_setWhisper := goodIn_r _ [29, 24, 25, 10, 11, 12, 13, 14, 38, 39, 40, 41, 42, 43, 44] (by decide +kernel) (by decide +kernel)
set_option maxRecDepth 20000 in
theorem gX4_hush_X0_setWhisper : GoodIn wsX4_hush (wsV RX4 112 RX0 yX0_setWhisper wsX0_setWhisper) := goodIn_app (goodIn_of _ (by decide +kernel)) ggX4_hush_X0_setWhisper
theorem dX4_hush_0 : decode cX4_hush 0 = .ok (.aload_n 0, 1) := by decide +kernel
theorem dX4_hush_1 : decode cX4_hush 1 = .ok (.iload_n 1, 1) := by decide +kernel
theorem dX4_hush_2 : decode cX4_hush 2 = .ok (.invokevirtual 91, 3) := by decide +kernel
theorem dX4_hush_5 : decode cX4_hush 5 = .ok (.iload_n 2, 1) := by decide +kernel
theorem dX4_hush_6 : decode cX4_hush 6 = .ok (.iconst 0, 1) := by decide +kernel
theorem dX4_hush_7 : decode cX4_hush 7 = .ok (.bipush 9, 2) := by decide +kernel
theorem dX4_hush_9 : decode cX4_hush 9 = .ok (.invokestatic 23, 3) := by decide +kernel
theorem dX4_hush_12 : decode cX4_hush 12 = .ok (.aload_n 0, 1) := by decide +kernel
theorem dX4_hush_13 : decode cX4_hush 13 = .ok (.getfield 12, 3) := by decide +kernel
theorem dX4_hush_16 : decode cX4_hush 16 = .ok (.getfield 79, 3) := by decide +kernel
theorem dX4_hush_19 : decode cX4_hush 19 = .ok (.iload_n 1, 1) := by decide +kernel
theorem dX4_hush_20 : decode cX4_hush 20 = .ok (.invokevirtual 109, 3) := by decide +kernel
theorem dX4_hush_23 : decode cX4_hush 23 = .ok (.istore_n 3, 1) := by decide +kernel
theorem dX4_hush_24 : decode cX4_hush 24 = .ok (.aload_n 0, 1) := by decide +kernel
theorem dX4_hush_25 : decode cX4_hush 25 = .ok (.getfield 12, 3) := by decide +kernel
theorem dX4_hush_28 : decode cX4_hush 28 = .ok (.getfield 79, 3) := by decide +kernel
theorem dX4_hush_31 : decode cX4_hush 31 = .ok (.iload_n 1, 1) := by decide +kernel
theorem dX4_hush_32 : decode cX4_hush 32 = .ok (.iload_n 2, 1) := by decide +kernel
theorem dX4_hush_33 : decode cX4_hush 33 = .ok (.invokevirtual 112, 3) := by decide +kernel
theorem dX4_hush_36 : decode cX4_hush 36 = .ok (.iload_n 3, 1) := by decide +kernel
theorem dX4_hush_37 : decode cX4_hush 37 = .ok (.ireturn, 1) := by decide +kernel
set_option maxRecDepth 20000 in
theorem ggX4_guest_X4_needGuest : GoodIn wsX4_guest wsX4_needGuest := goodIn_ca (goodIn_r _ [6, 7, 8, 1, 9, 10, 11, 12, 13, 14, 53, 54, 55, 56, 57, 58, 59, 60, 61, 62, 63, 64, 65, 66, 67] (by decide +kernel) (by decide +kernel)) (goodIn_sub (fun _ h => List.mem_cons_of_mem _ (List.mem_append_right _ h)) (by decide +kernel))
set_option maxRecDepth 20000 in
theorem gX4_guest_X4_needGuest : GoodIn wsX4_guest (wsV RX4 91 RX4 yX4_needGuest wsX4_needGuest) := goodIn_app (goodIn_of _ (by decide +kernel)) ggX4_guest_X4_needGuest
set_option maxRecDepth 20000 in
theorem ggX4_guest_X4_needIndex : GoodIn wsX4_guest wsX4_needIndex := goodIn_ca (goodIn_r _ [17, 7, 8] (by decide +kernel) (by decide +kernel)) (goodIn_sub (fun _ h => List.mem_cons_of_mem _ (List.mem_append_right _ h)) (by decide +kernel))
set_option maxRecDepth 20000 in
theorem gX4_guest_X4_needIndex : GoodIn wsX4_guest (va_wsS RX4 19 yX4_needIndex wsX4_needIndex) := goodIn_app (goodIn_of _ (by decide +kernel)) ggX4_guest_X4_needIndex
set_option maxRecDepth 20000 in
theorem ggX4_guest_X0_tell : GoodIn wsX4_guest wsX0_tell := goodIn_r _ [21, 22, 23, 24, 12, 25, 26, 27, 10, 11, 13, 14, 28, 29, 30, 31, 32, 33, 34, 35, 36, 37, 38, 39, 40, 41, 42, 43, 44, 45, 46, 47, 48, 49, 50, 51, 52, 61, 62, 63, 64, 65, 66, 67] (by decide +kernel) (by decide +kernel)
set_option maxRecDepth 20000 in
theorem gX4_guest_X0_tell : GoodIn wsX4_guest (wsV RX4 115 RX0 yX0_tell wsX0_tell) := goodIn_app (goodIn_of _ (by decide +kernel)) ggX4_guest_X0_tell
theorem dX4_guest_0 : decode cX4_guest 0 = .ok (.aload_n 0, 1) := by decide +kernel
theorem dX4_guest_1 : decode cX4_guest 1 = .ok (.iload_n 1, 1) := by decide +kernel
theorem dX4_guest_2 : decode cX4_guest 2 = .ok (.invokevirtual 91, 3) := by decide +kernel
theorem dX4_guest_5 : decode cX4_guest 5 = .ok (.iload_n 2, 1) := by decide +kernel
theorem dX4_guest_6 : decode cX4_guest 6 = .ok (.iconst 5, 1) := by decide +kernel
theorem dX4_guest_7 : decode cX4_guest 7 = .ok (.invokestatic 19, 3) := by decide +kernel
theorem dX4_guest_10 : decode cX4_guest 10 = .ok (.aload_n 0, 1) := by decide +kernel
theorem dX4_guest_11 : decode cX4_guest 11 = .ok (.getfield 12, 3) := by decide +kernel
theorem dX4_guest_14 : decode cX4_guest 14 = .ok (.getfield 79, 3) := by decide +kernel
theorem dX4_guest_17 : decode cX4_guest 17 = .ok (.iload_n 1, 1) := by decide +kernel
theorem dX4_guest_18 : decode cX4_guest 18 = .ok (.iload_n 2, 1) := by decide +kernel
theorem dX4_guest_19 : decode cX4_guest 19 = .ok (.invokevirtual 115, 3) := by decide +kernel
theorem dX4_guest_22 : decode cX4_guest 22 = .ok (.ireturn, 1) := by decide +kernel
set_option maxRecDepth 20000 in
theorem ggX4_count_X4_needIndex : GoodIn wsX4_count wsX4_needIndex := goodIn_ca (goodIn_r _ [5, 6, 7] (by decide +kernel) (by decide +kernel)) (goodIn_sub (fun _ h => List.mem_cons_of_mem _ (List.mem_append_right _ h)) (by decide +kernel))
set_option maxRecDepth 20000 in
theorem gX4_count_X4_needIndex : GoodIn wsX4_count (va_wsS RX4 19 yX4_needIndex wsX4_needIndex) := goodIn_app (goodIn_of _ (by decide +kernel)) ggX4_count_X4_needIndex
set_option maxRecDepth 20000 in
theorem ggX4_count_X2_tellCount : GoodIn wsX4_count wsX2_tellCount := goodIn_r _ [12, 13, 14, 15, 16, 17, 18, 19, 11, 20, 21, 22, 23, 24, 25, 26, 27, 4, 28, 29, 30, 31, 32, 33, 34, 35, 36, 37, 38, 39, 40, 41, 42, 43, 44, 45, 46, 47, 48, 49, 50, 51, 52, 53, 54, 55, 56, 57, 58, 59, 60, 61, 62, 63, 64, 65, 68, 69, 70, 71, 72, 73, 74, 75, 76, 77, 78, 79, 80, 81, 82, 83, 84] (by decide +kernel) (by decide +kernel)
set_option maxRecDepth 20000 in
theorem gX4_count_X2_tellCount : GoodIn wsX4_count (wsV RX4 118 RX2 yX2_tellCount wsX2_tellCount) := goodIn_app (goodIn_of _ (by decide +kernel)) ggX4_count_X2_tellCount
theorem dX4_count_0 : decode cX4_count 0 = .ok (.iload_n 1, 1) := by decide +kernel
theorem dX4_count_1 : decode cX4_count 1 = .ok (.bipush 8, 2) := by decide +kernel
theorem dX4_count_3 : decode cX4_count 3 = .ok (.invokestatic 19, 3) := by decide +kernel
theorem dX4_count_6 : decode cX4_count 6 = .ok (.aload_n 0, 1) := by decide +kernel
theorem dX4_count_7 : decode cX4_count 7 = .ok (.getfield 12, 3) := by decide +kernel
theorem dX4_count_10 : decode cX4_count 10 = .ok (.iload_n 1, 1) := by decide +kernel
theorem dX4_count_11 : decode cX4_count 11 = .ok (.invokevirtual 118, 3) := by decide +kernel
theorem dX4_count_14 : decode cX4_count 14 = .ok (.ireturn, 1) := by decide +kernel
set_option maxRecDepth 20000 in
theorem ggX4_pass_X4_needArgument : GoodIn wsX4_pass wsX4_needArgument := goodIn_ca (goodIn_r _ [5, 6, 7] (by decide +kernel) (by decide +kernel)) (goodIn_sub (fun _ h => List.mem_cons_of_mem _ (List.mem_append_right _ h)) (by decide +kernel))
set_option maxRecDepth 20000 in
theorem gX4_pass_X4_needArgument : GoodIn wsX4_pass (va_wsS RX4 23 yX4_needArgument wsX4_needArgument) := goodIn_app (goodIn_of _ (by decide +kernel)) ggX4_pass_X4_needArgument
set_option maxRecDepth 20000 in
theorem ggX4_pass_X2_goThrough : GoodIn wsX4_pass wsX2_goThrough := goodIn_r _ [12, 13, 14, 15, 16, 11, 17, 18, 19, 20, 21, 22, 23, 24, 25, 26, 27, 28, 29, 30, 31, 32, 33, 34, 35, 36, 37, 38, 39, 40, 41, 42, 43, 44, 45, 46, 47, 48, 49, 50, 51, 52, 53, 54, 55, 56, 57, 58, 59, 60, 61, 62, 63, 64, 65, 66, 67, 68, 69, 70, 71, 72, 73, 74, 75, 76, 77, 78, 79, 80, 81, 82, 83, 84, 85, 86, 87, 88, 89, 90, 91, 92, 93, 94, 95, 96, 97, 98, 99, 100, 101, 102, 103, 104, 105, 106, 107, 108, 109, 110, 111, 112, 113, 114, 115, 116, 117, 118, 119, 120, 121, 122, 123, 124, 125, 126, 127, 128, 129, 130, 131, 132, 133, 134, 135, 136, 137, 138, 139, 140, 141, 142, 143, 144, 145, 146, 147, 148, 149, 150, 151, 152, 153, 154, 155, 156, 157, 158, 159, 160, 161, 162, 163, 164, 165, 168, 169, 170, 171, 172, 173, 174, 175, 176, 177, 178, 179, 180, 181, 182, 183, 184] (by decide +kernel) (by decide +kernel)
set_option maxRecDepth 20000 in
theorem gX4_pass_X2_goThrough : GoodIn wsX4_pass (wsV RX4 121 RX2 yX2_goThrough wsX2_goThrough) := goodIn_app (goodIn_of _ (by decide +kernel)) ggX4_pass_X2_goThrough
theorem dX4_pass_0 : decode cX4_pass 0 = .ok (.iload_n 1, 1) := by decide +kernel
theorem dX4_pass_1 : decode cX4_pass 1 = .ok (.iconst 1, 1) := by decide +kernel
theorem dX4_pass_2 : decode cX4_pass 2 = .ok (.bipush 60, 2) := by decide +kernel
theorem dX4_pass_4 : decode cX4_pass 4 = .ok (.invokestatic 23, 3) := by decide +kernel
theorem dX4_pass_7 : decode cX4_pass 7 = .ok (.aload_n 0, 1) := by decide +kernel
theorem dX4_pass_8 : decode cX4_pass 8 = .ok (.getfield 12, 3) := by decide +kernel
theorem dX4_pass_11 : decode cX4_pass 11 = .ok (.iload_n 1, 1) := by decide +kernel
theorem dX4_pass_12 : decode cX4_pass 12 = .ok (.invokevirtual 121, 3) := by decide +kernel
theorem dX4_pass_15 : decode cX4_pass 15 = .ok (.ireturn, 1) := by decide +kernel
set_option maxRecDepth 20000 in
theorem ggX4_foresee_X4_needArgument : GoodIn wsX4_foresee wsX4_needArgument := goodIn_ca (goodIn_r _ [6, 7, 8] (by decide +kernel) (by decide +kernel)) (goodIn_sub (fun _ h => List.mem_cons_of_mem _ (List.mem_append_left _ (List.mem_append_right _ h))) (by decide +kernel))
set_option maxRecDepth 20000 in
theorem gX4_foresee_X4_needArgument : GoodIn wsX4_foresee (va_wsS RX4 23 yX4_needArgument wsX4_needArgument) := goodIn_app (goodIn_of _ (by decide +kernel)) ggX4_foresee_X4_needArgument
set_option maxRecDepth 20000 in
theorem ggX4_foresee_X4_needIndex : GoodIn wsX4_foresee wsX4_needIndex := goodIn_ca (goodIn_r _ [11, 12, 13] (by decide +kernel) (by decide +kernel)) (goodIn_sub (fun _ h => List.mem_cons_of_mem _ (List.mem_append_right _ h)) (by decide +kernel))
set_option maxRecDepth 20000 in
theorem gX4_foresee_X4_needIndex : GoodIn wsX4_foresee (va_wsS RX4 19 yX4_needIndex wsX4_needIndex) := goodIn_app (goodIn_of _ (by decide +kernel)) ggX4_foresee_X4_needIndex
set_option maxRecDepth 20000 in
theorem ggX4_foresee_X2_copyFrom : GoodIn wsX4_foresee wsX2_copyFrom := goodIn_r _ [18, 19, 20, 21, 22, 23, 24, 25, 26, 27, 28, 29, 30, 31, 32, 33, 34, 35, 36, 37, 38, 39, 40, 41, 42, 43, 44, 45, 46, 47, 48, 49, 50, 51, 52, 53, 204, 205, 206, 207, 208, 209, 210, 211, 212, 213, 214, 215, 216, 217, 218, 219, 220] (by decide +kernel) (by decide +kernel)
set_option maxRecDepth 20000 in
theorem gX4_foresee_X2_copyFrom : GoodIn wsX4_foresee (wsV RX4 131 RX2 yX2_copyFrom wsX2_copyFrom) := goodIn_app (goodIn_of _ (by decide +kernel)) ggX4_foresee_X2_copyFrom
set_option maxRecDepth 20000 in
theorem ggX4_foresee_X2_goThrough : GoodIn wsX4_foresee wsX2_goThrough := goodIn_r _ [57, 22, 58, 59, 60, 17, 61, 62, 20, 63, 64, 65, 37, 66, 40, 39, 67, 68, 69, 70, 71, 72, 73, 74, 19, 75, 76, 77, 78, 79, 80, 81, 27, 82, 83, 84, 85, 86, 29, 87, 88, 89, 90, 91, 92, 93, 94, 95, 96, 97, 98, 99, 100, 21, 101, 102, 103, 45, 104, 52, 47, 48, 105, 106, 107, 108, 109, 110, 111, 112, 41, 113, 114, 115, 116, 117, 118, 119, 120, 121, 122, 123, 124, 125, 126, 127, 128, 129, 130, 131, 53, 132, 133, 134, 135, 136, 137, 138, 139, 140, 141, 142, 143, 144, 145, 146, 147, 148, 149, 150, 151, 50, 152, 153, 154, 155, 156, 157, 158, 159, 51, 160, 161, 162, 163, 164, 165, 166, 167, 49, 168, 169, 170, 171, 23, 172, 173, 174, 175, 176, 177, 178, 179, 180, 181, 182, 183, 184, 185, 186, 187, 188, 189, 190, 191, 204, 205, 206, 207, 208, 209, 211, 212, 213, 210, 214, 215, 216, 217, 218, 219, 220] (by decide +kernel) (by decide +kernel)
set_option maxRecDepth 20000 in
theorem gX4_foresee_X2_goThrough : GoodIn wsX4_foresee (wsV RX4 121 RX2 yX2_goThrough wsX2_goThrough) := goodIn_app (goodIn_of _ (by decide +kernel)) ggX4_foresee_X2_goThrough
set_option maxRecDepth 20000 in
theorem ggX4_foresee_X1_all : GoodIn wsX4_foresee wsX1_all := goodIn_r _ [195, 29, 196, 5, 197, 210] (by decide +kernel) (by decide +kernel)
set_option maxRecDepth 20000 in
theorem gX4_foresee_X1_all : GoodIn wsX4_foresee (wsV RX4 135 RX1 yX1_all wsX1_all) := goodIn_app (goodIn_of _ (by decide +kernel)) ggX4_foresee_X1_all
set_option maxRecDepth 20000 in
theorem ggX4_foresee_X0_tookInAll : GoodIn wsX4_foresee wsX0_tookInAll := goodIn_r _ [201, 49, 196, 5, 197, 214, 215, 216, 217, 218, 219, 220] (by decide +kernel) (by decide +kernel)
set_option maxRecDepth 20000 in
theorem gX4_foresee_X0_tookInAll : GoodIn wsX4_foresee (wsV RX4 139 RX0 yX0_tookInAll wsX0_tookInAll) := goodIn_app (goodIn_of _ (by decide +kernel)) ggX4_foresee_X0_tookInAll
theorem dX4_foresee_0 : decode cX4_foresee 0 = .ok (.iload_n 1, 1) := by decide +kernel
theorem dX4_foresee_1 : decode cX4_foresee 1 = .ok (.iconst 1, 1) := by decide +kernel
theorem dX4_foresee_2 : decode cX4_foresee 2 = .ok (.bipush 60, 2) := by decide +kernel
theorem dX4_foresee_4 : decode cX4_foresee 4 = .ok (.invokestatic 23, 3) := by decide +kernel
theorem dX4_foresee_7 : decode cX4_foresee 7 = .ok (.iload_n 2, 1) := by decide +kernel
theorem dX4_foresee_8 : decode cX4_foresee 8 = .ok (.iconst 2, 1) := by decide +kernel
theorem dX4_foresee_9 : decode cX4_foresee 9 = .ok (.invokestatic 19, 3) := by decide +kernel
theorem dX4_foresee_12 : decode cX4_foresee 12 = .ok (.aload_n 0, 1) := by decide +kernel
theorem dX4_foresee_13 : decode cX4_foresee 13 = .ok (.getfield 16, 3) := by decide +kernel
theorem dX4_foresee_16 : decode cX4_foresee 16 = .ok (.aload_n 0, 1) := by decide +kernel
theorem dX4_foresee_17 : decode cX4_foresee 17 = .ok (.getfield 12, 3) := by decide +kernel
theorem dX4_foresee_20 : decode cX4_foresee 20 = .ok (.invokevirtual 131, 3) := by decide +kernel
theorem dX4_foresee_23 : decode cX4_foresee 23 = .ok (.aload_n 0, 1) := by decide +kernel
theorem dX4_foresee_24 : decode cX4_foresee 24 = .ok (.getfield 16, 3) := by decide +kernel
theorem dX4_foresee_27 : decode cX4_foresee 27 = .ok (.iload_n 1, 1) := by decide +kernel
theorem dX4_foresee_28 : decode cX4_foresee 28 = .ok (.invokevirtual 121, 3) := by decide +kernel
theorem dX4_foresee_31 : decode cX4_foresee 31 = .ok (.istore_n 3, 1) := by decide +kernel
theorem dX4_foresee_32 : decode cX4_foresee 32 = .ok (.iload_n 2, 1) := by decide +kernel
theorem dX4_foresee_33 : decode cX4_foresee 33 = .ok (.ifCond .ne 5, 3) := by decide +kernel
theorem dX4_foresee_36 : decode cX4_foresee 36 = .ok (.iload_n 3, 1) := by decide +kernel
theorem dX4_foresee_37 : decode cX4_foresee 37 = .ok (.ireturn, 1) := by decide +kernel
theorem dX4_foresee_38 : decode cX4_foresee 38 = .ok (.iload_n 2, 1) := by decide +kernel
theorem dX4_foresee_39 : decode cX4_foresee 39 = .ok (.iconst 1, 1) := by decide +kernel
theorem dX4_foresee_40 : decode cX4_foresee 40 = .ok (.if_icmp .ne 14, 3) := by decide +kernel
theorem dX4_foresee_43 : decode cX4_foresee 43 = .ok (.aload_n 0, 1) := by decide +kernel
theorem dX4_foresee_44 : decode cX4_foresee 44 = .ok (.getfield 16, 3) := by decide +kernel
theorem dX4_foresee_47 : decode cX4_foresee 47 = .ok (.getfield 27, 3) := by decide +kernel
theorem dX4_foresee_50 : decode cX4_foresee 50 = .ok (.invokevirtual 135, 3) := by decide +kernel
theorem dX4_foresee_53 : decode cX4_foresee 53 = .ok (.ireturn, 1) := by decide +kernel
theorem dX4_foresee_54 : decode cX4_foresee 54 = .ok (.aload_n 0, 1) := by decide +kernel
theorem dX4_foresee_55 : decode cX4_foresee 55 = .ok (.getfield 16, 3) := by decide +kernel
theorem dX4_foresee_58 : decode cX4_foresee 58 = .ok (.getfield 79, 3) := by decide +kernel
theorem dX4_foresee_61 : decode cX4_foresee 61 = .ok (.invokevirtual 139, 3) := by decide +kernel
theorem dX4_foresee_64 : decode cX4_foresee 64 = .ok (.aload_n 0, 1) := by decide +kernel
theorem dX4_foresee_65 : decode cX4_foresee 65 = .ok (.getfield 12, 3) := by decide +kernel
theorem dX4_foresee_68 : decode cX4_foresee 68 = .ok (.getfield 79, 3) := by decide +kernel
theorem dX4_foresee_71 : decode cX4_foresee 71 = .ok (.invokevirtual 139, 3) := by decide +kernel
theorem dX4_foresee_74 : decode cX4_foresee 74 = .ok (.isub, 1) := by decide +kernel
theorem dX4_foresee_75 : decode cX4_foresee 75 = .ok (.ireturn, 1) := by decide +kernel
set_option maxRecDepth 20000 in
theorem ggX4_mean_X0_many : GoodIn wsX4_mean wsX0_many := goodIn_r _ [6, 7, 24, 25, 26, 27, 28, 29, 30] (by decide +kernel) (by decide +kernel)
set_option maxRecDepth 20000 in
theorem gX4_mean_X0_many : GoodIn wsX4_mean (wsV RX4 151 RX0 yX0_many wsX0_many) := goodIn_app (goodIn_of _ (by decide +kernel)) ggX4_mean_X0_many
set_option maxRecDepth 20000 in
theorem ggX4_mean_X0_sawInAll : GoodIn wsX4_mean wsX0_sawInAll := goodIn_r _ [11, 12, 13, 14, 15, 24, 25, 26, 27, 28, 29, 30] (by decide +kernel) (by decide +kernel)
set_option maxRecDepth 20000 in
theorem gX4_mean_X0_sawInAll : GoodIn wsX4_mean (wsV RX4 154 RX0 yX0_sawInAll wsX0_sawInAll) := goodIn_app (goodIn_of _ (by decide +kernel)) ggX4_mean_X0_sawInAll
theorem dX4_mean_0 : decode cX4_mean 0 = .ok (.aload_n 0, 1) := by decide +kernel
theorem dX4_mean_1 : decode cX4_mean 1 = .ok (.getfield 12, 3) := by decide +kernel
theorem dX4_mean_4 : decode cX4_mean 4 = .ok (.getfield 79, 3) := by decide +kernel
theorem dX4_mean_7 : decode cX4_mean 7 = .ok (.invokevirtual 151, 3) := by decide +kernel
theorem dX4_mean_10 : decode cX4_mean 10 = .ok (.ifCond .ne 5, 3) := by decide +kernel
theorem dX4_mean_13 : decode cX4_mean 13 = .ok (.dconst 0, 1) := by decide +kernel
theorem dX4_mean_14 : decode cX4_mean 14 = .ok (.dreturn, 1) := by decide +kernel
theorem dX4_mean_15 : decode cX4_mean 15 = .ok (.aload_n 0, 1) := by decide +kernel
theorem dX4_mean_16 : decode cX4_mean 16 = .ok (.getfield 12, 3) := by decide +kernel
theorem dX4_mean_19 : decode cX4_mean 19 = .ok (.getfield 79, 3) := by decide +kernel
theorem dX4_mean_22 : decode cX4_mean 22 = .ok (.invokevirtual 154, 3) := by decide +kernel
theorem dX4_mean_25 : decode cX4_mean 25 = .ok (.i2d, 1) := by decide +kernel
theorem dX4_mean_26 : decode cX4_mean 26 = .ok (.aload_n 0, 1) := by decide +kernel
theorem dX4_mean_27 : decode cX4_mean 27 = .ok (.getfield 12, 3) := by decide +kernel
theorem dX4_mean_30 : decode cX4_mean 30 = .ok (.getfield 79, 3) := by decide +kernel
theorem dX4_mean_33 : decode cX4_mean 33 = .ok (.invokevirtual 151, 3) := by decide +kernel
theorem dX4_mean_36 : decode cX4_mean 36 = .ok (.i2d, 1) := by decide +kernel
theorem dX4_mean_37 : decode cX4_mean 37 = .ok (.ddiv, 1) := by decide +kernel
theorem dX4_mean_38 : decode cX4_mean 38 = .ok (.dreturn, 1) := by decide +kernel
set_option maxRecDepth 20000 in
theorem ggX4_needRoom_X3_has : GoodIn wsX4_needRoom wsX3_has := goodIn_r _ [8, 9, 18, 19, 20] (by decide +kernel) (by decide +kernel)
set_option maxRecDepth 20000 in
theorem gX4_needRoom_X3_has : GoodIn wsX4_needRoom (wsV RX4 165 RX3 yX3_has wsX3_has) := goodIn_app (goodIn_of _ (by decide +kernel)) ggX4_needRoom_X3_has
theorem dX4_needRoom_0 : decode cX4_needRoom 0 = .ok (.aload_n 0, 1) := by decide +kernel
theorem dX4_needRoom_1 : decode cX4_needRoom 1 = .ok (.getfield 12, 3) := by decide +kernel
theorem dX4_needRoom_4 : decode cX4_needRoom 4 = .ok (.getfield 40, 3) := by decide +kernel
theorem dX4_needRoom_7 : decode cX4_needRoom 7 = .ok (.iload_n 1, 1) := by decide +kernel
theorem dX4_needRoom_8 : decode cX4_needRoom 8 = .ok (.invokevirtual 165, 3) := by decide +kernel
theorem dX4_needRoom_11 : decode cX4_needRoom 11 = .ok (.ifCond .ne 13, 3) := by decide +kernel
theorem dX4_needRoom_14 : decode cX4_needRoom 14 = .ok (.new 168, 3) := by decide +kernel
theorem dX4_needRoom_17 : decode cX4_needRoom 17 = .ok (.dup, 1) := by decide +kernel
theorem dX4_needRoom_18 : decode cX4_needRoom 18 = .ok (.ldc 170, 2) := by decide +kernel
theorem dX4_needRoom_20 : decode cX4_needRoom 20 = .ok (.invokespecial 172, 3) := by decide +kernel
theorem dX4_needRoom_23 : decode cX4_needRoom 23 = .ok (.athrow, 1) := by decide +kernel
theorem dX4_needRoom_24 : decode cX4_needRoom 24 = .ok (.return_, 1) := by decide +kernel
set_option maxRecDepth 20000 in
theorem ggX4_needGuest_X0_has : GoodIn wsX4_needGuest wsX0_has := goodIn_r _ [8, 9, 18, 19, 20, 21, 22, 23, 24] (by decide +kernel) (by decide +kernel)
set_option maxRecDepth 20000 in
theorem gX4_needGuest_X0_has : GoodIn wsX4_needGuest (wsV RX4 173 RX0 yX0_has wsX0_has) := goodIn_app (goodIn_of _ (by decide +kernel)) ggX4_needGuest_X0_has
theorem dX4_needGuest_0 : decode cX4_needGuest 0 = .ok (.aload_n 0, 1) := by decide +kernel
theorem dX4_needGuest_1 : decode cX4_needGuest 1 = .ok (.getfield 12, 3) := by decide +kernel
theorem dX4_needGuest_4 : decode cX4_needGuest 4 = .ok (.getfield 79, 3) := by decide +kernel
theorem dX4_needGuest_7 : decode cX4_needGuest 7 = .ok (.iload_n 1, 1) := by decide +kernel
theorem dX4_needGuest_8 : decode cX4_needGuest 8 = .ok (.invokevirtual 173, 3) := by decide +kernel
theorem dX4_needGuest_11 : decode cX4_needGuest 11 = .ok (.ifCond .ne 13, 3) := by decide +kernel
theorem dX4_needGuest_14 : decode cX4_needGuest 14 = .ok (.new 168, 3) := by decide +kernel
theorem dX4_needGuest_17 : decode cX4_needGuest 17 = .ok (.dup, 1) := by decide +kernel
theorem dX4_needGuest_18 : decode cX4_needGuest 18 = .ok (.ldc 174, 2) := by decide +kernel
theorem dX4_needGuest_20 : decode cX4_needGuest 20 = .ok (.invokespecial 172, 3) := by decide +kernel
theorem dX4_needGuest_23 : decode cX4_needGuest 23 = .ok (.athrow, 1) := by decide +kernel
theorem dX4_needGuest_24 : decode cX4_needGuest 24 = .ok (.return_, 1) := by decide +kernel
set_option maxRecDepth 20000 in
theorem ggX4_needStaying_X0_isStaying : GoodIn wsX4_needStaying wsX0_isStaying := goodIn_r _ [8, 9, 10, 11, 12, 7, 13, 14, 23, 24, 25, 26, 27, 28, 29] (by decide +kernel) (by decide +kernel)
set_option maxRecDepth 20000 in
theorem gX4_needStaying_X0_isStaying : GoodIn wsX4_needStaying (wsV RX4 176 RX0 yX0_isStaying wsX0_isStaying) := goodIn_app (goodIn_of _ (by decide +kernel)) ggX4_needStaying_X0_isStaying
theorem dX4_needStaying_0 : decode cX4_needStaying 0 = .ok (.aload_n 0, 1) := by decide +kernel
theorem dX4_needStaying_1 : decode cX4_needStaying 1 = .ok (.getfield 12, 3) := by decide +kernel
theorem dX4_needStaying_4 : decode cX4_needStaying 4 = .ok (.getfield 79, 3) := by decide +kernel
theorem dX4_needStaying_7 : decode cX4_needStaying 7 = .ok (.iload_n 1, 1) := by decide +kernel
theorem dX4_needStaying_8 : decode cX4_needStaying 8 = .ok (.invokevirtual 176, 3) := by decide +kernel
theorem dX4_needStaying_11 : decode cX4_needStaying 11 = .ok (.ifCond .ne 13, 3) := by decide +kernel
theorem dX4_needStaying_14 : decode cX4_needStaying 14 = .ok (.new 50, 3) := by decide +kernel
theorem dX4_needStaying_17 : decode cX4_needStaying 17 = .ok (.dup, 1) := by decide +kernel
theorem dX4_needStaying_18 : decode cX4_needStaying 18 = .ok (.ldc 179, 2) := by decide +kernel
theorem dX4_needStaying_20 : decode cX4_needStaying 20 = .ok (.invokespecial 54, 3) := by decide +kernel
theorem dX4_needStaying_23 : decode cX4_needStaying 23 = .ok (.athrow, 1) := by decide +kernel
theorem dX4_needStaying_24 : decode cX4_needStaying 24 = .ok (.return_, 1) := by decide +kernel
theorem dX4_needIndex_0 : decode cX4_needIndex 0 = .ok (.iload_n 0, 1) := by decide +kernel
theorem dX4_needIndex_1 : decode cX4_needIndex 1 = .ok (.ifCond .lt 8, 3) := by decide +kernel
theorem dX4_needIndex_4 : decode cX4_needIndex 4 = .ok (.iload_n 0, 1) := by decide +kernel
theorem dX4_needIndex_5 : decode cX4_needIndex 5 = .ok (.iload_n 1, 1) := by decide +kernel
theorem dX4_needIndex_6 : decode cX4_needIndex 6 = .ok (.if_icmp .le 13, 3) := by decide +kernel
theorem dX4_needIndex_9 : decode cX4_needIndex 9 = .ok (.new 168, 3) := by decide +kernel
theorem dX4_needIndex_12 : decode cX4_needIndex 12 = .ok (.dup, 1) := by decide +kernel
theorem dX4_needIndex_13 : decode cX4_needIndex 13 = .ok (.ldc 181, 2) := by decide +kernel
theorem dX4_needIndex_15 : decode cX4_needIndex 15 = .ok (.invokespecial 172, 3) := by decide +kernel
theorem dX4_needIndex_18 : decode cX4_needIndex 18 = .ok (.athrow, 1) := by decide +kernel
theorem dX4_needIndex_19 : decode cX4_needIndex 19 = .ok (.return_, 1) := by decide +kernel
theorem dX4_needArgument_0 : decode cX4_needArgument 0 = .ok (.iload_n 0, 1) := by decide +kernel
theorem dX4_needArgument_1 : decode cX4_needArgument 1 = .ok (.iload_n 1, 1) := by decide +kernel
theorem dX4_needArgument_2 : decode cX4_needArgument 2 = .ok (.if_icmp .lt 8, 3) := by decide +kernel
theorem dX4_needArgument_5 : decode cX4_needArgument 5 = .ok (.iload_n 0, 1) := by decide +kernel
theorem dX4_needArgument_6 : decode cX4_needArgument 6 = .ok (.iload_n 2, 1) := by decide +kernel
theorem dX4_needArgument_7 : decode cX4_needArgument 7 = .ok (.if_icmp .le 13, 3) := by decide +kernel
theorem dX4_needArgument_10 : decode cX4_needArgument 10 = .ok (.new 183, 3) := by decide +kernel
theorem dX4_needArgument_13 : decode cX4_needArgument 13 = .ok (.dup, 1) := by decide +kernel
theorem dX4_needArgument_14 : decode cX4_needArgument 14 = .ok (.ldc 185, 2) := by decide +kernel
theorem dX4_needArgument_16 : decode cX4_needArgument 16 = .ok (.invokespecial 187, 3) := by decide +kernel
theorem dX4_needArgument_19 : decode cX4_needArgument 19 = .ok (.athrow, 1) := by decide +kernel
theorem dX4_needArgument_20 : decode cX4_needArgument 20 = .ok (.return_, 1) := by decide +kernel
theorem dX4_sum_0 : decode cX4_sum 0 = .ok (.iconst 0, 1) := by decide +kernel
theorem dX4_sum_1 : decode cX4_sum 1 = .ok (.istore_n 1, 1) := by decide +kernel
theorem dX4_sum_2 : decode cX4_sum 2 = .ok (.iconst 0, 1) := by decide +kernel
theorem dX4_sum_3 : decode cX4_sum 3 = .ok (.istore_n 2, 1) := by decide +kernel
theorem dX4_sum_4 : decode cX4_sum 4 = .ok (.iload_n 2, 1) := by decide +kernel
theorem dX4_sum_5 : decode cX4_sum 5 = .ok (.aload_n 0, 1) := by decide +kernel
theorem dX4_sum_6 : decode cX4_sum 6 = .ok (.arraylength, 1) := by decide +kernel
theorem dX4_sum_7 : decode cX4_sum 7 = .ok (.if_icmp .ge 15, 3) := by decide +kernel
theorem dX4_sum_10 : decode cX4_sum 10 = .ok (.iload_n 1, 1) := by decide +kernel
theorem dX4_sum_11 : decode cX4_sum 11 = .ok (.aload_n 0, 1) := by decide +kernel
theorem dX4_sum_12 : decode cX4_sum 12 = .ok (.iload_n 2, 1) := by decide +kernel
theorem dX4_sum_13 : decode cX4_sum 13 = .ok (.iaload, 1) := by decide +kernel
theorem dX4_sum_14 : decode cX4_sum 14 = .ok (.iadd, 1) := by decide +kernel
theorem dX4_sum_15 : decode cX4_sum 15 = .ok (.istore_n 1, 1) := by decide +kernel
theorem dX4_sum_16 : decode cX4_sum 16 = .ok (.iinc 2 1, 3) := by decide +kernel
theorem dX4_sum_19 : decode cX4_sum 19 = .ok (.goto (-15), 3) := by decide +kernel
theorem dX4_sum_22 : decode cX4_sum 22 = .ok (.iload_n 1, 1) := by decide +kernel
theorem dX4_sum_23 : decode cX4_sum 23 = .ok (.ireturn, 1) := by decide +kernel
theorem dX4_countTrue_0 : decode cX4_countTrue 0 = .ok (.iconst 0, 1) := by decide +kernel
theorem dX4_countTrue_1 : decode cX4_countTrue 1 = .ok (.istore_n 1, 1) := by decide +kernel
theorem dX4_countTrue_2 : decode cX4_countTrue 2 = .ok (.iconst 0, 1) := by decide +kernel
theorem dX4_countTrue_3 : decode cX4_countTrue 3 = .ok (.istore_n 2, 1) := by decide +kernel
theorem dX4_countTrue_4 : decode cX4_countTrue 4 = .ok (.iload_n 2, 1) := by decide +kernel
theorem dX4_countTrue_5 : decode cX4_countTrue 5 = .ok (.aload_n 0, 1) := by decide +kernel
theorem dX4_countTrue_6 : decode cX4_countTrue 6 = .ok (.arraylength, 1) := by decide +kernel
theorem dX4_countTrue_7 : decode cX4_countTrue 7 = .ok (.if_icmp .ge 18, 3) := by decide +kernel
theorem dX4_countTrue_10 : decode cX4_countTrue 10 = .ok (.aload_n 0, 1) := by decide +kernel
theorem dX4_countTrue_11 : decode cX4_countTrue 11 = .ok (.iload_n 2, 1) := by decide +kernel
theorem dX4_countTrue_12 : decode cX4_countTrue 12 = .ok (.baload, 1) := by decide +kernel
