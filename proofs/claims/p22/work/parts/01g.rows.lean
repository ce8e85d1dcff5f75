theorem dX4_countTrue_13 : decode cX4_countTrue 13 = .ok (.ifCond .eq 6, 3) := by decide +kernel
theorem dX4_countTrue_16 : decode cX4_countTrue 16 = .ok (.iinc 1 1, 3) := by decide +kernel
theorem dX4_countTrue_19 : decode cX4_countTrue 19 = .ok (.iinc 2 1, 3) := by decide +kernel
theorem dX4_countTrue_22 : decode cX4_countTrue 22 = .ok (.goto (-18), 3) := by decide +kernel
theorem dX4_countTrue_25 : decode cX4_countTrue 25 = .ok (.iload_n 1, 1) := by decide +kernel
theorem dX4_countTrue_26 : decode cX4_countTrue 26 = .ok (.ireturn, 1) := by decide +kernel
theorem dX5_init_0 : decode cX5_init 0 = .ok (.aload_n 0, 1) := by decide +kernel
theorem dX5_init_1 : decode cX5_init 1 = .ok (.invokespecial 1, 3) := by decide +kernel
theorem dX5_init_4 : decode cX5_init 4 = .ok (.aload_n 0, 1) := by decide +kernel
theorem dX5_init_5 : decode cX5_init 5 = .ok (.bipush 10, 2) := by decide +kernel
theorem dX5_init_7 : decode cX5_init 7 = .ok (.iconst 5, 1) := by decide +kernel
theorem dX5_init_8 : decode cX5_init 8 = .ok (.multianewarray 7 2, 4) := by decide +kernel
theorem dX5_init_12 : decode cX5_init 12 = .ok (.putfield 9, 3) := by decide +kernel
theorem dX5_init_15 : decode cX5_init 15 = .ok (.aload_n 0, 1) := by decide +kernel
theorem dX5_init_16 : decode cX5_init 16 = .ok (.iconst 0, 1) := by decide +kernel
theorem dX5_init_17 : decode cX5_init 17 = .ok (.anewarray 14, 3) := by decide +kernel
theorem dX5_init_20 : decode cX5_init 20 = .ok (.putfield 16, 3) := by decide +kernel
theorem dX5_init_23 : decode cX5_init 23 = .ok (.aload_n 0, 1) := by decide +kernel
theorem dX5_init_24 : decode cX5_init 24 = .ok (.iconst 0, 1) := by decide +kernel
theorem dX5_init_25 : decode cX5_init 25 = .ok (.anewarray 14, 3) := by decide +kernel
theorem dX5_init_28 : decode cX5_init 28 = .ok (.putfield 19, 3) := by decide +kernel
theorem dX5_init_31 : decode cX5_init 31 = .ok (.return_, 1) := by decide +kernel
theorem dX5_more_0 : decode cX5_more 0 = .ok (.aload_n 0, 1) := by decide +kernel
theorem dX5_more_1 : decode cX5_more 1 = .ok (.arraylength, 1) := by decide +kernel
theorem dX5_more_2 : decode cX5_more 2 = .ok (.iconst 1, 1) := by decide +kernel
theorem dX5_more_3 : decode cX5_more 3 = .ok (.iadd, 1) := by decide +kernel
theorem dX5_more_4 : decode cX5_more 4 = .ok (.anewarray 14, 3) := by decide +kernel
theorem dX5_more_7 : decode cX5_more 7 = .ok (.astore_n 2, 1) := by decide +kernel
theorem dX5_more_8 : decode cX5_more 8 = .ok (.iconst 0, 1) := by decide +kernel
theorem dX5_more_9 : decode cX5_more 9 = .ok (.istore_n 3, 1) := by decide +kernel
theorem dX5_more_10 : decode cX5_more 10 = .ok (.iload_n 3, 1) := by decide +kernel
theorem dX5_more_11 : decode cX5_more 11 = .ok (.aload_n 0, 1) := by decide +kernel
theorem dX5_more_12 : decode cX5_more 12 = .ok (.arraylength, 1) := by decide +kernel
theorem dX5_more_13 : decode cX5_more 13 = .ok (.if_icmp .ge 15, 3) := by decide +kernel
theorem dX5_more_16 : decode cX5_more 16 = .ok (.aload_n 2, 1) := by decide +kernel
theorem dX5_more_17 : decode cX5_more 17 = .ok (.iload_n 3, 1) := by decide +kernel
theorem dX5_more_18 : decode cX5_more 18 = .ok (.aload_n 0, 1) := by decide +kernel
theorem dX5_more_19 : decode cX5_more 19 = .ok (.iload_n 3, 1) := by decide +kernel
theorem dX5_more_20 : decode cX5_more 20 = .ok (.aaload, 1) := by decide +kernel
theorem dX5_more_21 : decode cX5_more 21 = .ok (.aastore, 1) := by decide +kernel
theorem dX5_more_22 : decode cX5_more 22 = .ok (.iinc 3 1, 3) := by decide +kernel
theorem dX5_more_25 : decode cX5_more 25 = .ok (.goto (-15), 3) := by decide +kernel
theorem dX5_more_28 : decode cX5_more 28 = .ok (.aload_n 2, 1) := by decide +kernel
theorem dX5_more_29 : decode cX5_more 29 = .ok (.aload_n 0, 1) := by decide +kernel
theorem dX5_more_30 : decode cX5_more 30 = .ok (.arraylength, 1) := by decide +kernel
theorem dX5_more_31 : decode cX5_more 31 = .ok (.aload_n 1, 1) := by decide +kernel
theorem dX5_more_32 : decode cX5_more 32 = .ok (.aastore, 1) := by decide +kernel
theorem dX5_more_33 : decode cX5_more 33 = .ok (.aload_n 2, 1) := by decide +kernel
theorem dX5_more_34 : decode cX5_more 34 = .ok (.areturn, 1) := by decide +kernel
theorem dX5_all_0 : decode cX5_all 0 = .ok (.aload_n 0, 1) := by decide +kernel
theorem dX5_all_1 : decode cX5_all 1 = .ok (.arraylength, 1) := by decide +kernel
theorem dX5_all_2 : decode cX5_all 2 = .ok (.anewarray 14, 3) := by decide +kernel
theorem dX5_all_5 : decode cX5_all 5 = .ok (.astore_n 1, 1) := by decide +kernel
theorem dX5_all_6 : decode cX5_all 6 = .ok (.iconst 0, 1) := by decide +kernel
theorem dX5_all_7 : decode cX5_all 7 = .ok (.istore_n 2, 1) := by decide +kernel
theorem dX5_all_8 : decode cX5_all 8 = .ok (.iload_n 2, 1) := by decide +kernel
theorem dX5_all_9 : decode cX5_all 9 = .ok (.aload_n 0, 1) := by decide +kernel
theorem dX5_all_10 : decode cX5_all 10 = .ok (.arraylength, 1) := by decide +kernel
theorem dX5_all_11 : decode cX5_all 11 = .ok (.if_icmp .ge 21, 3) := by decide +kernel
theorem dX5_all_14 : decode cX5_all 14 = .ok (.aload_n 1, 1) := by decide +kernel
theorem dX5_all_15 : decode cX5_all 15 = .ok (.iload_n 2, 1) := by decide +kernel
theorem dX5_all_16 : decode cX5_all 16 = .ok (.aload_n 0, 1) := by decide +kernel
theorem dX5_all_17 : decode cX5_all 17 = .ok (.iload_n 2, 1) := by decide +kernel
theorem dX5_all_18 : decode cX5_all 18 = .ok (.aaload, 1) := by decide +kernel
theorem dX5_all_19 : decode cX5_all 19 = .ok (.invokevirtual 22, 3) := by decide +kernel
theorem dX5_all_22 : decode cX5_all 22 = .ok (.checkcast 14, 3) := by decide +kernel
theorem dX5_all_25 : decode cX5_all 25 = .ok (.aastore, 1) := by decide +kernel
theorem dX5_all_26 : decode cX5_all 26 = .ok (.iinc 2 1, 3) := by decide +kernel
theorem dX5_all_29 : decode cX5_all 29 = .ok (.goto (-21), 3) := by decide +kernel
theorem dX5_all_32 : decode cX5_all 32 = .ok (.aload_n 1, 1) := by decide +kernel
theorem dX5_all_33 : decode cX5_all 33 = .ok (.areturn, 1) := by decide +kernel
theorem dX5_moon_0 : decode cX5_moon 0 = .ok (.bipush 8, 2) := by decide +kernel
theorem dX5_moon_2 : decode cX5_moon 2 = .ok (.newarray .int, 2) := by decide +kernel
theorem dX5_moon_4 : decode cX5_moon 4 = .ok (.dup, 1) := by decide +kernel
theorem dX5_moon_5 : decode cX5_moon 5 = .ok (.iconst 0, 1) := by decide +kernel
theorem dX5_moon_6 : decode cX5_moon 6 = .ok (.iconst 0, 1) := by decide +kernel
theorem dX5_moon_7 : decode cX5_moon 7 = .ok (.iastore, 1) := by decide +kernel
theorem dX5_moon_8 : decode cX5_moon 8 = .ok (.dup, 1) := by decide +kernel
theorem dX5_moon_9 : decode cX5_moon 9 = .ok (.iconst 1, 1) := by decide +kernel
theorem dX5_moon_10 : decode cX5_moon 10 = .ok (.iconst 1, 1) := by decide +kernel
theorem dX5_moon_11 : decode cX5_moon 11 = .ok (.iastore, 1) := by decide +kernel
theorem dX5_moon_12 : decode cX5_moon 12 = .ok (.dup, 1) := by decide +kernel
theorem dX5_moon_13 : decode cX5_moon 13 = .ok (.iconst 2, 1) := by decide +kernel
theorem dX5_moon_14 : decode cX5_moon 14 = .ok (.iconst 2, 1) := by decide +kernel
theorem dX5_moon_15 : decode cX5_moon 15 = .ok (.iastore, 1) := by decide +kernel
theorem dX5_moon_16 : decode cX5_moon 16 = .ok (.dup, 1) := by decide +kernel
theorem dX5_moon_17 : decode cX5_moon 17 = .ok (.iconst 3, 1) := by decide +kernel
theorem dX5_moon_18 : decode cX5_moon 18 = .ok (.iconst 3, 1) := by decide +kernel
theorem dX5_moon_19 : decode cX5_moon 19 = .ok (.iastore, 1) := by decide +kernel
theorem dX5_moon_20 : decode cX5_moon 20 = .ok (.dup, 1) := by decide +kernel
theorem dX5_moon_21 : decode cX5_moon 21 = .ok (.iconst 4, 1) := by decide +kernel
theorem dX5_moon_22 : decode cX5_moon 22 = .ok (.iconst 4, 1) := by decide +kernel
theorem dX5_moon_23 : decode cX5_moon 23 = .ok (.iastore, 1) := by decide +kernel
theorem dX5_moon_24 : decode cX5_moon 24 = .ok (.dup, 1) := by decide +kernel
theorem dX5_moon_25 : decode cX5_moon 25 = .ok (.iconst 5, 1) := by decide +kernel
theorem dX5_moon_26 : decode cX5_moon 26 = .ok (.iconst 3, 1) := by decide +kernel
theorem dX5_moon_27 : decode cX5_moon 27 = .ok (.iastore, 1) := by decide +kernel
theorem dX5_moon_28 : decode cX5_moon 28 = .ok (.dup, 1) := by decide +kernel
theorem dX5_moon_29 : decode cX5_moon 29 = .ok (.bipush 6, 2) := by decide +kernel
theorem dX5_moon_31 : decode cX5_moon 31 = .ok (.iconst 2, 1) := by decide +kernel
theorem dX5_moon_32 : decode cX5_moon 32 = .ok (.iastore, 1) := by decide +kernel
theorem dX5_moon_33 : decode cX5_moon 33 = .ok (.dup, 1) := by decide +kernel
theorem dX5_moon_34 : decode cX5_moon 34 = .ok (.bipush 7, 2) := by decide +kernel
theorem dX5_moon_36 : decode cX5_moon 36 = .ok (.iconst 1, 1) := by decide +kernel
theorem dX5_moon_37 : decode cX5_moon 37 = .ok (.iastore, 1) := by decide +kernel
theorem dX5_moon_38 : decode cX5_moon 38 = .ok (.astore_n 1, 1) := by decide +kernel
theorem dX5_moon_39 : decode cX5_moon 39 = .ok (.aload_n 1, 1) := by decide +kernel
theorem dX5_moon_40 : decode cX5_moon 40 = .ok (.iload_n 0, 1) := by decide +kernel
theorem dX5_moon_41 : decode cX5_moon 41 = .ok (.bipush 8, 2) := by decide +kernel
theorem dX5_moon_43 : decode cX5_moon 43 = .ok (.irem, 1) := by decide +kernel
theorem dX5_moon_44 : decode cX5_moon 44 = .ok (.iaload, 1) := by decide +kernel
theorem dX5_moon_45 : decode cX5_moon 45 = .ok (.ireturn, 1) := by decide +kernel
theorem dX5_lit_0 : decode cX5_lit 0 = .ok (.aload_n 0, 1) := by decide +kernel
theorem dX5_lit_1 : decode cX5_lit 1 = .ok (.getfield 16, 3) := by decide +kernel
theorem dX5_lit_4 : decode cX5_lit 4 = .ok (.astore_n 2, 1) := by decide +kernel
theorem dX5_lit_5 : decode cX5_lit 5 = .ok (.aload_n 2, 1) := by decide +kernel
theorem dX5_lit_6 : decode cX5_lit 6 = .ok (.arraylength, 1) := by decide +kernel
theorem dX5_lit_7 : decode cX5_lit 7 = .ok (.istore_n 3, 1) := by decide +kernel
theorem dX5_lit_8 : decode cX5_lit 8 = .ok (.iconst 0, 1) := by decide +kernel
theorem dX5_lit_9 : decode cX5_lit 9 = .ok (.istore 4, 2) := by decide +kernel
theorem dX5_lit_11 : decode cX5_lit 11 = .ok (.iload 4, 2) := by decide +kernel
theorem dX5_lit_13 : decode cX5_lit 13 = .ok (.iload_n 3, 1) := by decide +kernel
theorem dX5_lit_14 : decode cX5_lit 14 = .ok (.if_icmp .ge 45, 3) := by decide +kernel
theorem dX5_lit_17 : decode cX5_lit 17 = .ok (.aload_n 2, 1) := by decide +kernel
theorem dX5_lit_18 : decode cX5_lit 18 = .ok (.iload 4, 2) := by decide +kernel
theorem dX5_lit_20 : decode cX5_lit 20 = .ok (.aaload, 1) := by decide +kernel
theorem dX5_lit_21 : decode cX5_lit 21 = .ok (.astore 5, 2) := by decide +kernel
theorem dX5_lit_23 : decode cX5_lit 23 = .ok (.aload 5, 2) := by decide +kernel
theorem dX5_lit_25 : decode cX5_lit 25 = .ok (.iconst 1, 1) := by decide +kernel
theorem dX5_lit_26 : decode cX5_lit 26 = .ok (.iaload, 1) := by decide +kernel
theorem dX5_lit_27 : decode cX5_lit 27 = .ok (.iconst 1, 1) := by decide +kernel
theorem dX5_lit_28 : decode cX5_lit 28 = .ok (.if_icmp .ne 25, 3) := by decide +kernel
theorem dX5_lit_31 : decode cX5_lit 31 = .ok (.aload 5, 2) := by decide +kernel
theorem dX5_lit_33 : decode cX5_lit 33 = .ok (.iconst 0, 1) := by decide +kernel
theorem dX5_lit_34 : decode cX5_lit 34 = .ok (.iaload, 1) := by decide +kernel
theorem dX5_lit_35 : decode cX5_lit 35 = .ok (.iload_n 1, 1) := by decide +kernel
theorem dX5_lit_36 : decode cX5_lit 36 = .ok (.iconst 1, 1) := by decide +kernel
theorem dX5_lit_37 : decode cX5_lit 37 = .ok (.isub, 1) := by decide +kernel
theorem dX5_lit_38 : decode cX5_lit 38 = .ok (.if_icmp .lt 15, 3) := by decide +kernel
theorem dX5_lit_41 : decode cX5_lit 41 = .ok (.aload 5, 2) := by decide +kernel
theorem dX5_lit_43 : decode cX5_lit 43 = .ok (.iconst 0, 1) := by decide +kernel
theorem dX5_lit_44 : decode cX5_lit 44 = .ok (.iaload, 1) := by decide +kernel
theorem dX5_lit_45 : decode cX5_lit 45 = .ok (.iload_n 1, 1) := by decide +kernel
theorem dX5_lit_46 : decode cX5_lit 46 = .ok (.iconst 1, 1) := by decide +kernel
theorem dX5_lit_47 : decode cX5_lit 47 = .ok (.iadd, 1) := by decide +kernel
theorem dX5_lit_48 : decode cX5_lit 48 = .ok (.if_icmp .gt 5, 3) := by decide +kernel
theorem dX5_lit_51 : decode cX5_lit 51 = .ok (.iconst 1, 1) := by decide +kernel
theorem dX5_lit_52 : decode cX5_lit 52 = .ok (.ireturn, 1) := by decide +kernel
theorem dX5_lit_53 : decode cX5_lit 53 = .ok (.iinc 4 1, 3) := by decide +kernel
theorem dX5_lit_56 : decode cX5_lit 56 = .ok (.goto (-45), 3) := by decide +kernel
theorem dX5_lit_59 : decode cX5_lit 59 = .ok (.iconst 0, 1) := by decide +kernel
theorem dX5_lit_60 : decode cX5_lit 60 = .ok (.ireturn, 1) := by decide +kernel
theorem dX5_isIn_0 : decode cX5_isIn 0 = .ok (.aload_n 1, 1) := by decide +kernel
theorem dX5_isIn_1 : decode cX5_isIn 1 = .ok (.iconst 5, 1) := by decide +kernel
theorem dX5_isIn_2 : decode cX5_isIn 2 = .ok (.iaload, 1) := by decide +kernel
theorem dX5_isIn_3 : decode cX5_isIn 3 = .ok (.ifCond .ne 14, 3) := by decide +kernel
theorem dX5_isIn_6 : decode cX5_isIn 6 = .ok (.aload_n 1, 1) := by decide +kernel
theorem dX5_isIn_7 : decode cX5_isIn 7 = .ok (.iconst 0, 1) := by decide +kernel
theorem dX5_isIn_8 : decode cX5_isIn 8 = .ok (.iaload, 1) := by decide +kernel
theorem dX5_isIn_9 : decode cX5_isIn 9 = .ok (.iload_n 2, 1) := by decide +kernel
theorem dX5_isIn_10 : decode cX5_isIn 10 = .ok (.if_icmp .ne 7, 3) := by decide +kernel
theorem dX5_isIn_13 : decode cX5_isIn 13 = .ok (.iconst 1, 1) := by decide +kernel
theorem dX5_isIn_14 : decode cX5_isIn 14 = .ok (.goto 4, 3) := by decide +kernel
theorem dX5_isIn_17 : decode cX5_isIn 17 = .ok (.iconst 0, 1) := by decide +kernel
theorem dX5_isIn_18 : decode cX5_isIn 18 = .ok (.ireturn, 1) := by decide +kernel
set_option maxRecDepth 20000 in
theorem ggX5_whispers_X5_isIn : GoodIn wsX5_whispers wsX5_isIn := goodIn_r _ [6] (by decide +kernel) (by decide +kernel)
set_option maxRecDepth 20000 in
theorem gX5_whispers_X5_isIn : GoodIn wsX5_whispers (wsV RX5 35 RX5 yX5_isIn wsX5_isIn) := goodIn_app (goodIn_of _ (by decide +kernel)) ggX5_whispers_X5_isIn
theorem dX5_whispers_0 : decode cX5_whispers 0 = .ok (.iconst 0, 1) := by decide +kernel
theorem dX5_whispers_1 : decode cX5_whispers 1 = .ok (.istore_n 2, 1) := by decide +kernel
theorem dX5_whispers_2 : decode cX5_whispers 2 = .ok (.aload_n 0, 1) := by decide +kernel
theorem dX5_whispers_3 : decode cX5_whispers 3 = .ok (.getfield 19, 3) := by decide +kernel
theorem dX5_whispers_6 : decode cX5_whispers 6 = .ok (.astore_n 3, 1) := by decide +kernel
theorem dX5_whispers_7 : decode cX5_whispers 7 = .ok (.aload_n 3, 1) := by decide +kernel
theorem dX5_whispers_8 : decode cX5_whispers 8 = .ok (.arraylength, 1) := by decide +kernel
theorem dX5_whispers_9 : decode cX5_whispers 9 = .ok (.istore 4, 2) := by decide +kernel
theorem dX5_whispers_11 : decode cX5_whispers 11 = .ok (.iconst 0, 1) := by decide +kernel
theorem dX5_whispers_12 : decode cX5_whispers 12 = .ok (.istore 5, 2) := by decide +kernel
theorem dX5_whispers_14 : decode cX5_whispers 14 = .ok (.iload 5, 2) := by decide +kernel
theorem dX5_whispers_16 : decode cX5_whispers 16 = .ok (.iload 4, 2) := by decide +kernel
theorem dX5_whispers_18 : decode cX5_whispers 18 = .ok (.if_icmp .ge 32, 3) := by decide +kernel
theorem dX5_whispers_21 : decode cX5_whispers 21 = .ok (.aload_n 3, 1) := by decide +kernel
theorem dX5_whispers_22 : decode cX5_whispers 22 = .ok (.iload 5, 2) := by decide +kernel
theorem dX5_whispers_24 : decode cX5_whispers 24 = .ok (.aaload, 1) := by decide +kernel
theorem dX5_whispers_25 : decode cX5_whispers 25 = .ok (.astore 6, 2) := by decide +kernel
theorem dX5_whispers_27 : decode cX5_whispers 27 = .ok (.aload_n 0, 1) := by decide +kernel
theorem dX5_whispers_28 : decode cX5_whispers 28 = .ok (.aload 6, 2) := by decide +kernel
theorem dX5_whispers_30 : decode cX5_whispers 30 = .ok (.iload_n 1, 1) := by decide +kernel
theorem dX5_whispers_31 : decode cX5_whispers 31 = .ok (.invokevirtual 35, 3) := by decide +kernel
theorem dX5_whispers_34 : decode cX5_whispers 34 = .ok (.ifCond .eq 10, 3) := by decide +kernel
theorem dX5_whispers_37 : decode cX5_whispers 37 = .ok (.iload_n 2, 1) := by decide +kernel
theorem dX5_whispers_38 : decode cX5_whispers 38 = .ok (.aload 6, 2) := by decide +kernel
theorem dX5_whispers_40 : decode cX5_whispers 40 = .ok (.iconst 1, 1) := by decide +kernel
theorem dX5_whispers_41 : decode cX5_whispers 41 = .ok (.iaload, 1) := by decide +kernel
theorem dX5_whispers_42 : decode cX5_whispers 42 = .ok (.iadd, 1) := by decide +kernel
theorem dX5_whispers_43 : decode cX5_whispers 43 = .ok (.istore_n 2, 1) := by decide +kernel
theorem dX5_whispers_44 : decode cX5_whispers 44 = .ok (.iinc 5 1, 3) := by decide +kernel
theorem dX5_whispers_47 : decode cX5_whispers 47 = .ok (.goto (-33), 3) := by decide +kernel
theorem dX5_whispers_50 : decode cX5_whispers 50 = .ok (.iload_n 2, 1) := by decide +kernel
theorem dX5_whispers_51 : decode cX5_whispers 51 = .ok (.ireturn, 1) := by decide +kernel
set_option maxRecDepth 20000 in
theorem ggX5_pass_X5_all : GoodIn wsX5_pass wsX5_all := goodIn_r _ [13, 14, 15, 16, 17, 18, 19] (by decide +kernel) (by decide +kernel)
set_option maxRecDepth 20000 in
theorem gX5_pass_X5_all : GoodIn wsX5_pass (va_wsS RX5 27 yX5_all wsX5_all) := goodIn_app (goodIn_of _ (by decide +kernel)) ggX5_pass_X5_all
set_option maxRecDepth 20000 in
theorem ggX5_pass_X5_lit : GoodIn wsX5_pass wsX5_lit := goodIn_r _ [23, 2, 36, 37, 38, 39, 40] (by decide +kernel) (by decide +kernel)
set_option maxRecDepth 20000 in
theorem gX5_pass_X5_lit : GoodIn wsX5_pass (wsV RX5 39 RX5 yX5_lit wsX5_lit) := goodIn_app (goodIn_of _ (by decide +kernel)) ggX5_pass_X5_lit
set_option maxRecDepth 20000 in
theorem ggX5_pass_X5_whispers : GoodIn wsX5_pass wsX5_whispers := goodIn_r _ [27, 4, 28, 29, 30, 12, 31, 36, 37, 38, 39, 40] (by decide +kernel) (by decide +kernel)
set_option maxRecDepth 20000 in
theorem gX5_pass_X5_whispers : GoodIn wsX5_pass (wsV RX5 43 RX5 yX5_whispers wsX5_whispers) := goodIn_app (goodIn_of _ (by decide +kernel)) ggX5_pass_X5_whispers
set_option maxRecDepth 20000 in
theorem ggX5_pass_X5_moon : GoodIn wsX5_pass wsX5_moon := goodIn_r _ [34, 35] (by decide +kernel) (by decide +kernel)
set_option maxRecDepth 20000 in
theorem gX5_pass_X5_moon : GoodIn wsX5_pass (va_wsS RX5 47 yX5_moon wsX5_moon) := goodIn_app (goodIn_of _ (by decide +kernel)) ggX5_pass_X5_moon
set_option maxRecDepth 20000 in
theorem ggX5_pass_X5_isIn : GoodIn wsX5_pass wsX5_isIn := goodIn_r _ [31] (by decide +kernel) (by decide +kernel)
set_option maxRecDepth 20000 in
theorem gX5_pass_X5_isIn : GoodIn wsX5_pass (wsV RX5 35 RX5 yX5_isIn wsX5_isIn) := goodIn_app (goodIn_of _ (by decide +kernel)) ggX5_pass_X5_isIn
theorem dX5_pass_0 : decode cX5_pass 0 = .ok (.aload_n 0, 1) := by decide +kernel
theorem dX5_pass_1 : decode cX5_pass 1 = .ok (.getfield 9, 3) := by decide +kernel
theorem dX5_pass_4 : decode cX5_pass 4 = .ok (.invokestatic 27, 3) := by decide +kernel
theorem dX5_pass_7 : decode cX5_pass 7 = .ok (.astore_n 1, 1) := by decide +kernel
theorem dX5_pass_8 : decode cX5_pass 8 = .ok (.iconst 0, 1) := by decide +kernel
theorem dX5_pass_9 : decode cX5_pass 9 = .ok (.istore_n 2, 1) := by decide +kernel
theorem dX5_pass_10 : decode cX5_pass 10 = .ok (.iload_n 2, 1) := by decide +kernel
theorem dX5_pass_11 : decode cX5_pass 11 = .ok (.bipush 10, 2) := by decide +kernel
theorem dX5_pass_13 : decode cX5_pass 13 = .ok (.if_icmp .ge 119, 3) := by decide +kernel
theorem dX5_pass_16 : decode cX5_pass 16 = .ok (.aload_n 0, 1) := by decide +kernel
theorem dX5_pass_17 : decode cX5_pass 17 = .ok (.iload_n 2, 1) := by decide +kernel
theorem dX5_pass_18 : decode cX5_pass 18 = .ok (.invokevirtual 39, 3) := by decide +kernel
theorem dX5_pass_21 : decode cX5_pass 21 = .ok (.ifCond .ne 6, 3) := by decide +kernel
theorem dX5_pass_24 : decode cX5_pass 24 = .ok (.goto 102, 3) := by decide +kernel
theorem dX5_pass_27 : decode cX5_pass 27 = .ok (.iconst (-1), 1) := by decide +kernel
theorem dX5_pass_28 : decode cX5_pass 28 = .ok (.istore_n 3, 1) := by decide +kernel
theorem dX5_pass_29 : decode cX5_pass 29 = .ok (.iload_n 2, 1) := by decide +kernel
theorem dX5_pass_30 : decode cX5_pass 30 = .ok (.bipush 9, 2) := by decide +kernel
theorem dX5_pass_32 : decode cX5_pass 32 = .ok (.if_icmp .ge 17, 3) := by decide +kernel
theorem dX5_pass_35 : decode cX5_pass 35 = .ok (.aload_n 0, 1) := by decide +kernel
theorem dX5_pass_36 : decode cX5_pass 36 = .ok (.iload_n 2, 1) := by decide +kernel
theorem dX5_pass_37 : decode cX5_pass 37 = .ok (.iconst 1, 1) := by decide +kernel
theorem dX5_pass_38 : decode cX5_pass 38 = .ok (.iadd, 1) := by decide +kernel
theorem dX5_pass_39 : decode cX5_pass 39 = .ok (.invokevirtual 39, 3) := by decide +kernel
theorem dX5_pass_42 : decode cX5_pass 42 = .ok (.ifCond .ne 7, 3) := by decide +kernel
theorem dX5_pass_45 : decode cX5_pass 45 = .ok (.iload_n 2, 1) := by decide +kernel
theorem dX5_pass_46 : decode cX5_pass 46 = .ok (.iconst 1, 1) := by decide +kernel
theorem dX5_pass_47 : decode cX5_pass 47 = .ok (.iadd, 1) := by decide +kernel
theorem dX5_pass_48 : decode cX5_pass 48 = .ok (.istore_n 3, 1) := by decide +kernel
theorem dX5_pass_49 : decode cX5_pass 49 = .ok (.iload_n 2, 1) := by decide +kernel
theorem dX5_pass_50 : decode cX5_pass 50 = .ok (.ifCond .le 17, 3) := by decide +kernel
theorem dX5_pass_53 : decode cX5_pass 53 = .ok (.aload_n 0, 1) := by decide +kernel
theorem dX5_pass_54 : decode cX5_pass 54 = .ok (.iload_n 2, 1) := by decide +kernel
theorem dX5_pass_55 : decode cX5_pass 55 = .ok (.iconst 1, 1) := by decide +kernel
theorem dX5_pass_56 : decode cX5_pass 56 = .ok (.isub, 1) := by decide +kernel
theorem dX5_pass_57 : decode cX5_pass 57 = .ok (.invokevirtual 39, 3) := by decide +kernel
theorem dX5_pass_60 : decode cX5_pass 60 = .ok (.ifCond .ne 7, 3) := by decide +kernel
theorem dX5_pass_63 : decode cX5_pass 63 = .ok (.iload_n 2, 1) := by decide +kernel
theorem dX5_pass_64 : decode cX5_pass 64 = .ok (.iconst 1, 1) := by decide +kernel
theorem dX5_pass_65 : decode cX5_pass 65 = .ok (.isub, 1) := by decide +kernel
theorem dX5_pass_66 : decode cX5_pass 66 = .ok (.istore_n 3, 1) := by decide +kernel
theorem dX5_pass_67 : decode cX5_pass 67 = .ok (.iconst 0, 1) := by decide +kernel
theorem dX5_pass_68 : decode cX5_pass 68 = .ok (.istore 4, 2) := by decide +kernel
theorem dX5_pass_70 : decode cX5_pass 70 = .ok (.iload 4, 2) := by decide +kernel
theorem dX5_pass_72 : decode cX5_pass 72 = .ok (.iconst 5, 1) := by decide +kernel
theorem dX5_pass_73 : decode cX5_pass 73 = .ok (.if_icmp .ge 53, 3) := by decide +kernel
theorem dX5_pass_76 : decode cX5_pass 76 = .ok (.iload_n 3, 1) := by decide +kernel
theorem dX5_pass_77 : decode cX5_pass 77 = .ok (.ifCond .lt 49, 3) := by decide +kernel
theorem dX5_pass_80 : decode cX5_pass 80 = .ok (.aload_n 1, 1) := by decide +kernel
theorem dX5_pass_81 : decode cX5_pass 81 = .ok (.iload_n 2, 1) := by decide +kernel
theorem dX5_pass_82 : decode cX5_pass 82 = .ok (.aaload, 1) := by decide +kernel
theorem dX5_pass_83 : decode cX5_pass 83 = .ok (.iload 4, 2) := by decide +kernel
theorem dX5_pass_85 : decode cX5_pass 85 = .ok (.dup2, 1) := by decide +kernel
theorem dX5_pass_86 : decode cX5_pass 86 = .ok (.iaload, 1) := by decide +kernel
theorem dX5_pass_87 : decode cX5_pass 87 = .ok (.aload_n 0, 1) := by decide +kernel
theorem dX5_pass_88 : decode cX5_pass 88 = .ok (.getfield 9, 3) := by decide +kernel
theorem dX5_pass_91 : decode cX5_pass 91 = .ok (.iload_n 2, 1) := by decide +kernel
theorem dX5_pass_92 : decode cX5_pass 92 = .ok (.aaload, 1) := by decide +kernel
theorem dX5_pass_93 : decode cX5_pass 93 = .ok (.iload 4, 2) := by decide +kernel
theorem dX5_pass_95 : decode cX5_pass 95 = .ok (.iaload, 1) := by decide +kernel
theorem dX5_pass_96 : decode cX5_pass 96 = .ok (.iconst 2, 1) := by decide +kernel
theorem dX5_pass_97 : decode cX5_pass 97 = .ok (.idiv, 1) := by decide +kernel
theorem dX5_pass_98 : decode cX5_pass 98 = .ok (.isub, 1) := by decide +kernel
theorem dX5_pass_99 : decode cX5_pass 99 = .ok (.iastore, 1) := by decide +kernel
theorem dX5_pass_100 : decode cX5_pass 100 = .ok (.aload_n 1, 1) := by decide +kernel
theorem dX5_pass_101 : decode cX5_pass 101 = .ok (.iload_n 3, 1) := by decide +kernel
theorem dX5_pass_102 : decode cX5_pass 102 = .ok (.aaload, 1) := by decide +kernel
theorem dX5_pass_103 : decode cX5_pass 103 = .ok (.iload 4, 2) := by decide +kernel
theorem dX5_pass_105 : decode cX5_pass 105 = .ok (.dup2, 1) := by decide +kernel
theorem dX5_pass_106 : decode cX5_pass 106 = .ok (.iaload, 1) := by decide +kernel
theorem dX5_pass_107 : decode cX5_pass 107 = .ok (.aload_n 0, 1) := by decide +kernel
theorem dX5_pass_108 : decode cX5_pass 108 = .ok (.getfield 9, 3) := by decide +kernel
theorem dX5_pass_111 : decode cX5_pass 111 = .ok (.iload_n 2, 1) := by decide +kernel
theorem dX5_pass_112 : decode cX5_pass 112 = .ok (.aaload, 1) := by decide +kernel
theorem dX5_pass_113 : decode cX5_pass 113 = .ok (.iload 4, 2) := by decide +kernel
theorem dX5_pass_115 : decode cX5_pass 115 = .ok (.iaload, 1) := by decide +kernel
theorem dX5_pass_116 : decode cX5_pass 116 = .ok (.iconst 2, 1) := by decide +kernel
theorem dX5_pass_117 : decode cX5_pass 117 = .ok (.idiv, 1) := by decide +kernel
theorem dX5_pass_118 : decode cX5_pass 118 = .ok (.iadd, 1) := by decide +kernel
theorem dX5_pass_119 : decode cX5_pass 119 = .ok (.iastore, 1) := by decide +kernel
theorem dX5_pass_120 : decode cX5_pass 120 = .ok (.iinc 4 1, 3) := by decide +kernel
theorem dX5_pass_123 : decode cX5_pass 123 = .ok (.goto (-53), 3) := by decide +kernel
theorem dX5_pass_126 : decode cX5_pass 126 = .ok (.iinc 2 1, 3) := by decide +kernel
theorem dX5_pass_129 : decode cX5_pass 129 = .ok (.goto (-119), 3) := by decide +kernel
theorem dX5_pass_132 : decode cX5_pass 132 = .ok (.aload_n 1, 1) := by decide +kernel
theorem dX5_pass_133 : decode cX5_pass 133 = .ok (.astore_n 2, 1) := by decide +kernel
theorem dX5_pass_134 : decode cX5_pass 134 = .ok (.aload_n 2, 1) := by decide +kernel
theorem dX5_pass_135 : decode cX5_pass 135 = .ok (.arraylength, 1) := by decide +kernel
theorem dX5_pass_136 : decode cX5_pass 136 = .ok (.istore_n 3, 1) := by decide +kernel
theorem dX5_pass_137 : decode cX5_pass 137 = .ok (.iconst 0, 1) := by decide +kernel
theorem dX5_pass_138 : decode cX5_pass 138 = .ok (.istore 4, 2) := by decide +kernel
theorem dX5_pass_140 : decode cX5_pass 140 = .ok (.iload 4, 2) := by decide +kernel
theorem dX5_pass_142 : decode cX5_pass 142 = .ok (.iload_n 3, 1) := by decide +kernel
theorem dX5_pass_143 : decode cX5_pass 143 = .ok (.if_icmp .ge 47, 3) := by decide +kernel
theorem dX5_pass_146 : decode cX5_pass 146 = .ok (.aload_n 2, 1) := by decide +kernel
theorem dX5_pass_147 : decode cX5_pass 147 = .ok (.iload 4, 2) := by decide +kernel
theorem dX5_pass_149 : decode cX5_pass 149 = .ok (.aaload, 1) := by decide +kernel
theorem dX5_pass_150 : decode cX5_pass 150 = .ok (.astore 5, 2) := by decide +kernel
theorem dX5_pass_152 : decode cX5_pass 152 = .ok (.iconst 0, 1) := by decide +kernel
theorem dX5_pass_153 : decode cX5_pass 153 = .ok (.istore 6, 2) := by decide +kernel
theorem dX5_pass_155 : decode cX5_pass 155 = .ok (.iload 6, 2) := by decide +kernel
theorem dX5_pass_157 : decode cX5_pass 157 = .ok (.iconst 5, 1) := by decide +kernel
theorem dX5_pass_158 : decode cX5_pass 158 = .ok (.if_icmp .ge 26, 3) := by decide +kernel
theorem dX5_pass_161 : decode cX5_pass 161 = .ok (.aload 5, 2) := by decide +kernel
theorem dX5_pass_163 : decode cX5_pass 163 = .ok (.iload 6, 2) := by decide +kernel
theorem dX5_pass_165 : decode cX5_pass 165 = .ok (.iaload, 1) := by decide +kernel
theorem dX5_pass_166 : decode cX5_pass 166 = .ok (.bipush 40, 2) := by decide +kernel
theorem dX5_pass_168 : decode cX5_pass 168 = .ok (.if_icmp .le 10, 3) := by decide +kernel
theorem dX5_pass_171 : decode cX5_pass 171 = .ok (.aload 5, 2) := by decide +kernel
theorem dX5_pass_173 : decode cX5_pass 173 = .ok (.iload 6, 2) := by decide +kernel
theorem dX5_pass_175 : decode cX5_pass 175 = .ok (.bipush 40, 2) := by decide +kernel
theorem dX5_pass_177 : decode cX5_pass 177 = .ok (.iastore, 1) := by decide +kernel
theorem dX5_pass_178 : decode cX5_pass 178 = .ok (.iinc 6 1, 3) := by decide +kernel
theorem dX5_pass_181 : decode cX5_pass 181 = .ok (.goto (-26), 3) := by decide +kernel
theorem dX5_pass_184 : decode cX5_pass 184 = .ok (.iinc 4 1, 3) := by decide +kernel
theorem dX5_pass_187 : decode cX5_pass 187 = .ok (.goto (-47), 3) := by decide +kernel
theorem dX5_pass_190 : decode cX5_pass 190 = .ok (.aload_n 0, 1) := by decide +kernel
theorem dX5_pass_191 : decode cX5_pass 191 = .ok (.aload_n 1, 1) := by decide +kernel
theorem dX5_pass_192 : decode cX5_pass 192 = .ok (.putfield 9, 3) := by decide +kernel
theorem dX5_pass_195 : decode cX5_pass 195 = .ok (.iconst 0, 1) := by decide +kernel
theorem dX5_pass_196 : decode cX5_pass 196 = .ok (.istore_n 2, 1) := by decide +kernel
theorem dX5_pass_197 : decode cX5_pass 197 = .ok (.iload_n 2, 1) := by decide +kernel
theorem dX5_pass_198 : decode cX5_pass 198 = .ok (.aload_n 0, 1) := by decide +kernel
theorem dX5_pass_199 : decode cX5_pass 199 = .ok (.getfield 16, 3) := by decide +kernel
theorem dX5_pass_202 : decode cX5_pass 202 = .ok (.arraylength, 1) := by decide +kernel
theorem dX5_pass_203 : decode cX5_pass 203 = .ok (.if_icmp .ge 94, 3) := by decide +kernel
theorem dX5_pass_206 : decode cX5_pass 206 = .ok (.aload_n 0, 1) := by decide +kernel
theorem dX5_pass_207 : decode cX5_pass 207 = .ok (.iload_n 2, 1) := by decide +kernel
theorem dX5_pass_208 : decode cX5_pass 208 = .ok (.invokevirtual 43, 3) := by decide +kernel
theorem dX5_pass_211 : decode cX5_pass 211 = .ok (.bipush 10, 2) := by decide +kernel
theorem dX5_pass_213 : decode cX5_pass 213 = .ok (.if_icmp .ge 6, 3) := by decide +kernel
theorem dX5_pass_216 : decode cX5_pass 216 = .ok (.goto 75, 3) := by decide +kernel
theorem dX5_pass_219 : decode cX5_pass 219 = .ok (.aload_n 0, 1) := by decide +kernel
theorem dX5_pass_220 : decode cX5_pass 220 = .ok (.getfield 9, 3) := by decide +kernel
theorem dX5_pass_223 : decode cX5_pass 223 = .ok (.aload_n 0, 1) := by decide +kernel
theorem dX5_pass_224 : decode cX5_pass 224 = .ok (.getfield 16, 3) := by decide +kernel
theorem dX5_pass_227 : decode cX5_pass 227 = .ok (.iload_n 2, 1) := by decide +kernel
theorem dX5_pass_228 : decode cX5_pass 228 = .ok (.aaload, 1) := by decide +kernel
theorem dX5_pass_229 : decode cX5_pass 229 = .ok (.iconst 0, 1) := by decide +kernel
theorem dX5_pass_230 : decode cX5_pass 230 = .ok (.iaload, 1) := by decide +kernel
theorem dX5_pass_231 : decode cX5_pass 231 = .ok (.aaload, 1) := by decide +kernel
theorem dX5_pass_232 : decode cX5_pass 232 = .ok (.astore_n 3, 1) := by decide +kernel
theorem dX5_pass_233 : decode cX5_pass 233 = .ok (.iconst 4, 1) := by decide +kernel
theorem dX5_pass_234 : decode cX5_pass 234 = .ok (.istore 4, 2) := by decide +kernel
theorem dX5_pass_236 : decode cX5_pass 236 = .ok (.iload 4, 2) := by decide +kernel
theorem dX5_pass_238 : decode cX5_pass 238 = .ok (.ifCond .le 53, 3) := by decide +kernel
theorem dX5_pass_241 : decode cX5_pass 241 = .ok (.aload_n 3, 1) := by decide +kernel
theorem dX5_pass_242 : decode cX5_pass 242 = .ok (.iload 4, 2) := by decide +kernel
theorem dX5_pass_244 : decode cX5_pass 244 = .ok (.iaload, 1) := by decide +kernel
theorem dX5_pass_245 : decode cX5_pass 245 = .ok (.aload_n 3, 1) := by decide +kernel
theorem dX5_pass_246 : decode cX5_pass 246 = .ok (.iload 4, 2) := by decide +kernel
theorem dX5_pass_248 : decode cX5_pass 248 = .ok (.iconst 1, 1) := by decide +kernel
theorem dX5_pass_249 : decode cX5_pass 249 = .ok (.isub, 1) := by decide +kernel
theorem dX5_pass_250 : decode cX5_pass 250 = .ok (.iaload, 1) := by decide +kernel
theorem dX5_pass_251 : decode cX5_pass 251 = .ok (.iadd, 1) := by decide +kernel
theorem dX5_pass_252 : decode cX5_pass 252 = .ok (.istore 5, 2) := by decide +kernel
theorem dX5_pass_254 : decode cX5_pass 254 = .ok (.aload_n 3, 1) := by decide +kernel
theorem dX5_pass_255 : decode cX5_pass 255 = .ok (.iload 4, 2) := by decide +kernel
theorem dX5_pass_257 : decode cX5_pass 257 = .ok (.iload 5, 2) := by decide +kernel
theorem dX5_pass_259 : decode cX5_pass 259 = .ok (.bipush 40, 2) := by decide +kernel
theorem dX5_pass_261 : decode cX5_pass 261 = .ok (.if_icmp .le 8, 3) := by decide +kernel
theorem dX5_pass_264 : decode cX5_pass 264 = .ok (.bipush 40, 2) := by decide +kernel
theorem dX5_pass_266 : decode cX5_pass 266 = .ok (.goto 5, 3) := by decide +kernel
theorem dX5_pass_269 : decode cX5_pass 269 = .ok (.iload 5, 2) := by decide +kernel
theorem dX5_pass_271 : decode cX5_pass 271 = .ok (.iastore, 1) := by decide +kernel
theorem dX5_pass_272 : decode cX5_pass 272 = .ok (.aload_n 3, 1) := by decide +kernel
theorem dX5_pass_273 : decode cX5_pass 273 = .ok (.iload 4, 2) := by decide +kernel
theorem dX5_pass_275 : decode cX5_pass 275 = .ok (.iconst 1, 1) := by decide +kernel
theorem dX5_pass_276 : decode cX5_pass 276 = .ok (.isub, 1) := by decide +kernel
theorem dX5_pass_277 : decode cX5_pass 277 = .ok (.iload 5, 2) := by decide +kernel
theorem dX5_pass_279 : decode cX5_pass 279 = .ok (.aload_n 3, 1) := by decide +kernel
theorem dX5_pass_280 : decode cX5_pass 280 = .ok (.iload 4, 2) := by decide +kernel
theorem dX5_pass_282 : decode cX5_pass 282 = .ok (.iaload, 1) := by decide +kernel
theorem dX5_pass_283 : decode cX5_pass 283 = .ok (.isub, 1) := by decide +kernel
theorem dX5_pass_284 : decode cX5_pass 284 = .ok (.iastore, 1) := by decide +kernel
theorem dX5_pass_285 : decode cX5_pass 285 = .ok (.iinc 4 (-1), 3) := by decide +kernel
theorem dX5_pass_288 : decode cX5_pass 288 = .ok (.goto (-52), 3) := by decide +kernel
theorem dX5_pass_291 : decode cX5_pass 291 = .ok (.iinc 2 1, 3) := by decide +kernel
theorem dX5_pass_294 : decode cX5_pass 294 = .ok (.goto (-97), 3) := by decide +kernel
theorem dX5_pass_297 : decode cX5_pass 297 = .ok (.aload_n 0, 1) := by decide +kernel
theorem dX5_pass_298 : decode cX5_pass 298 = .ok (.getfield 31, 3) := by decide +kernel
theorem dX5_pass_301 : decode cX5_pass 301 = .ok (.invokestatic 47, 3) := by decide +kernel
theorem dX5_pass_304 : decode cX5_pass 304 = .ok (.istore_n 2, 1) := by decide +kernel
theorem dX5_pass_305 : decode cX5_pass 305 = .ok (.iconst 0, 1) := by decide +kernel
theorem dX5_pass_306 : decode cX5_pass 306 = .ok (.istore_n 3, 1) := by decide +kernel
theorem dX5_pass_307 : decode cX5_pass 307 = .ok (.aload_n 0, 1) := by decide +kernel
theorem dX5_pass_308 : decode cX5_pass 308 = .ok (.getfield 19, 3) := by decide +kernel
theorem dX5_pass_311 : decode cX5_pass 311 = .ok (.astore 4, 2) := by decide +kernel
theorem dX5_pass_313 : decode cX5_pass 313 = .ok (.aload 4, 2) := by decide +kernel
theorem dX5_pass_315 : decode cX5_pass 315 = .ok (.arraylength, 1) := by decide +kernel
theorem dX5_pass_316 : decode cX5_pass 316 = .ok (.istore 5, 2) := by decide +kernel
theorem dX5_pass_318 : decode cX5_pass 318 = .ok (.iconst 0, 1) := by decide +kernel
theorem dX5_pass_319 : decode cX5_pass 319 = .ok (.istore 6, 2) := by decide +kernel
theorem dX5_pass_321 : decode cX5_pass 321 = .ok (.iload 6, 2) := by decide +kernel
theorem dX5_pass_323 : decode cX5_pass 323 = .ok (.iload 5, 2) := by decide +kernel
theorem dX5_pass_325 : decode cX5_pass 325 = .ok (.if_icmp .ge 148, 3) := by decide +kernel
theorem dX5_pass_328 : decode cX5_pass 328 = .ok (.aload 4, 2) := by decide +kernel
theorem dX5_pass_330 : decode cX5_pass 330 = .ok (.iload 6, 2) := by decide +kernel
theorem dX5_pass_332 : decode cX5_pass 332 = .ok (.aaload, 1) := by decide +kernel
theorem dX5_pass_333 : decode cX5_pass 333 = .ok (.astore 7, 2) := by decide +kernel
theorem dX5_pass_335 : decode cX5_pass 335 = .ok (.aload 7, 2) := by decide +kernel
theorem dX5_pass_337 : decode cX5_pass 337 = .ok (.iconst 5, 1) := by decide +kernel
theorem dX5_pass_338 : decode cX5_pass 338 = .ok (.iaload, 1) := by decide +kernel
theorem dX5_pass_339 : decode cX5_pass 339 = .ok (.iconst 1, 1) := by decide +kernel
theorem dX5_pass_340 : decode cX5_pass 340 = .ok (.if_icmp .eq 127, 3) := by decide +kernel
theorem dX5_pass_343 : decode cX5_pass 343 = .ok (.aload_n 0, 1) := by decide +kernel
theorem dX5_pass_344 : decode cX5_pass 344 = .ok (.getfield 16, 3) := by decide +kernel
theorem dX5_pass_347 : decode cX5_pass 347 = .ok (.aload 7, 2) := by decide +kernel
theorem dX5_pass_349 : decode cX5_pass 349 = .ok (.iconst 0, 1) := by decide +kernel
theorem dX5_pass_350 : decode cX5_pass 350 = .ok (.iaload, 1) := by decide +kernel
theorem dX5_pass_351 : decode cX5_pass 351 = .ok (.aaload, 1) := by decide +kernel
theorem dX5_pass_352 : decode cX5_pass 352 = .ok (.iconst 1, 1) := by decide +kernel
theorem dX5_pass_353 : decode cX5_pass 353 = .ok (.iaload, 1) := by decide +kernel
theorem dX5_pass_354 : decode cX5_pass 354 = .ok (.iconst 1, 1) := by decide +kernel
theorem dX5_pass_355 : decode cX5_pass 355 = .ok (.if_icmp .eq 112, 3) := by decide +kernel
theorem dX5_pass_358 : decode cX5_pass 358 = .ok (.iload_n 2, 1) := by decide +kernel
theorem dX5_pass_359 : decode cX5_pass 359 = .ok (.iconst 4, 1) := by decide +kernel
theorem dX5_pass_360 : decode cX5_pass 360 = .ok (.if_icmp .ne 6, 3) := by decide +kernel
theorem dX5_pass_363 : decode cX5_pass 363 = .ok (.goto 104, 3) := by decide +kernel
theorem dX5_pass_366 : decode cX5_pass 366 = .ok (.iconst 0, 1) := by decide +kernel
theorem dX5_pass_367 : decode cX5_pass 367 = .ok (.istore 8, 2) := by decide +kernel
theorem dX5_pass_369 : decode cX5_pass 369 = .ok (.aload_n 0, 1) := by decide +kernel
theorem dX5_pass_370 : decode cX5_pass 370 = .ok (.getfield 16, 3) := by decide +kernel
theorem dX5_pass_373 : decode cX5_pass 373 = .ok (.aload 7, 2) := by decide +kernel
theorem dX5_pass_375 : decode cX5_pass 375 = .ok (.iconst 0, 1) := by decide +kernel
theorem dX5_pass_376 : decode cX5_pass 376 = .ok (.iaload, 1) := by decide +kernel
theorem dX5_pass_377 : decode cX5_pass 377 = .ok (.aaload, 1) := by decide +kernel
theorem dX5_pass_378 : decode cX5_pass 378 = .ok (.iconst 0, 1) := by decide +kernel
theorem dX5_pass_379 : decode cX5_pass 379 = .ok (.iaload, 1) := by decide +kernel
theorem dX5_pass_380 : decode cX5_pass 380 = .ok (.istore 9, 2) := by decide +kernel
theorem dX5_pass_382 : decode cX5_pass 382 = .ok (.iload 9, 2) := by decide +kernel
theorem dX5_pass_384 : decode cX5_pass 384 = .ok (.iconst 1, 1) := by decide +kernel
theorem dX5_pass_385 : decode cX5_pass 385 = .ok (.isub, 1) := by decide +kernel
theorem dX5_pass_386 : decode cX5_pass 386 = .ok (.istore 10, 2) := by decide +kernel
theorem dX5_pass_388 : decode cX5_pass 388 = .ok (.iload 10, 2) := by decide +kernel
theorem dX5_pass_390 : decode cX5_pass 390 = .ok (.iload 9, 2) := by decide +kernel
theorem dX5_pass_392 : decode cX5_pass 392 = .ok (.iconst 1, 1) := by decide +kernel
theorem dX5_pass_393 : decode cX5_pass 393 = .ok (.iadd, 1) := by decide +kernel
theorem dX5_pass_394 : decode cX5_pass 394 = .ok (.if_icmp .gt 51, 3) := by decide +kernel
theorem dX5_pass_397 : decode cX5_pass 397 = .ok (.iconst 0, 1) := by decide +kernel
theorem dX5_pass_398 : decode cX5_pass 398 = .ok (.istore 11, 2) := by decide +kernel
theorem dX5_pass_400 : decode cX5_pass 400 = .ok (.iload 11, 2) := by decide +kernel
theorem dX5_pass_402 : decode cX5_pass 402 = .ok (.iconst 5, 1) := by decide +kernel
theorem dX5_pass_403 : decode cX5_pass 403 = .ok (.if_icmp .ge 36, 3) := by decide +kernel
theorem dX5_pass_406 : decode cX5_pass 406 = .ok (.iload 10, 2) := by decide +kernel
theorem dX5_pass_408 : decode cX5_pass 408 = .ok (.ifCond .lt 31, 3) := by decide +kernel
theorem dX5_pass_411 : decode cX5_pass 411 = .ok (.iload 10, 2) := by decide +kernel
theorem dX5_pass_413 : decode cX5_pass 413 = .ok (.bipush 10, 2) := by decide +kernel
theorem dX5_pass_415 : decode cX5_pass 415 = .ok (.if_icmp .ge 24, 3) := by decide +kernel
theorem dX5_pass_418 : decode cX5_pass 418 = .ok (.iload 8, 2) := by decide +kernel
theorem dX5_pass_420 : decode cX5_pass 420 = .ok (.aload_n 0, 1) := by decide +kernel
theorem dX5_pass_421 : decode cX5_pass 421 = .ok (.getfield 9, 3) := by decide +kernel
theorem dX5_pass_424 : decode cX5_pass 424 = .ok (.iload 10, 2) := by decide +kernel
theorem dX5_pass_426 : decode cX5_pass 426 = .ok (.aaload, 1) := by decide +kernel
theorem dX5_pass_427 : decode cX5_pass 427 = .ok (.iload 11, 2) := by decide +kernel
theorem dX5_pass_429 : decode cX5_pass 429 = .ok (.iaload, 1) := by decide +kernel
theorem dX5_pass_430 : decode cX5_pass 430 = .ok (.iadd, 1) := by decide +kernel
theorem dX5_pass_431 : decode cX5_pass 431 = .ok (.istore 8, 2) := by decide +kernel
theorem dX5_pass_433 : decode cX5_pass 433 = .ok (.iinc 11 1, 3) := by decide +kernel
theorem dX5_pass_436 : decode cX5_pass 436 = .ok (.goto (-36), 3) := by decide +kernel
theorem dX5_pass_439 : decode cX5_pass 439 = .ok (.iinc 10 1, 3) := by decide +kernel
theorem dX5_pass_442 : decode cX5_pass 442 = .ok (.goto (-54), 3) := by decide +kernel
theorem dX5_pass_445 : decode cX5_pass 445 = .ok (.aload 7, 2) := by decide +kernel
theorem dX5_pass_447 : decode cX5_pass 447 = .ok (.iconst 4, 1) := by decide +kernel
theorem dX5_pass_448 : decode cX5_pass 448 = .ok (.dup2, 1) := by decide +kernel
theorem dX5_pass_449 : decode cX5_pass 449 = .ok (.iaload, 1) := by decide +kernel
theorem dX5_pass_450 : decode cX5_pass 450 = .ok (.iload 8, 2) := by decide +kernel
theorem dX5_pass_452 : decode cX5_pass 452 = .ok (.iload_n 2, 1) := by decide +kernel
theorem dX5_pass_453 : decode cX5_pass 453 = .ok (.iconst 1, 1) := by decide +kernel
theorem dX5_pass_454 : decode cX5_pass 454 = .ok (.iadd, 1) := by decide +kernel
theorem dX5_pass_455 : decode cX5_pass 455 = .ok (.idiv, 1) := by decide +kernel
theorem dX5_pass_456 : decode cX5_pass 456 = .ok (.iadd, 1) := by decide +kernel
theorem dX5_pass_457 : decode cX5_pass 457 = .ok (.iastore, 1) := by decide +kernel
theorem dX5_pass_458 : decode cX5_pass 458 = .ok (.iload_n 3, 1) := by decide +kernel
theorem dX5_pass_459 : decode cX5_pass 459 = .ok (.iload 8, 2) := by decide +kernel
theorem dX5_pass_461 : decode cX5_pass 461 = .ok (.iload_n 2, 1) := by decide +kernel
theorem dX5_pass_462 : decode cX5_pass 462 = .ok (.iconst 1, 1) := by decide +kernel
theorem dX5_pass_463 : decode cX5_pass 463 = .ok (.iadd, 1) := by decide +kernel
theorem dX5_pass_464 : decode cX5_pass 464 = .ok (.idiv, 1) := by decide +kernel
theorem dX5_pass_465 : decode cX5_pass 465 = .ok (.iadd, 1) := by decide +kernel
theorem dX5_pass_466 : decode cX5_pass 466 = .ok (.istore_n 3, 1) := by decide +kernel
theorem dX5_pass_467 : decode cX5_pass 467 = .ok (.iinc 6 1, 3) := by decide +kernel
theorem dX5_pass_470 : decode cX5_pass 470 = .ok (.goto (-149), 3) := by decide +kernel
theorem dX5_pass_473 : decode cX5_pass 473 = .ok (.aload_n 0, 1) := by decide +kernel
theorem dX5_pass_474 : decode cX5_pass 474 = .ok (.getfield 19, 3) := by decide +kernel
theorem dX5_pass_477 : decode cX5_pass 477 = .ok (.astore 4, 2) := by decide +kernel
theorem dX5_pass_479 : decode cX5_pass 479 = .ok (.aload 4, 2) := by decide +kernel
theorem dX5_pass_481 : decode cX5_pass 481 = .ok (.arraylength, 1) := by decide +kernel
theorem dX5_pass_482 : decode cX5_pass 482 = .ok (.istore 5, 2) := by decide +kernel
theorem dX5_pass_484 : decode cX5_pass 484 = .ok (.iconst 0, 1) := by decide +kernel
theorem dX5_pass_485 : decode cX5_pass 485 = .ok (.istore 6, 2) := by decide +kernel
theorem dX5_pass_487 : decode cX5_pass 487 = .ok (.iload 6, 2) := by decide +kernel
theorem dX5_pass_489 : decode cX5_pass 489 = .ok (.iload 5, 2) := by decide +kernel
theorem dX5_pass_491 : decode cX5_pass 491 = .ok (.if_icmp .ge 110, 3) := by decide +kernel
theorem dX5_pass_494 : decode cX5_pass 494 = .ok (.aload 4, 2) := by decide +kernel
theorem dX5_pass_496 : decode cX5_pass 496 = .ok (.iload 6, 2) := by decide +kernel
theorem dX5_pass_498 : decode cX5_pass 498 = .ok (.aaload, 1) := by decide +kernel
theorem dX5_pass_499 : decode cX5_pass 499 = .ok (.astore 7, 2) := by decide +kernel
theorem dX5_pass_501 : decode cX5_pass 501 = .ok (.aload_n 0, 1) := by decide +kernel
theorem dX5_pass_502 : decode cX5_pass 502 = .ok (.getfield 9, 3) := by decide +kernel
theorem dX5_pass_505 : decode cX5_pass 505 = .ok (.aload_n 0, 1) := by decide +kernel
theorem dX5_pass_506 : decode cX5_pass 506 = .ok (.getfield 16, 3) := by decide +kernel
theorem dX5_pass_509 : decode cX5_pass 509 = .ok (.aload 7, 2) := by decide +kernel
theorem dX5_pass_511 : decode cX5_pass 511 = .ok (.iconst 0, 1) := by decide +kernel
theorem dX5_pass_512 : decode cX5_pass 512 = .ok (.iaload, 1) := by decide +kernel
theorem dX5_pass_513 : decode cX5_pass 513 = .ok (.aaload, 1) := by decide +kernel
theorem dX5_pass_514 : decode cX5_pass 514 = .ok (.iconst 0, 1) := by decide +kernel
theorem dX5_pass_515 : decode cX5_pass 515 = .ok (.iaload, 1) := by decide +kernel
theorem dX5_pass_516 : decode cX5_pass 516 = .ok (.aaload, 1) := by decide +kernel
theorem dX5_pass_517 : decode cX5_pass 517 = .ok (.astore 8, 2) := by decide +kernel
theorem dX5_pass_519 : decode cX5_pass 519 = .ok (.iconst 0, 1) := by decide +kernel
theorem dX5_pass_520 : decode cX5_pass 520 = .ok (.istore 9, 2) := by decide +kernel
theorem dX5_pass_522 : decode cX5_pass 522 = .ok (.iload 9, 2) := by decide +kernel
theorem dX5_pass_524 : decode cX5_pass 524 = .ok (.iconst 5, 1) := by decide +kernel
theorem dX5_pass_525 : decode cX5_pass 525 = .ok (.if_icmp .ge 70, 3) := by decide +kernel
theorem dX5_pass_528 : decode cX5_pass 528 = .ok (.aload 7, 2) := by decide +kernel
theorem dX5_pass_530 : decode cX5_pass 530 = .ok (.iconst 2, 1) := by decide +kernel
theorem dX5_pass_531 : decode cX5_pass 531 = .ok (.iaload, 1) := by decide +kernel
theorem dX5_pass_532 : decode cX5_pass 532 = .ok (.iconst 1, 1) := by decide +kernel
theorem dX5_pass_533 : decode cX5_pass 533 = .ok (.if_icmp .ne 62, 3) := by decide +kernel
theorem dX5_pass_536 : decode cX5_pass 536 = .ok (.aload 8, 2) := by decide +kernel
theorem dX5_pass_538 : decode cX5_pass 538 = .ok (.iload 9, 2) := by decide +kernel
theorem dX5_pass_540 : decode cX5_pass 540 = .ok (.iaload, 1) := by decide +kernel
theorem dX5_pass_541 : decode cX5_pass 541 = .ok (.ifCond .ne 6, 3) := by decide +kernel
theorem dX5_pass_544 : decode cX5_pass 544 = .ok (.goto 45, 3) := by decide +kernel
theorem dX5_pass_547 : decode cX5_pass 547 = .ok (.aload 8, 2) := by decide +kernel
theorem dX5_pass_549 : decode cX5_pass 549 = .ok (.iload 9, 2) := by decide +kernel
theorem dX5_pass_551 : decode cX5_pass 551 = .ok (.iaload, 1) := by decide +kernel
theorem dX5_pass_552 : decode cX5_pass 552 = .ok (.iconst 3, 1) := by decide +kernel
theorem dX5_pass_553 : decode cX5_pass 553 = .ok (.if_icmp .ge 11, 3) := by decide +kernel
theorem dX5_pass_556 : decode cX5_pass 556 = .ok (.aload 8, 2) := by decide +kernel
theorem dX5_pass_558 : decode cX5_pass 558 = .ok (.iload 9, 2) := by decide +kernel
theorem dX5_pass_560 : decode cX5_pass 560 = .ok (.iaload, 1) := by decide +kernel
theorem dX5_pass_561 : decode cX5_pass 561 = .ok (.goto 4, 3) := by decide +kernel
theorem dX5_pass_564 : decode cX5_pass 564 = .ok (.iconst 3, 1) := by decide +kernel
theorem dX5_pass_565 : decode cX5_pass 565 = .ok (.istore 10, 2) := by decide +kernel
theorem dX5_pass_567 : decode cX5_pass 567 = .ok (.aload 8, 2) := by decide +kernel
theorem dX5_pass_569 : decode cX5_pass 569 = .ok (.iload 9, 2) := by decide +kernel
theorem dX5_pass_571 : decode cX5_pass 571 = .ok (.dup2, 1) := by decide +kernel
theorem dX5_pass_572 : decode cX5_pass 572 = .ok (.iaload, 1) := by decide +kernel
theorem dX5_pass_573 : decode cX5_pass 573 = .ok (.iload 10, 2) := by decide +kernel
theorem dX5_pass_575 : decode cX5_pass 575 = .ok (.isub, 1) := by decide +kernel
theorem dX5_pass_576 : decode cX5_pass 576 = .ok (.iastore, 1) := by decide +kernel
theorem dX5_pass_577 : decode cX5_pass 577 = .ok (.aload 7, 2) := by decide +kernel
theorem dX5_pass_579 : decode cX5_pass 579 = .ok (.iconst 3, 1) := by decide +kernel
theorem dX5_pass_580 : decode cX5_pass 580 = .ok (.dup2, 1) := by decide +kernel
theorem dX5_pass_581 : decode cX5_pass 581 = .ok (.iaload, 1) := by decide +kernel
theorem dX5_pass_582 : decode cX5_pass 582 = .ok (.iload 10, 2) := by decide +kernel
theorem dX5_pass_584 : decode cX5_pass 584 = .ok (.iadd, 1) := by decide +kernel
theorem dX5_pass_585 : decode cX5_pass 585 = .ok (.iastore, 1) := by decide +kernel
theorem dX5_pass_586 : decode cX5_pass 586 = .ok (.goto 9, 3) := by decide +kernel
theorem dX5_pass_589 : decode cX5_pass 589 = .ok (.iinc 9 1, 3) := by decide +kernel
theorem dX5_pass_592 : decode cX5_pass 592 = .ok (.goto (-70), 3) := by decide +kernel
theorem dX5_pass_595 : decode cX5_pass 595 = .ok (.iinc 6 1, 3) := by decide +kernel
theorem dX5_pass_598 : decode cX5_pass 598 = .ok (.goto (-111), 3) := by decide +kernel
theorem dX5_pass_601 : decode cX5_pass 601 = .ok (.aload_n 0, 1) := by decide +kernel
theorem dX5_pass_602 : decode cX5_pass 602 = .ok (.getfield 19, 3) := by decide +kernel
theorem dX5_pass_605 : decode cX5_pass 605 = .ok (.astore 4, 2) := by decide +kernel
theorem dX5_pass_607 : decode cX5_pass 607 = .ok (.aload 4, 2) := by decide +kernel
theorem dX5_pass_609 : decode cX5_pass 609 = .ok (.arraylength, 1) := by decide +kernel
theorem dX5_pass_610 : decode cX5_pass 610 = .ok (.istore 5, 2) := by decide +kernel
theorem dX5_pass_612 : decode cX5_pass 612 = .ok (.iconst 0, 1) := by decide +kernel
theorem dX5_pass_613 : decode cX5_pass 613 = .ok (.istore 6, 2) := by decide +kernel
theorem dX5_pass_615 : decode cX5_pass 615 = .ok (.iload 6, 2) := by decide +kernel
theorem dX5_pass_617 : decode cX5_pass 617 = .ok (.iload 5, 2) := by decide +kernel
theorem dX5_pass_619 : decode cX5_pass 619 = .ok (.if_icmp .ge 56, 3) := by decide +kernel
theorem dX5_pass_622 : decode cX5_pass 622 = .ok (.aload 4, 2) := by decide +kernel
theorem dX5_pass_624 : decode cX5_pass 624 = .ok (.iload 6, 2) := by decide +kernel
theorem dX5_pass_626 : decode cX5_pass 626 = .ok (.aaload, 1) := by decide +kernel
theorem dX5_pass_627 : decode cX5_pass 627 = .ok (.astore 7, 2) := by decide +kernel
theorem dX5_pass_629 : decode cX5_pass 629 = .ok (.aload_n 0, 1) := by decide +kernel
theorem dX5_pass_630 : decode cX5_pass 630 = .ok (.aload 7, 2) := by decide +kernel
theorem dX5_pass_632 : decode cX5_pass 632 = .ok (.aload_n 0, 1) := by decide +kernel
theorem dX5_pass_633 : decode cX5_pass 633 = .ok (.getfield 31, 3) := by decide +kernel
theorem dX5_pass_636 : decode cX5_pass 636 = .ok (.aload_n 0, 1) := by decide +kernel
theorem dX5_pass_637 : decode cX5_pass 637 = .ok (.getfield 16, 3) := by decide +kernel
theorem dX5_pass_640 : decode cX5_pass 640 = .ok (.arraylength, 1) := by decide +kernel
theorem dX5_pass_641 : decode cX5_pass 641 = .ok (.irem, 1) := by decide +kernel
theorem dX5_pass_642 : decode cX5_pass 642 = .ok (.invokevirtual 35, 3) := by decide +kernel
theorem dX5_pass_645 : decode cX5_pass 645 = .ok (.ifCond .ne 6, 3) := by decide +kernel
theorem dX5_pass_648 : decode cX5_pass 648 = .ok (.goto 21, 3) := by decide +kernel
theorem dX5_pass_651 : decode cX5_pass 651 = .ok (.aload_n 0, 1) := by decide +kernel
theorem dX5_pass_652 : decode cX5_pass 652 = .ok (.dup, 1) := by decide +kernel
theorem dX5_pass_653 : decode cX5_pass 653 = .ok (.getfield 50, 3) := by decide +kernel
theorem dX5_pass_656 : decode cX5_pass 656 = .ok (.aload 7, 2) := by decide +kernel
theorem dX5_pass_658 : decode cX5_pass 658 = .ok (.iconst 2, 1) := by decide +kernel
theorem dX5_pass_659 : decode cX5_pass 659 = .ok (.iaload, 1) := by decide +kernel
theorem dX5_pass_660 : decode cX5_pass 660 = .ok (.iadd, 1) := by decide +kernel
theorem dX5_pass_661 : decode cX5_pass 661 = .ok (.putfield 50, 3) := by decide +kernel
theorem dX5_pass_664 : decode cX5_pass 664 = .ok (.aload 7, 2) := by decide +kernel
theorem dX5_pass_666 : decode cX5_pass 666 = .ok (.iconst 2, 1) := by decide +kernel
theorem dX5_pass_667 : decode cX5_pass 667 = .ok (.iconst 0, 1) := by decide +kernel
theorem dX5_pass_668 : decode cX5_pass 668 = .ok (.iastore, 1) := by decide +kernel
theorem dX5_pass_669 : decode cX5_pass 669 = .ok (.iinc 6 1, 3) := by decide +kernel
theorem dX5_pass_672 : decode cX5_pass 672 = .ok (.goto (-57), 3) := by decide +kernel
theorem dX5_pass_675 : decode cX5_pass 675 = .ok (.iconst 0, 1) := by decide +kernel
theorem dX5_pass_676 : decode cX5_pass 676 = .ok (.istore 4, 2) := by decide +kernel
theorem dX5_pass_678 : decode cX5_pass 678 = .ok (.iload 4, 2) := by decide +kernel
theorem dX5_pass_680 : decode cX5_pass 680 = .ok (.bipush 10, 2) := by decide +kernel
theorem dX5_pass_682 : decode cX5_pass 682 = .ok (.if_icmp .ge 72, 3) := by decide +kernel
theorem dX5_pass_685 : decode cX5_pass 685 = .ok (.iconst 0, 1) := by decide +kernel
theorem dX5_pass_686 : decode cX5_pass 686 = .ok (.istore 5, 2) := by decide +kernel
theorem dX5_pass_688 : decode cX5_pass 688 = .ok (.iload 5, 2) := by decide +kernel
theorem dX5_pass_690 : decode cX5_pass 690 = .ok (.iconst 5, 1) := by decide +kernel
theorem dX5_pass_691 : decode cX5_pass 691 = .ok (.if_icmp .ge 57, 3) := by decide +kernel
theorem dX5_pass_694 : decode cX5_pass 694 = .ok (.aload_n 0, 1) := by decide +kernel
theorem dX5_pass_695 : decode cX5_pass 695 = .ok (.iload 4, 2) := by decide +kernel
theorem dX5_pass_697 : decode cX5_pass 697 = .ok (.invokevirtual 39, 3) := by decide +kernel
theorem dX5_pass_700 : decode cX5_pass 700 = .ok (.ifCond .ne 42, 3) := by decide +kernel
theorem dX5_pass_703 : decode cX5_pass 703 = .ok (.aload_n 0, 1) := by decide +kernel
theorem dX5_pass_704 : decode cX5_pass 704 = .ok (.getfield 9, 3) := by decide +kernel
theorem dX5_pass_707 : decode cX5_pass 707 = .ok (.iload 4, 2) := by decide +kernel
theorem dX5_pass_709 : decode cX5_pass 709 = .ok (.aaload, 1) := by decide +kernel
theorem dX5_pass_710 : decode cX5_pass 710 = .ok (.iload 5, 2) := by decide +kernel
theorem dX5_pass_712 : decode cX5_pass 712 = .ok (.bipush 40, 2) := by decide +kernel
theorem dX5_pass_714 : decode cX5_pass 714 = .ok (.aload_n 0, 1) := by decide +kernel
theorem dX5_pass_715 : decode cX5_pass 715 = .ok (.getfield 9, 3) := by decide +kernel
theorem dX5_pass_718 : decode cX5_pass 718 = .ok (.iload 4, 2) := by decide +kernel
theorem dX5_pass_720 : decode cX5_pass 720 = .ok (.aaload, 1) := by decide +kernel
theorem dX5_pass_721 : decode cX5_pass 721 = .ok (.iload 5, 2) := by decide +kernel
theorem dX5_pass_723 : decode cX5_pass 723 = .ok (.iaload, 1) := by decide +kernel
theorem dX5_pass_724 : decode cX5_pass 724 = .ok (.bipush 10, 2) := by decide +kernel
theorem dX5_pass_726 : decode cX5_pass 726 = .ok (.idiv, 1) := by decide +kernel
theorem dX5_pass_727 : decode cX5_pass 727 = .ok (.aload_n 0, 1) := by decide +kernel
theorem dX5_pass_728 : decode cX5_pass 728 = .ok (.getfield 9, 3) := by decide +kernel
theorem dX5_pass_731 : decode cX5_pass 731 = .ok (.iload 4, 2) := by decide +kernel
theorem dX5_pass_733 : decode cX5_pass 733 = .ok (.aaload, 1) := by decide +kernel
theorem dX5_pass_734 : decode cX5_pass 734 = .ok (.iload 5, 2) := by decide +kernel
theorem dX5_pass_736 : decode cX5_pass 736 = .ok (.iaload, 1) := by decide +kernel
theorem dX5_pass_737 : decode cX5_pass 737 = .ok (.iadd, 1) := by decide +kernel
theorem dX5_pass_738 : decode cX5_pass 738 = .ok (.invokestatic 53, 3) := by decide +kernel
theorem dX5_pass_741 : decode cX5_pass 741 = .ok (.iastore, 1) := by decide +kernel
theorem dX5_pass_742 : decode cX5_pass 742 = .ok (.iinc 5 1, 3) := by decide +kernel
theorem dX5_pass_745 : decode cX5_pass 745 = .ok (.goto (-57), 3) := by decide +kernel
theorem dX5_pass_748 : decode cX5_pass 748 = .ok (.iinc 4 1, 3) := by decide +kernel
theorem dX5_pass_751 : decode cX5_pass 751 = .ok (.goto (-73), 3) := by decide +kernel
theorem dX5_pass_754 : decode cX5_pass 754 = .ok (.aload_n 0, 1) := by decide +kernel
theorem dX5_pass_755 : decode cX5_pass 755 = .ok (.dup, 1) := by decide +kernel
theorem dX5_pass_756 : decode cX5_pass 756 = .ok (.getfield 31, 3) := by decide +kernel
theorem dX5_pass_759 : decode cX5_pass 759 = .ok (.iconst 1, 1) := by decide +kernel
theorem dX5_pass_760 : decode cX5_pass 760 = .ok (.iadd, 1) := by decide +kernel
theorem dX5_pass_761 : decode cX5_pass 761 = .ok (.putfield 31, 3) := by decide +kernel
theorem dX5_pass_764 : decode cX5_pass 764 = .ok (.iload_n 3, 1) := by decide +kernel
theorem dX5_pass_765 : decode cX5_pass 765 = .ok (.ireturn, 1) := by decide +kernel
theorem dX5_flies_0 : decode cX5_flies 0 = .ok (.iconst 0, 1) := by decide +kernel
theorem dX5_flies_1 : decode cX5_flies 1 = .ok (.istore_n 1, 1) := by decide +kernel
theorem dX5_flies_2 : decode cX5_flies 2 = .ok (.aload_n 0, 1) := by decide +kernel
theorem dX5_flies_3 : decode cX5_flies 3 = .ok (.getfield 9, 3) := by decide +kernel
theorem dX5_flies_6 : decode cX5_flies 6 = .ok (.astore_n 2, 1) := by decide +kernel
theorem dX5_flies_7 : decode cX5_flies 7 = .ok (.aload_n 2, 1) := by decide +kernel
theorem dX5_flies_8 : decode cX5_flies 8 = .ok (.arraylength, 1) := by decide +kernel
theorem dX5_flies_9 : decode cX5_flies 9 = .ok (.istore_n 3, 1) := by decide +kernel
theorem dX5_flies_10 : decode cX5_flies 10 = .ok (.iconst 0, 1) := by decide +kernel
theorem dX5_flies_11 : decode cX5_flies 11 = .ok (.istore 4, 2) := by decide +kernel
theorem dX5_flies_13 : decode cX5_flies 13 = .ok (.iload 4, 2) := by decide +kernel
theorem dX5_flies_15 : decode cX5_flies 15 = .ok (.iload_n 3, 1) := by decide +kernel
theorem dX5_flies_16 : decode cX5_flies 16 = .ok (.if_icmp .ge 52, 3) := by decide +kernel
theorem dX5_flies_19 : decode cX5_flies 19 = .ok (.aload_n 2, 1) := by decide +kernel
theorem dX5_flies_20 : decode cX5_flies 20 = .ok (.iload 4, 2) := by decide +kernel
theorem dX5_flies_22 : decode cX5_flies 22 = .ok (.aaload, 1) := by decide +kernel
theorem dX5_flies_23 : decode cX5_flies 23 = .ok (.astore 5, 2) := by decide +kernel
theorem dX5_flies_25 : decode cX5_flies 25 = .ok (.aload 5, 2) := by decide +kernel
theorem dX5_flies_27 : decode cX5_flies 27 = .ok (.astore 6, 2) := by decide +kernel
theorem dX5_flies_29 : decode cX5_flies 29 = .ok (.aload 6, 2) := by decide +kernel
theorem dX5_flies_31 : decode cX5_flies 31 = .ok (.arraylength, 1) := by decide +kernel
theorem dX5_flies_32 : decode cX5_flies 32 = .ok (.istore 7, 2) := by decide +kernel
theorem dX5_flies_34 : decode cX5_flies 34 = .ok (.iconst 0, 1) := by decide +kernel
theorem dX5_flies_35 : decode cX5_flies 35 = .ok (.istore 8, 2) := by decide +kernel
theorem dX5_flies_37 : decode cX5_flies 37 = .ok (.iload 8, 2) := by decide +kernel
theorem dX5_flies_39 : decode cX5_flies 39 = .ok (.iload 7, 2) := by decide +kernel
theorem dX5_flies_41 : decode cX5_flies 41 = .ok (.if_icmp .ge 21, 3) := by decide +kernel
theorem dX5_flies_44 : decode cX5_flies 44 = .ok (.aload 6, 2) := by decide +kernel
theorem dX5_flies_46 : decode cX5_flies 46 = .ok (.iload 8, 2) := by decide +kernel
theorem dX5_flies_48 : decode cX5_flies 48 = .ok (.iaload, 1) := by decide +kernel
theorem dX5_flies_49 : decode cX5_flies 49 = .ok (.istore 9, 2) := by decide +kernel
theorem dX5_flies_51 : decode cX5_flies 51 = .ok (.iload_n 1, 1) := by decide +kernel
theorem dX5_flies_52 : decode cX5_flies 52 = .ok (.iload 9, 2) := by decide +kernel
theorem dX5_flies_54 : decode cX5_flies 54 = .ok (.iadd, 1) := by decide +kernel
theorem dX5_flies_55 : decode cX5_flies 55 = .ok (.istore_n 1, 1) := by decide +kernel
theorem dX5_flies_56 : decode cX5_flies 56 = .ok (.iinc 8 1, 3) := by decide +kernel
theorem dX5_flies_59 : decode cX5_flies 59 = .ok (.goto (-22), 3) := by decide +kernel
theorem dX5_flies_62 : decode cX5_flies 62 = .ok (.iinc 4 1, 3) := by decide +kernel
theorem dX5_flies_65 : decode cX5_flies 65 = .ok (.goto (-52), 3) := by decide +kernel
theorem dX5_flies_68 : decode cX5_flies 68 = .ok (.iload_n 1, 1) := by decide +kernel
theorem dX5_flies_69 : decode cX5_flies 69 = .ok (.ireturn, 1) := by decide +kernel
theorem dX5_sum_0 : decode cX5_sum 0 = .ok (.iconst 0, 1) := by decide +kernel
theorem dX5_sum_1 : decode cX5_sum 1 = .ok (.istore_n 2, 1) := by decide +kernel
theorem dX5_sum_2 : decode cX5_sum 2 = .ok (.aload_n 0, 1) := by decide +kernel
theorem dX5_sum_3 : decode cX5_sum 3 = .ok (.getfield 19, 3) := by decide +kernel
theorem dX5_sum_6 : decode cX5_sum 6 = .ok (.astore_n 3, 1) := by decide +kernel
theorem dX5_sum_7 : decode cX5_sum 7 = .ok (.aload_n 3, 1) := by decide +kernel
theorem dX5_sum_8 : decode cX5_sum 8 = .ok (.arraylength, 1) := by decide +kernel
theorem dX5_sum_9 : decode cX5_sum 9 = .ok (.istore 4, 2) := by decide +kernel
