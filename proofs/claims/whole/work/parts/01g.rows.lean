theorem dX5_roomTold_68 : decode cX5_roomTold 68 = .ok (.goto 4, 3) := by decide +kernel
theorem dX5_roomTold_71 : decode cX5_roomTold 71 = .ok (.iconst 2, 1) := by decide +kernel
theorem dX5_roomTold_72 : decode cX5_roomTold 72 = .ok (.invokevirtual 59, 3) := by decide +kernel
theorem dX5_roomTold_75 : decode cX5_roomTold 75 = .ok (.iadd, 1) := by decide +kernel
theorem dX5_roomTold_76 : decode cX5_roomTold 76 = .ok (.istore_n 3, 1) := by decide +kernel
theorem dX5_roomTold_77 : decode cX5_roomTold 77 = .ok (.iinc 4 1, 3) := by decide +kernel
theorem dX5_roomTold_80 : decode cX5_roomTold 80 = .ok (.goto (-50), 3) := by decide +kernel
theorem dX5_roomTold_83 : decode cX5_roomTold 83 = .ok (.iload_n 3, 1) := by decide +kernel
theorem dX5_roomTold_84 : decode cX5_roomTold 84 = .ok (.ireturn, 1) := by decide +kernel
set_option maxRecDepth 20000 in
theorem ggX5_room_X5_isRoom : GoodIn wsX5_room wsX5_isRoom := goodIn_r _ [6, 7, 8, 9, 5, 10, 31, 32, 33, 34, 35, 36, 37, 38, 39] (by decide +kernel) (by decide +kernel)
set_option maxRecDepth 20000 in
theorem gX5_room_X5_isRoom : GoodIn wsX5_room (wsV RX5 55 RX5 yX5_isRoom wsX5_isRoom) := goodIn_app (goodIn_of _ (by decide +kernel)) ggX5_room_X5_isRoom
set_option maxRecDepth 20000 in
theorem ggX5_room_X5_isIn : GoodIn wsX5_room wsX5_isIn := goodIn_r _ [10] (by decide +kernel) (by decide +kernel)
set_option maxRecDepth 20000 in
theorem gX5_room_X5_isIn : GoodIn wsX5_room (va_wsS RX5 32 yX5_isIn wsX5_isIn) := goodIn_app (goodIn_of _ (by decide +kernel)) ggX5_room_X5_isIn
set_option maxRecDepth 20000 in
theorem ggX5_room_X5_roomTold : GoodIn wsX5_room wsX5_roomTold := goodIn_r _ [14, 15, 16, 17, 18, 19, 20, 5, 21, 22, 23, 24, 25, 26, 31, 32, 33, 34, 35, 36, 37, 38, 39] (by decide +kernel) (by decide +kernel)
set_option maxRecDepth 20000 in
theorem gX5_room_X5_roomTold : GoodIn wsX5_room (wsV RX5 66 RX5 yX5_roomTold wsX5_roomTold) := goodIn_app (goodIn_of _ (by decide +kernel)) ggX5_room_X5_roomTold
set_option maxRecDepth 20000 in
theorem ggX5_room_X5_fail : GoodIn wsX5_room wsX5_fail := goodIn_r _ [30, 1, 31, 32, 33, 34, 35, 36, 37, 38, 39] (by decide +kernel) (by decide +kernel)
set_option maxRecDepth 20000 in
theorem gX5_room_X5_fail : GoodIn wsX5_room (wsV RX5 52 RX5 yX5_fail wsX5_fail) := goodIn_app (goodIn_of _ (by decide +kernel)) ggX5_room_X5_fail
theorem dX5_room_0 : decode cX5_room 0 = .ok (.aload_n 0, 1) := by decide +kernel
theorem dX5_room_1 : decode cX5_room 1 = .ok (.iconst 0, 1) := by decide +kernel
theorem dX5_room_2 : decode cX5_room 2 = .ok (.putfield 28, 3) := by decide +kernel
theorem dX5_room_5 : decode cX5_room 5 = .ok (.aload_n 0, 1) := by decide +kernel
theorem dX5_room_6 : decode cX5_room 6 = .ok (.iload_n 1, 1) := by decide +kernel
theorem dX5_room_7 : decode cX5_room 7 = .ok (.invokevirtual 55, 3) := by decide +kernel
theorem dX5_room_10 : decode cX5_room 10 = .ok (.ifCond .eq 21, 3) := by decide +kernel
theorem dX5_room_13 : decode cX5_room 13 = .ok (.iload_n 2, 1) := by decide +kernel
theorem dX5_room_14 : decode cX5_room 14 = .ok (.iconst 0, 1) := by decide +kernel
theorem dX5_room_15 : decode cX5_room 15 = .ok (.iconst 4, 1) := by decide +kernel
theorem dX5_room_16 : decode cX5_room 16 = .ok (.invokestatic 32, 3) := by decide +kernel
theorem dX5_room_19 : decode cX5_room 19 = .ok (.ifCond .eq 12, 3) := by decide +kernel
theorem dX5_room_22 : decode cX5_room 22 = .ok (.aload_n 0, 1) := by decide +kernel
theorem dX5_room_23 : decode cX5_room 23 = .ok (.iload_n 1, 1) := by decide +kernel
theorem dX5_room_24 : decode cX5_room 24 = .ok (.iload_n 2, 1) := by decide +kernel
theorem dX5_room_25 : decode cX5_room 25 = .ok (.invokevirtual 66, 3) := by decide +kernel
theorem dX5_room_28 : decode cX5_room 28 = .ok (.goto 8, 3) := by decide +kernel
theorem dX5_room_31 : decode cX5_room 31 = .ok (.aload_n 0, 1) := by decide +kernel
theorem dX5_room_32 : decode cX5_room 32 = .ok (.iconst 1, 1) := by decide +kernel
theorem dX5_room_33 : decode cX5_room 33 = .ok (.invokevirtual 52, 3) := by decide +kernel
theorem dX5_room_36 : decode cX5_room 36 = .ok (.ireturn, 1) := by decide +kernel
theorem dX5_lit_0 : decode cX5_lit 0 = .ok (.iconst 0, 1) := by decide +kernel
theorem dX5_lit_1 : decode cX5_lit 1 = .ok (.istore_n 2, 1) := by decide +kernel
theorem dX5_lit_2 : decode cX5_lit 2 = .ok (.iload_n 2, 1) := by decide +kernel
theorem dX5_lit_3 : decode cX5_lit 3 = .ok (.aload_n 0, 1) := by decide +kernel
theorem dX5_lit_4 : decode cX5_lit 4 = .ok (.getfield 36, 3) := by decide +kernel
theorem dX5_lit_7 : decode cX5_lit 7 = .ok (.if_icmp .ge 36, 3) := by decide +kernel
theorem dX5_lit_10 : decode cX5_lit 10 = .ok (.aload_n 0, 1) := by decide +kernel
theorem dX5_lit_11 : decode cX5_lit 11 = .ok (.getfield 16, 3) := by decide +kernel
theorem dX5_lit_14 : decode cX5_lit 14 = .ok (.iload_n 2, 1) := by decide +kernel
theorem dX5_lit_15 : decode cX5_lit 15 = .ok (.iaload, 1) := by decide +kernel
theorem dX5_lit_16 : decode cX5_lit 16 = .ok (.iconst 1, 1) := by decide +kernel
theorem dX5_lit_17 : decode cX5_lit 17 = .ok (.if_icmp .ne 20, 3) := by decide +kernel
theorem dX5_lit_20 : decode cX5_lit 20 = .ok (.aload_n 0, 1) := by decide +kernel
theorem dX5_lit_21 : decode cX5_lit 21 = .ok (.getfield 13, 3) := by decide +kernel
theorem dX5_lit_24 : decode cX5_lit 24 = .ok (.iload_n 2, 1) := by decide +kernel
theorem dX5_lit_25 : decode cX5_lit 25 = .ok (.iaload, 1) := by decide +kernel
theorem dX5_lit_26 : decode cX5_lit 26 = .ok (.iload_n 1, 1) := by decide +kernel
theorem dX5_lit_27 : decode cX5_lit 27 = .ok (.isub, 1) := by decide +kernel
theorem dX5_lit_28 : decode cX5_lit 28 = .ok (.invokestatic 42, 3) := by decide +kernel
theorem dX5_lit_31 : decode cX5_lit 31 = .ok (.iconst 1, 1) := by decide +kernel
theorem dX5_lit_32 : decode cX5_lit 32 = .ok (.if_icmp .gt 5, 3) := by decide +kernel
theorem dX5_lit_35 : decode cX5_lit 35 = .ok (.iconst 1, 1) := by decide +kernel
theorem dX5_lit_36 : decode cX5_lit 36 = .ok (.ireturn, 1) := by decide +kernel
theorem dX5_lit_37 : decode cX5_lit 37 = .ok (.iinc 2 1, 3) := by decide +kernel
theorem dX5_lit_40 : decode cX5_lit 40 = .ok (.goto (-38), 3) := by decide +kernel
theorem dX5_lit_43 : decode cX5_lit 43 = .ok (.iconst 0, 1) := by decide +kernel
theorem dX5_lit_44 : decode cX5_lit 44 = .ok (.ireturn, 1) := by decide +kernel
set_option maxRecDepth 20000 in
theorem ggX5_isLit_X5_isIn : GoodIn wsX5_isLit wsX5_isIn := goodIn_r _ [5] (by decide +kernel) (by decide +kernel)
set_option maxRecDepth 20000 in
theorem gX5_isLit_X5_isIn : GoodIn wsX5_isLit (va_wsS RX5 32 yX5_isIn wsX5_isIn) := goodIn_app (goodIn_of _ (by decide +kernel)) ggX5_isLit_X5_isIn
set_option maxRecDepth 20000 in
theorem ggX5_isLit_X5_lit : GoodIn wsX5_isLit wsX5_lit := goodIn_r _ [9, 10, 11, 12, 13, 14, 15, 16, 17, 18, 19, 20, 21, 22, 23, 24, 25] (by decide +kernel) (by decide +kernel)
set_option maxRecDepth 20000 in
theorem gX5_isLit_X5_lit : GoodIn wsX5_isLit (wsV RX5 69 RX5 yX5_lit wsX5_lit) := goodIn_app (goodIn_of _ (by decide +kernel)) ggX5_isLit_X5_lit
theorem dX5_isLit_0 : decode cX5_isLit 0 = .ok (.aload_n 0, 1) := by decide +kernel
theorem dX5_isLit_1 : decode cX5_isLit 1 = .ok (.iload_n 1, 1) := by decide +kernel
theorem dX5_isLit_2 : decode cX5_isLit 2 = .ok (.iconst 0, 1) := by decide +kernel
theorem dX5_isLit_3 : decode cX5_isLit 3 = .ok (.bipush 9, 2) := by decide +kernel
theorem dX5_isLit_5 : decode cX5_isLit 5 = .ok (.invokestatic 32, 3) := by decide +kernel
theorem dX5_isLit_8 : decode cX5_isLit 8 = .ok (.ifCond .eq 7, 3) := by decide +kernel
theorem dX5_isLit_11 : decode cX5_isLit 11 = .ok (.iconst 0, 1) := by decide +kernel
theorem dX5_isLit_12 : decode cX5_isLit 12 = .ok (.goto 4, 3) := by decide +kernel
theorem dX5_isLit_15 : decode cX5_isLit 15 = .ok (.iconst 1, 1) := by decide +kernel
theorem dX5_isLit_16 : decode cX5_isLit 16 = .ok (.putfield 28, 3) := by decide +kernel
theorem dX5_isLit_19 : decode cX5_isLit 19 = .ok (.aload_n 0, 1) := by decide +kernel
theorem dX5_isLit_20 : decode cX5_isLit 20 = .ok (.getfield 28, 3) := by decide +kernel
theorem dX5_isLit_23 : decode cX5_isLit 23 = .ok (.ifCond .ne 15, 3) := by decide +kernel
theorem dX5_isLit_26 : decode cX5_isLit 26 = .ok (.aload_n 0, 1) := by decide +kernel
theorem dX5_isLit_27 : decode cX5_isLit 27 = .ok (.iload_n 1, 1) := by decide +kernel
theorem dX5_isLit_28 : decode cX5_isLit 28 = .ok (.invokevirtual 69, 3) := by decide +kernel
theorem dX5_isLit_31 : decode cX5_isLit 31 = .ok (.ifCond .eq 7, 3) := by decide +kernel
theorem dX5_isLit_34 : decode cX5_isLit 34 = .ok (.iconst 1, 1) := by decide +kernel
theorem dX5_isLit_35 : decode cX5_isLit 35 = .ok (.goto 4, 3) := by decide +kernel
theorem dX5_isLit_38 : decode cX5_isLit 38 = .ok (.iconst 0, 1) := by decide +kernel
theorem dX5_isLit_39 : decode cX5_isLit 39 = .ok (.ireturn, 1) := by decide +kernel
set_option maxRecDepth 20000 in
theorem ggX5_stay_X5_isRoom : GoodIn wsX5_stay wsX5_isRoom := goodIn_r _ [13, 14, 15, 16, 12, 17, 22, 23, 24, 25, 26, 27, 28, 29, 30] (by decide +kernel) (by decide +kernel)
set_option maxRecDepth 20000 in
theorem gX5_stay_X5_isRoom : GoodIn wsX5_stay (wsV RX5 55 RX5 yX5_isRoom wsX5_isRoom) := goodIn_app (goodIn_of _ (by decide +kernel)) ggX5_stay_X5_isRoom
set_option maxRecDepth 20000 in
theorem ggX5_stay_X5_fail : GoodIn wsX5_stay wsX5_fail := goodIn_r _ [21, 1, 22, 23, 24, 25, 26, 27, 28, 29, 30] (by decide +kernel) (by decide +kernel)
set_option maxRecDepth 20000 in
theorem gX5_stay_X5_fail : GoodIn wsX5_stay (wsV RX5 52 RX5 yX5_fail wsX5_fail) := goodIn_app (goodIn_of _ (by decide +kernel)) ggX5_stay_X5_fail
set_option maxRecDepth 20000 in
theorem ggX5_stay_X5_isIn : GoodIn wsX5_stay wsX5_isIn := goodIn_r _ [17] (by decide +kernel) (by decide +kernel)
set_option maxRecDepth 20000 in
theorem gX5_stay_X5_isIn : GoodIn wsX5_stay (va_wsS RX5 32 yX5_isIn wsX5_isIn) := goodIn_app (goodIn_of _ (by decide +kernel)) ggX5_stay_X5_isIn
theorem dX5_stay_0 : decode cX5_stay 0 = .ok (.aload_n 0, 1) := by decide +kernel
theorem dX5_stay_1 : decode cX5_stay 1 = .ok (.iconst 0, 1) := by decide +kernel
theorem dX5_stay_2 : decode cX5_stay 2 = .ok (.putfield 28, 3) := by decide +kernel
theorem dX5_stay_5 : decode cX5_stay 5 = .ok (.aload_n 0, 1) := by decide +kernel
theorem dX5_stay_6 : decode cX5_stay 6 = .ok (.iload_n 1, 1) := by decide +kernel
theorem dX5_stay_7 : decode cX5_stay 7 = .ok (.invokevirtual 55, 3) := by decide +kernel
theorem dX5_stay_10 : decode cX5_stay 10 = .ok (.ifCond .ne 9, 3) := by decide +kernel
theorem dX5_stay_13 : decode cX5_stay 13 = .ok (.aload_n 0, 1) := by decide +kernel
theorem dX5_stay_14 : decode cX5_stay 14 = .ok (.iconst 1, 1) := by decide +kernel
theorem dX5_stay_15 : decode cX5_stay 15 = .ok (.invokevirtual 52, 3) := by decide +kernel
theorem dX5_stay_18 : decode cX5_stay 18 = .ok (.ireturn, 1) := by decide +kernel
theorem dX5_stay_19 : decode cX5_stay 19 = .ok (.iload_n 2, 1) := by decide +kernel
theorem dX5_stay_20 : decode cX5_stay 20 = .ok (.iconst 0, 1) := by decide +kernel
theorem dX5_stay_21 : decode cX5_stay 21 = .ok (.bipush 9, 2) := by decide +kernel
theorem dX5_stay_23 : decode cX5_stay 23 = .ok (.invokestatic 32, 3) := by decide +kernel
theorem dX5_stay_26 : decode cX5_stay 26 = .ok (.ifCond .ne 9, 3) := by decide +kernel
theorem dX5_stay_29 : decode cX5_stay 29 = .ok (.aload_n 0, 1) := by decide +kernel
theorem dX5_stay_30 : decode cX5_stay 30 = .ok (.iconst 2, 1) := by decide +kernel
theorem dX5_stay_31 : decode cX5_stay 31 = .ok (.invokevirtual 52, 3) := by decide +kernel
theorem dX5_stay_34 : decode cX5_stay 34 = .ok (.ireturn, 1) := by decide +kernel
theorem dX5_stay_35 : decode cX5_stay 35 = .ok (.aload_n 0, 1) := by decide +kernel
theorem dX5_stay_36 : decode cX5_stay 36 = .ok (.getfield 39, 3) := by decide +kernel
theorem dX5_stay_39 : decode cX5_stay 39 = .ok (.bipush 12, 2) := by decide +kernel
theorem dX5_stay_41 : decode cX5_stay 41 = .ok (.if_icmp .ne 9, 3) := by decide +kernel
theorem dX5_stay_44 : decode cX5_stay 44 = .ok (.aload_n 0, 1) := by decide +kernel
theorem dX5_stay_45 : decode cX5_stay 45 = .ok (.iconst 3, 1) := by decide +kernel
theorem dX5_stay_46 : decode cX5_stay 46 = .ok (.invokevirtual 52, 3) := by decide +kernel
theorem dX5_stay_49 : decode cX5_stay 49 = .ok (.ireturn, 1) := by decide +kernel
theorem dX5_stay_50 : decode cX5_stay 50 = .ok (.bipush 6, 2) := by decide +kernel
theorem dX5_stay_52 : decode cX5_stay 52 = .ok (.newarray .int, 2) := by decide +kernel
theorem dX5_stay_54 : decode cX5_stay 54 = .ok (.dup, 1) := by decide +kernel
theorem dX5_stay_55 : decode cX5_stay 55 = .ok (.iconst 0, 1) := by decide +kernel
theorem dX5_stay_56 : decode cX5_stay 56 = .ok (.iload_n 1, 1) := by decide +kernel
theorem dX5_stay_57 : decode cX5_stay 57 = .ok (.iastore, 1) := by decide +kernel
theorem dX5_stay_58 : decode cX5_stay 58 = .ok (.dup, 1) := by decide +kernel
theorem dX5_stay_59 : decode cX5_stay 59 = .ok (.iconst 1, 1) := by decide +kernel
theorem dX5_stay_60 : decode cX5_stay 60 = .ok (.iload_n 2, 1) := by decide +kernel
theorem dX5_stay_61 : decode cX5_stay 61 = .ok (.iastore, 1) := by decide +kernel
theorem dX5_stay_62 : decode cX5_stay 62 = .ok (.dup, 1) := by decide +kernel
theorem dX5_stay_63 : decode cX5_stay 63 = .ok (.iconst 2, 1) := by decide +kernel
theorem dX5_stay_64 : decode cX5_stay 64 = .ok (.iload_n 3, 1) := by decide +kernel
theorem dX5_stay_65 : decode cX5_stay 65 = .ok (.ifCond .eq 7, 3) := by decide +kernel
theorem dX5_stay_68 : decode cX5_stay 68 = .ok (.iconst 1, 1) := by decide +kernel
theorem dX5_stay_69 : decode cX5_stay 69 = .ok (.goto 4, 3) := by decide +kernel
theorem dX5_stay_72 : decode cX5_stay 72 = .ok (.iconst 0, 1) := by decide +kernel
theorem dX5_stay_73 : decode cX5_stay 73 = .ok (.iastore, 1) := by decide +kernel
theorem dX5_stay_74 : decode cX5_stay 74 = .ok (.dup, 1) := by decide +kernel
theorem dX5_stay_75 : decode cX5_stay 75 = .ok (.iconst 3, 1) := by decide +kernel
theorem dX5_stay_76 : decode cX5_stay 76 = .ok (.iconst 0, 1) := by decide +kernel
theorem dX5_stay_77 : decode cX5_stay 77 = .ok (.iastore, 1) := by decide +kernel
theorem dX5_stay_78 : decode cX5_stay 78 = .ok (.dup, 1) := by decide +kernel
theorem dX5_stay_79 : decode cX5_stay 79 = .ok (.iconst 4, 1) := by decide +kernel
theorem dX5_stay_80 : decode cX5_stay 80 = .ok (.iconst 0, 1) := by decide +kernel
theorem dX5_stay_81 : decode cX5_stay 81 = .ok (.iastore, 1) := by decide +kernel
theorem dX5_stay_82 : decode cX5_stay 82 = .ok (.dup, 1) := by decide +kernel
theorem dX5_stay_83 : decode cX5_stay 83 = .ok (.iconst 5, 1) := by decide +kernel
theorem dX5_stay_84 : decode cX5_stay 84 = .ok (.iconst 0, 1) := by decide +kernel
theorem dX5_stay_85 : decode cX5_stay 85 = .ok (.iastore, 1) := by decide +kernel
theorem dX5_stay_86 : decode cX5_stay 86 = .ok (.astore 4, 2) := by decide +kernel
theorem dX5_stay_88 : decode cX5_stay 88 = .ok (.aload 4, 2) := by decide +kernel
theorem dX5_stay_90 : decode cX5_stay 90 = .ok (.iconst 0, 1) := by decide +kernel
theorem dX5_stay_91 : decode cX5_stay 91 = .ok (.aload_n 0, 1) := by decide +kernel
theorem dX5_stay_92 : decode cX5_stay 92 = .ok (.getfield 19, 3) := by decide +kernel
theorem dX5_stay_95 : decode cX5_stay 95 = .ok (.bipush 6, 2) := by decide +kernel
theorem dX5_stay_97 : decode cX5_stay 97 = .ok (.aload_n 0, 1) := by decide +kernel
theorem dX5_stay_98 : decode cX5_stay 98 = .ok (.getfield 39, 3) := by decide +kernel
theorem dX5_stay_101 : decode cX5_stay 101 = .ok (.imul, 1) := by decide +kernel
theorem dX5_stay_102 : decode cX5_stay 102 = .ok (.bipush 6, 2) := by decide +kernel
theorem dX5_stay_104 : decode cX5_stay 104 = .ok (.invokestatic 72, 3) := by decide +kernel
theorem dX5_stay_107 : decode cX5_stay 107 = .ok (.aload_n 0, 1) := by decide +kernel
theorem dX5_stay_108 : decode cX5_stay 108 = .ok (.dup, 1) := by decide +kernel
theorem dX5_stay_109 : decode cX5_stay 109 = .ok (.getfield 39, 3) := by decide +kernel
theorem dX5_stay_112 : decode cX5_stay 112 = .ok (.iconst 1, 1) := by decide +kernel
theorem dX5_stay_113 : decode cX5_stay 113 = .ok (.iadd, 1) := by decide +kernel
theorem dX5_stay_114 : decode cX5_stay 114 = .ok (.putfield 39, 3) := by decide +kernel
theorem dX5_stay_117 : decode cX5_stay 117 = .ok (.aload_n 0, 1) := by decide +kernel
theorem dX5_stay_118 : decode cX5_stay 118 = .ok (.getfield 39, 3) := by decide +kernel
theorem dX5_stay_121 : decode cX5_stay 121 = .ok (.iconst 1, 1) := by decide +kernel
theorem dX5_stay_122 : decode cX5_stay 122 = .ok (.isub, 1) := by decide +kernel
theorem dX5_stay_123 : decode cX5_stay 123 = .ok (.ireturn, 1) := by decide +kernel
set_option maxRecDepth 20000 in
theorem ggX5_move_X5_isGuest : GoodIn wsX5_move wsX5_isGuest := goodIn_r _ [6, 7, 8, 9, 5, 10, 29, 30, 31, 32, 33, 34, 35, 36, 37] (by decide +kernel) (by decide +kernel)
set_option maxRecDepth 20000 in
theorem gX5_move_X5_isGuest : GoodIn wsX5_move (wsV RX5 78 RX5 yX5_isGuest wsX5_isGuest) := goodIn_app (goodIn_of _ (by decide +kernel)) ggX5_move_X5_isGuest
set_option maxRecDepth 20000 in
theorem ggX5_move_X5_isRoom : GoodIn wsX5_move wsX5_isRoom := goodIn_r _ [14, 15, 8, 9, 5, 10, 29, 30, 31, 32, 33, 34, 35, 36, 37] (by decide +kernel) (by decide +kernel)
set_option maxRecDepth 20000 in
theorem gX5_move_X5_isRoom : GoodIn wsX5_move (wsV RX5 55 RX5 yX5_isRoom wsX5_isRoom) := goodIn_app (goodIn_of _ (by decide +kernel)) ggX5_move_X5_isRoom
set_option maxRecDepth 20000 in
theorem ggX5_move_X5_fail : GoodIn wsX5_move wsX5_fail := goodIn_r _ [19, 1, 29, 30, 31, 32, 33, 34, 35, 36, 37] (by decide +kernel) (by decide +kernel)
set_option maxRecDepth 20000 in
theorem gX5_move_X5_fail : GoodIn wsX5_move (wsV RX5 52 RX5 yX5_fail wsX5_fail) := goodIn_app (goodIn_of _ (by decide +kernel)) ggX5_move_X5_fail
set_option maxRecDepth 20000 in
theorem ggX5_move_X5_pe : GoodIn wsX5_move wsX5_pe := goodIn_r _ [23, 24, 29, 30, 31, 32, 33, 34, 35, 36, 37] (by decide +kernel) (by decide +kernel)
set_option maxRecDepth 20000 in
theorem gX5_move_X5_pe : GoodIn wsX5_move (wsV RX5 59 RX5 yX5_pe wsX5_pe) := goodIn_app (goodIn_of _ (by decide +kernel)) ggX5_move_X5_pe
set_option maxRecDepth 20000 in
theorem ggX5_move_X5_put : GoodIn wsX5_move wsX5_put := goodIn_r _ [28, 24, 29, 30, 31, 32, 33, 34, 35, 36, 37] (by decide +kernel) (by decide +kernel)
set_option maxRecDepth 20000 in
theorem gX5_move_X5_put : GoodIn wsX5_move (wsV RX5 81 RX5 yX5_put wsX5_put) := goodIn_app (goodIn_of _ (by decide +kernel)) ggX5_move_X5_put
theorem dX5_move_0 : decode cX5_move 0 = .ok (.aload_n 0, 1) := by decide +kernel
theorem dX5_move_1 : decode cX5_move 1 = .ok (.iconst 0, 1) := by decide +kernel
theorem dX5_move_2 : decode cX5_move 2 = .ok (.putfield 28, 3) := by decide +kernel
theorem dX5_move_5 : decode cX5_move 5 = .ok (.aload_n 0, 1) := by decide +kernel
theorem dX5_move_6 : decode cX5_move 6 = .ok (.iload_n 1, 1) := by decide +kernel
theorem dX5_move_7 : decode cX5_move 7 = .ok (.invokevirtual 78, 3) := by decide +kernel
theorem dX5_move_10 : decode cX5_move 10 = .ok (.ifCond .eq 11, 3) := by decide +kernel
theorem dX5_move_13 : decode cX5_move 13 = .ok (.aload_n 0, 1) := by decide +kernel
theorem dX5_move_14 : decode cX5_move 14 = .ok (.iload_n 2, 1) := by decide +kernel
theorem dX5_move_15 : decode cX5_move 15 = .ok (.invokevirtual 55, 3) := by decide +kernel
theorem dX5_move_18 : decode cX5_move 18 = .ok (.ifCond .ne 9, 3) := by decide +kernel
theorem dX5_move_21 : decode cX5_move 21 = .ok (.aload_n 0, 1) := by decide +kernel
theorem dX5_move_22 : decode cX5_move 22 = .ok (.iconst 1, 1) := by decide +kernel
theorem dX5_move_23 : decode cX5_move 23 = .ok (.invokevirtual 52, 3) := by decide +kernel
theorem dX5_move_26 : decode cX5_move 26 = .ok (.ireturn, 1) := by decide +kernel
theorem dX5_move_27 : decode cX5_move 27 = .ok (.aload_n 0, 1) := by decide +kernel
theorem dX5_move_28 : decode cX5_move 28 = .ok (.iload_n 1, 1) := by decide +kernel
theorem dX5_move_29 : decode cX5_move 29 = .ok (.iconst 5, 1) := by decide +kernel
theorem dX5_move_30 : decode cX5_move 30 = .ok (.invokevirtual 59, 3) := by decide +kernel
theorem dX5_move_33 : decode cX5_move 33 = .ok (.iconst 1, 1) := by decide +kernel
theorem dX5_move_34 : decode cX5_move 34 = .ok (.if_icmp .ne 9, 3) := by decide +kernel
theorem dX5_move_37 : decode cX5_move 37 = .ok (.aload_n 0, 1) := by decide +kernel
theorem dX5_move_38 : decode cX5_move 38 = .ok (.iconst 2, 1) := by decide +kernel
theorem dX5_move_39 : decode cX5_move 39 = .ok (.invokevirtual 52, 3) := by decide +kernel
theorem dX5_move_42 : decode cX5_move 42 = .ok (.ireturn, 1) := by decide +kernel
theorem dX5_move_43 : decode cX5_move 43 = .ok (.aload_n 0, 1) := by decide +kernel
theorem dX5_move_44 : decode cX5_move 44 = .ok (.iload_n 1, 1) := by decide +kernel
theorem dX5_move_45 : decode cX5_move 45 = .ok (.iconst 0, 1) := by decide +kernel
theorem dX5_move_46 : decode cX5_move 46 = .ok (.invokevirtual 59, 3) := by decide +kernel
theorem dX5_move_49 : decode cX5_move 49 = .ok (.istore_n 3, 1) := by decide +kernel
theorem dX5_move_50 : decode cX5_move 50 = .ok (.aload_n 0, 1) := by decide +kernel
theorem dX5_move_51 : decode cX5_move 51 = .ok (.iload_n 1, 1) := by decide +kernel
theorem dX5_move_52 : decode cX5_move 52 = .ok (.iconst 0, 1) := by decide +kernel
theorem dX5_move_53 : decode cX5_move 53 = .ok (.iload_n 2, 1) := by decide +kernel
theorem dX5_move_54 : decode cX5_move 54 = .ok (.invokevirtual 81, 3) := by decide +kernel
theorem dX5_move_57 : decode cX5_move 57 = .ok (.iload_n 3, 1) := by decide +kernel
theorem dX5_move_58 : decode cX5_move 58 = .ok (.ireturn, 1) := by decide +kernel
set_option maxRecDepth 20000 in
theorem ggX5_leave_X5_isGuest : GoodIn wsX5_leave wsX5_isGuest := goodIn_r _ [6, 7, 8, 9, 5, 10, 24, 25, 26, 27, 28, 29, 30, 31, 32] (by decide +kernel) (by decide +kernel)
set_option maxRecDepth 20000 in
theorem gX5_leave_X5_isGuest : GoodIn wsX5_leave (wsV RX5 78 RX5 yX5_isGuest wsX5_isGuest) := goodIn_app (goodIn_of _ (by decide +kernel)) ggX5_leave_X5_isGuest
set_option maxRecDepth 20000 in
theorem ggX5_leave_X5_fail : GoodIn wsX5_leave wsX5_fail := goodIn_r _ [14, 1, 24, 25, 26, 27, 28, 29, 30, 31, 32] (by decide +kernel) (by decide +kernel)
set_option maxRecDepth 20000 in
theorem gX5_leave_X5_fail : GoodIn wsX5_leave (wsV RX5 52 RX5 yX5_fail wsX5_fail) := goodIn_app (goodIn_of _ (by decide +kernel)) ggX5_leave_X5_fail
set_option maxRecDepth 20000 in
theorem ggX5_leave_X5_pe : GoodIn wsX5_leave wsX5_pe := goodIn_r _ [18, 19, 24, 25, 26, 27, 28, 29, 30, 31, 32] (by decide +kernel) (by decide +kernel)
set_option maxRecDepth 20000 in
theorem gX5_leave_X5_pe : GoodIn wsX5_leave (wsV RX5 59 RX5 yX5_pe wsX5_pe) := goodIn_app (goodIn_of _ (by decide +kernel)) ggX5_leave_X5_pe
set_option maxRecDepth 20000 in
theorem ggX5_leave_X5_put : GoodIn wsX5_leave wsX5_put := goodIn_r _ [23, 19, 24, 25, 26, 27, 28, 29, 30, 31, 32] (by decide +kernel) (by decide +kernel)
set_option maxRecDepth 20000 in
theorem gX5_leave_X5_put : GoodIn wsX5_leave (wsV RX5 81 RX5 yX5_put wsX5_put) := goodIn_app (goodIn_of _ (by decide +kernel)) ggX5_leave_X5_put
theorem dX5_leave_0 : decode cX5_leave 0 = .ok (.aload_n 0, 1) := by decide +kernel
theorem dX5_leave_1 : decode cX5_leave 1 = .ok (.iconst 0, 1) := by decide +kernel
theorem dX5_leave_2 : decode cX5_leave 2 = .ok (.putfield 28, 3) := by decide +kernel
theorem dX5_leave_5 : decode cX5_leave 5 = .ok (.aload_n 0, 1) := by decide +kernel
theorem dX5_leave_6 : decode cX5_leave 6 = .ok (.iload_n 1, 1) := by decide +kernel
theorem dX5_leave_7 : decode cX5_leave 7 = .ok (.invokevirtual 78, 3) := by decide +kernel
theorem dX5_leave_10 : decode cX5_leave 10 = .ok (.ifCond .ne 9, 3) := by decide +kernel
theorem dX5_leave_13 : decode cX5_leave 13 = .ok (.aload_n 0, 1) := by decide +kernel
theorem dX5_leave_14 : decode cX5_leave 14 = .ok (.iconst 1, 1) := by decide +kernel
theorem dX5_leave_15 : decode cX5_leave 15 = .ok (.invokevirtual 52, 3) := by decide +kernel
theorem dX5_leave_18 : decode cX5_leave 18 = .ok (.ireturn, 1) := by decide +kernel
theorem dX5_leave_19 : decode cX5_leave 19 = .ok (.aload_n 0, 1) := by decide +kernel
theorem dX5_leave_20 : decode cX5_leave 20 = .ok (.iload_n 1, 1) := by decide +kernel
theorem dX5_leave_21 : decode cX5_leave 21 = .ok (.iconst 5, 1) := by decide +kernel
theorem dX5_leave_22 : decode cX5_leave 22 = .ok (.invokevirtual 59, 3) := by decide +kernel
theorem dX5_leave_25 : decode cX5_leave 25 = .ok (.iconst 1, 1) := by decide +kernel
theorem dX5_leave_26 : decode cX5_leave 26 = .ok (.if_icmp .ne 9, 3) := by decide +kernel
theorem dX5_leave_29 : decode cX5_leave 29 = .ok (.aload_n 0, 1) := by decide +kernel
theorem dX5_leave_30 : decode cX5_leave 30 = .ok (.iconst 2, 1) := by decide +kernel
theorem dX5_leave_31 : decode cX5_leave 31 = .ok (.invokevirtual 52, 3) := by decide +kernel
theorem dX5_leave_34 : decode cX5_leave 34 = .ok (.ireturn, 1) := by decide +kernel
theorem dX5_leave_35 : decode cX5_leave 35 = .ok (.aload_n 0, 1) := by decide +kernel
theorem dX5_leave_36 : decode cX5_leave 36 = .ok (.iload_n 1, 1) := by decide +kernel
theorem dX5_leave_37 : decode cX5_leave 37 = .ok (.iconst 5, 1) := by decide +kernel
theorem dX5_leave_38 : decode cX5_leave 38 = .ok (.iconst 1, 1) := by decide +kernel
theorem dX5_leave_39 : decode cX5_leave 39 = .ok (.invokevirtual 81, 3) := by decide +kernel
theorem dX5_leave_42 : decode cX5_leave 42 = .ok (.aload_n 0, 1) := by decide +kernel
theorem dX5_leave_43 : decode cX5_leave 43 = .ok (.iload_n 1, 1) := by decide +kernel
theorem dX5_leave_44 : decode cX5_leave 44 = .ok (.iconst 2, 1) := by decide +kernel
theorem dX5_leave_45 : decode cX5_leave 45 = .ok (.iconst 0, 1) := by decide +kernel
theorem dX5_leave_46 : decode cX5_leave 46 = .ok (.invokevirtual 81, 3) := by decide +kernel
theorem dX5_leave_49 : decode cX5_leave 49 = .ok (.aload_n 0, 1) := by decide +kernel
theorem dX5_leave_50 : decode cX5_leave 50 = .ok (.iload_n 1, 1) := by decide +kernel
theorem dX5_leave_51 : decode cX5_leave 51 = .ok (.iconst 4, 1) := by decide +kernel
theorem dX5_leave_52 : decode cX5_leave 52 = .ok (.invokevirtual 59, 3) := by decide +kernel
theorem dX5_leave_55 : decode cX5_leave 55 = .ok (.ireturn, 1) := by decide +kernel
set_option maxRecDepth 20000 in
theorem ggX5_hush_X5_isGuest : GoodIn wsX5_hush wsX5_isGuest := goodIn_r _ [6, 7, 8, 9, 5, 10, 24, 25, 26, 27, 28, 29, 30, 31, 32] (by decide +kernel) (by decide +kernel)
set_option maxRecDepth 20000 in
theorem gX5_hush_X5_isGuest : GoodIn wsX5_hush (wsV RX5 78 RX5 yX5_isGuest wsX5_isGuest) := goodIn_app (goodIn_of _ (by decide +kernel)) ggX5_hush_X5_isGuest
set_option maxRecDepth 20000 in
theorem ggX5_hush_X5_fail : GoodIn wsX5_hush wsX5_fail := goodIn_r _ [14, 1, 24, 25, 26, 27, 28, 29, 30, 31, 32] (by decide +kernel) (by decide +kernel)
set_option maxRecDepth 20000 in
theorem gX5_hush_X5_fail : GoodIn wsX5_hush (wsV RX5 52 RX5 yX5_fail wsX5_fail) := goodIn_app (goodIn_of _ (by decide +kernel)) ggX5_hush_X5_fail
set_option maxRecDepth 20000 in
theorem ggX5_hush_X5_isIn : GoodIn wsX5_hush wsX5_isIn := goodIn_r _ [10] (by decide +kernel) (by decide +kernel)
set_option maxRecDepth 20000 in
theorem gX5_hush_X5_isIn : GoodIn wsX5_hush (va_wsS RX5 32 yX5_isIn wsX5_isIn) := goodIn_app (goodIn_of _ (by decide +kernel)) ggX5_hush_X5_isIn
set_option maxRecDepth 20000 in
theorem ggX5_hush_X5_pe : GoodIn wsX5_hush wsX5_pe := goodIn_r _ [18, 19, 24, 25, 26, 27, 28, 29, 30, 31, 32] (by decide +kernel) (by decide +kernel)
set_option maxRecDepth 20000 in
theorem gX5_hush_X5_pe : GoodIn wsX5_hush (wsV RX5 59 RX5 yX5_pe wsX5_pe) := goodIn_app (goodIn_of _ (by decide +kernel)) ggX5_hush_X5_pe
set_option maxRecDepth 20000 in
theorem ggX5_hush_X5_put : GoodIn wsX5_hush wsX5_put := goodIn_r _ [23, 19, 24, 25, 26, 27, 28, 29, 30, 31, 32] (by decide +kernel) (by decide +kernel)
set_option maxRecDepth 20000 in
theorem gX5_hush_X5_put : GoodIn wsX5_hush (wsV RX5 81 RX5 yX5_put wsX5_put) := goodIn_app (goodIn_of _ (by decide +kernel)) ggX5_hush_X5_put
theorem dX5_hush_0 : decode cX5_hush 0 = .ok (.aload_n 0, 1) := by decide +kernel
theorem dX5_hush_1 : decode cX5_hush 1 = .ok (.iconst 0, 1) := by decide +kernel
theorem dX5_hush_2 : decode cX5_hush 2 = .ok (.putfield 28, 3) := by decide +kernel
theorem dX5_hush_5 : decode cX5_hush 5 = .ok (.aload_n 0, 1) := by decide +kernel
theorem dX5_hush_6 : decode cX5_hush 6 = .ok (.iload_n 1, 1) := by decide +kernel
theorem dX5_hush_7 : decode cX5_hush 7 = .ok (.invokevirtual 78, 3) := by decide +kernel
theorem dX5_hush_10 : decode cX5_hush 10 = .ok (.ifCond .ne 9, 3) := by decide +kernel
theorem dX5_hush_13 : decode cX5_hush 13 = .ok (.aload_n 0, 1) := by decide +kernel
theorem dX5_hush_14 : decode cX5_hush 14 = .ok (.iconst 1, 1) := by decide +kernel
theorem dX5_hush_15 : decode cX5_hush 15 = .ok (.invokevirtual 52, 3) := by decide +kernel
theorem dX5_hush_18 : decode cX5_hush 18 = .ok (.ireturn, 1) := by decide +kernel
theorem dX5_hush_19 : decode cX5_hush 19 = .ok (.iload_n 2, 1) := by decide +kernel
theorem dX5_hush_20 : decode cX5_hush 20 = .ok (.iconst 0, 1) := by decide +kernel
theorem dX5_hush_21 : decode cX5_hush 21 = .ok (.bipush 9, 2) := by decide +kernel
theorem dX5_hush_23 : decode cX5_hush 23 = .ok (.invokestatic 32, 3) := by decide +kernel
theorem dX5_hush_26 : decode cX5_hush 26 = .ok (.ifCond .ne 9, 3) := by decide +kernel
theorem dX5_hush_29 : decode cX5_hush 29 = .ok (.aload_n 0, 1) := by decide +kernel
theorem dX5_hush_30 : decode cX5_hush 30 = .ok (.iconst 2, 1) := by decide +kernel
theorem dX5_hush_31 : decode cX5_hush 31 = .ok (.invokevirtual 52, 3) := by decide +kernel
theorem dX5_hush_34 : decode cX5_hush 34 = .ok (.ireturn, 1) := by decide +kernel
theorem dX5_hush_35 : decode cX5_hush 35 = .ok (.aload_n 0, 1) := by decide +kernel
theorem dX5_hush_36 : decode cX5_hush 36 = .ok (.iload_n 1, 1) := by decide +kernel
theorem dX5_hush_37 : decode cX5_hush 37 = .ok (.iconst 1, 1) := by decide +kernel
theorem dX5_hush_38 : decode cX5_hush 38 = .ok (.invokevirtual 59, 3) := by decide +kernel
theorem dX5_hush_41 : decode cX5_hush 41 = .ok (.istore_n 3, 1) := by decide +kernel
theorem dX5_hush_42 : decode cX5_hush 42 = .ok (.aload_n 0, 1) := by decide +kernel
theorem dX5_hush_43 : decode cX5_hush 43 = .ok (.iload_n 1, 1) := by decide +kernel
theorem dX5_hush_44 : decode cX5_hush 44 = .ok (.iconst 1, 1) := by decide +kernel
theorem dX5_hush_45 : decode cX5_hush 45 = .ok (.iload_n 2, 1) := by decide +kernel
theorem dX5_hush_46 : decode cX5_hush 46 = .ok (.invokevirtual 81, 3) := by decide +kernel
theorem dX5_hush_49 : decode cX5_hush 49 = .ok (.iload_n 3, 1) := by decide +kernel
theorem dX5_hush_50 : decode cX5_hush 50 = .ok (.ireturn, 1) := by decide +kernel
set_option maxRecDepth 20000 in
theorem ggX5_guest_X5_isGuest : GoodIn wsX5_guest wsX5_isGuest := goodIn_r _ [6, 7, 8, 9, 5, 10, 20, 21, 22, 23, 24, 25, 26, 27, 28] (by decide +kernel) (by decide +kernel)
set_option maxRecDepth 20000 in
theorem gX5_guest_X5_isGuest : GoodIn wsX5_guest (wsV RX5 78 RX5 yX5_isGuest wsX5_isGuest) := goodIn_app (goodIn_of _ (by decide +kernel)) ggX5_guest_X5_isGuest
set_option maxRecDepth 20000 in
theorem ggX5_guest_X5_isIn : GoodIn wsX5_guest wsX5_isIn := goodIn_r _ [10] (by decide +kernel) (by decide +kernel)
set_option maxRecDepth 20000 in
theorem gX5_guest_X5_isIn : GoodIn wsX5_guest (va_wsS RX5 32 yX5_isIn wsX5_isIn) := goodIn_app (goodIn_of _ (by decide +kernel)) ggX5_guest_X5_isIn
set_option maxRecDepth 20000 in
theorem ggX5_guest_X5_pe : GoodIn wsX5_guest wsX5_pe := goodIn_r _ [14, 15, 20, 21, 22, 23, 24, 25, 26, 27, 28] (by decide +kernel) (by decide +kernel)
set_option maxRecDepth 20000 in
theorem gX5_guest_X5_pe : GoodIn wsX5_guest (wsV RX5 59 RX5 yX5_pe wsX5_pe) := goodIn_app (goodIn_of _ (by decide +kernel)) ggX5_guest_X5_pe
set_option maxRecDepth 20000 in
theorem ggX5_guest_X5_fail : GoodIn wsX5_guest wsX5_fail := goodIn_r _ [19, 1, 20, 21, 22, 23, 24, 25, 26, 27, 28] (by decide +kernel) (by decide +kernel)
set_option maxRecDepth 20000 in
theorem gX5_guest_X5_fail : GoodIn wsX5_guest (wsV RX5 52 RX5 yX5_fail wsX5_fail) := goodIn_app (goodIn_of _ (by decide +kernel)) ggX5_guest_X5_fail
theorem dX5_guest_0 : decode cX5_guest 0 = .ok (.aload_n 0, 1) := by decide +kernel
theorem dX5_guest_1 : decode cX5_guest 1 = .ok (.iconst 0, 1) := by decide +kernel
theorem dX5_guest_2 : decode cX5_guest 2 = .ok (.putfield 28, 3) := by decide +kernel
theorem dX5_guest_5 : decode cX5_guest 5 = .ok (.aload_n 0, 1) := by decide +kernel
theorem dX5_guest_6 : decode cX5_guest 6 = .ok (.iload_n 1, 1) := by decide +kernel
theorem dX5_guest_7 : decode cX5_guest 7 = .ok (.invokevirtual 78, 3) := by decide +kernel
theorem dX5_guest_10 : decode cX5_guest 10 = .ok (.ifCond .eq 21, 3) := by decide +kernel
theorem dX5_guest_13 : decode cX5_guest 13 = .ok (.iload_n 2, 1) := by decide +kernel
theorem dX5_guest_14 : decode cX5_guest 14 = .ok (.iconst 0, 1) := by decide +kernel
theorem dX5_guest_15 : decode cX5_guest 15 = .ok (.iconst 5, 1) := by decide +kernel
theorem dX5_guest_16 : decode cX5_guest 16 = .ok (.invokestatic 32, 3) := by decide +kernel
theorem dX5_guest_19 : decode cX5_guest 19 = .ok (.ifCond .eq 12, 3) := by decide +kernel
theorem dX5_guest_22 : decode cX5_guest 22 = .ok (.aload_n 0, 1) := by decide +kernel
theorem dX5_guest_23 : decode cX5_guest 23 = .ok (.iload_n 1, 1) := by decide +kernel
theorem dX5_guest_24 : decode cX5_guest 24 = .ok (.iload_n 2, 1) := by decide +kernel
theorem dX5_guest_25 : decode cX5_guest 25 = .ok (.invokevirtual 59, 3) := by decide +kernel
theorem dX5_guest_28 : decode cX5_guest 28 = .ok (.goto 8, 3) := by decide +kernel
theorem dX5_guest_31 : decode cX5_guest 31 = .ok (.aload_n 0, 1) := by decide +kernel
theorem dX5_guest_32 : decode cX5_guest 32 = .ok (.iconst 1, 1) := by decide +kernel
theorem dX5_guest_33 : decode cX5_guest 33 = .ok (.invokevirtual 52, 3) := by decide +kernel
theorem dX5_guest_36 : decode cX5_guest 36 = .ok (.ireturn, 1) := by decide +kernel
set_option maxRecDepth 20000 in
theorem ggX5_all_X5_pe : GoodIn wsX5_all wsX5_pe := goodIn_r _ [6, 7, 8, 9, 10, 11, 12, 13, 14, 15, 16] (by decide +kernel) (by decide +kernel)
set_option maxRecDepth 20000 in
theorem gX5_all_X5_pe : GoodIn wsX5_all (wsV RX5 59 RX5 yX5_pe wsX5_pe) := goodIn_app (goodIn_of _ (by decide +kernel)) ggX5_all_X5_pe
theorem dX5_all_0 : decode cX5_all 0 = .ok (.iconst 0, 1) := by decide +kernel
theorem dX5_all_1 : decode cX5_all 1 = .ok (.istore_n 2, 1) := by decide +kernel
theorem dX5_all_2 : decode cX5_all 2 = .ok (.iconst 0, 1) := by decide +kernel
theorem dX5_all_3 : decode cX5_all 3 = .ok (.istore_n 3, 1) := by decide +kernel
theorem dX5_all_4 : decode cX5_all 4 = .ok (.iload_n 3, 1) := by decide +kernel
theorem dX5_all_5 : decode cX5_all 5 = .ok (.aload_n 0, 1) := by decide +kernel
theorem dX5_all_6 : decode cX5_all 6 = .ok (.getfield 39, 3) := by decide +kernel
theorem dX5_all_9 : decode cX5_all 9 = .ok (.if_icmp .ge 18, 3) := by decide +kernel
theorem dX5_all_12 : decode cX5_all 12 = .ok (.iload_n 2, 1) := by decide +kernel
theorem dX5_all_13 : decode cX5_all 13 = .ok (.aload_n 0, 1) := by decide +kernel
theorem dX5_all_14 : decode cX5_all 14 = .ok (.iload_n 3, 1) := by decide +kernel
theorem dX5_all_15 : decode cX5_all 15 = .ok (.iload_n 1, 1) := by decide +kernel
theorem dX5_all_16 : decode cX5_all 16 = .ok (.invokevirtual 59, 3) := by decide +kernel
theorem dX5_all_19 : decode cX5_all 19 = .ok (.iadd, 1) := by decide +kernel
theorem dX5_all_20 : decode cX5_all 20 = .ok (.istore_n 2, 1) := by decide +kernel
theorem dX5_all_21 : decode cX5_all 21 = .ok (.iinc 3 1, 3) := by decide +kernel
theorem dX5_all_24 : decode cX5_all 24 = .ok (.goto (-20), 3) := by decide +kernel
theorem dX5_all_27 : decode cX5_all 27 = .ok (.iload_n 2, 1) := by decide +kernel
theorem dX5_all_28 : decode cX5_all 28 = .ok (.ireturn, 1) := by decide +kernel
theorem dX5_flies_0 : decode cX5_flies 0 = .ok (.iconst 0, 1) := by decide +kernel
theorem dX5_flies_1 : decode cX5_flies 1 = .ok (.istore_n 1, 1) := by decide +kernel
theorem dX5_flies_2 : decode cX5_flies 2 = .ok (.aload_n 0, 1) := by decide +kernel
theorem dX5_flies_3 : decode cX5_flies 3 = .ok (.getfield 9, 3) := by decide +kernel
theorem dX5_flies_6 : decode cX5_flies 6 = .ok (.astore_n 2, 1) := by decide +kernel
theorem dX5_flies_7 : decode cX5_flies 7 = .ok (.aload_n 2, 1) := by decide +kernel
theorem dX5_flies_8 : decode cX5_flies 8 = .ok (.arraylength, 1) := by decide +kernel
theorem dX5_flies_9 : decode cX5_flies 9 = .ok (.istore_n 3, 1) := by decide +kernel
theorem dX5_flies_10 : decode cX5_flies 10 = .ok (.iconst 0, 1) := by decide +kernel
theorem dX5_flies_11 : decode cX5_flies 11 = .ok (.istore 4, 2) := by decide +kernel
theorem dX5_flies_13 : decode cX5_flies 13 = .ok (.iload 4, 2) := by decide +kernel
theorem dX5_flies_15 : decode cX5_flies 15 = .ok (.iload_n 3, 1) := by decide +kernel
theorem dX5_flies_16 : decode cX5_flies 16 = .ok (.if_icmp .ge 20, 3) := by decide +kernel
theorem dX5_flies_19 : decode cX5_flies 19 = .ok (.aload_n 2, 1) := by decide +kernel
theorem dX5_flies_20 : decode cX5_flies 20 = .ok (.iload 4, 2) := by decide +kernel
theorem dX5_flies_22 : decode cX5_flies 22 = .ok (.iaload, 1) := by decide +kernel
theorem dX5_flies_23 : decode cX5_flies 23 = .ok (.istore 5, 2) := by decide +kernel
theorem dX5_flies_25 : decode cX5_flies 25 = .ok (.iload_n 1, 1) := by decide +kernel
theorem dX5_flies_26 : decode cX5_flies 26 = .ok (.iload 5, 2) := by decide +kernel
theorem dX5_flies_28 : decode cX5_flies 28 = .ok (.iadd, 1) := by decide +kernel
theorem dX5_flies_29 : decode cX5_flies 29 = .ok (.istore_n 1, 1) := by decide +kernel
theorem dX5_flies_30 : decode cX5_flies 30 = .ok (.iinc 4 1, 3) := by decide +kernel
theorem dX5_flies_33 : decode cX5_flies 33 = .ok (.goto (-20), 3) := by decide +kernel
theorem dX5_flies_36 : decode cX5_flies 36 = .ok (.iload_n 1, 1) := by decide +kernel
theorem dX5_flies_37 : decode cX5_flies 37 = .ok (.ireturn, 1) := by decide +kernel
set_option maxRecDepth 20000 in
theorem ggX5_counted_X5_moon : GoodIn wsX5_counted wsX5_moon := goodIn_r _ [8, 9, 10, 11, 12] (by decide +kernel) (by decide +kernel)
set_option maxRecDepth 20000 in
theorem gX5_counted_X5_moon : GoodIn wsX5_counted (va_wsS RX5 85 yX5_moon wsX5_moon) := goodIn_app (goodIn_of _ (by decide +kernel)) ggX5_counted_X5_moon
set_option maxRecDepth 20000 in
theorem ggX5_counted_X5_flies : GoodIn wsX5_counted wsX5_flies := goodIn_r _ [16, 17, 32, 33, 34, 35, 36, 37, 38, 39, 40] (by decide +kernel) (by decide +kernel)
set_option maxRecDepth 20000 in
theorem gX5_counted_X5_flies : GoodIn wsX5_counted (wsV RX5 88 RX5 yX5_flies wsX5_flies) := goodIn_app (goodIn_of _ (by decide +kernel)) ggX5_counted_X5_flies
set_option maxRecDepth 20000 in
theorem ggX5_counted_X5_all : GoodIn wsX5_counted wsX5_all := goodIn_r _ [21, 4, 22, 23, 24, 7, 25, 26, 32, 33, 34, 35, 36, 37, 38, 39, 40] (by decide +kernel) (by decide +kernel)
set_option maxRecDepth 20000 in
theorem gX5_counted_X5_all : GoodIn wsX5_counted (wsV RX5 92 RX5 yX5_all wsX5_all) := goodIn_app (goodIn_of _ (by decide +kernel)) ggX5_counted_X5_all
set_option maxRecDepth 20000 in
theorem ggX5_counted_X5_lit : GoodIn wsX5_counted wsX5_lit := goodIn_r _ [30, 2, 3, 31, 9, 10, 11, 12, 32, 33, 34, 35, 36, 37, 38, 39, 40] (by decide +kernel) (by decide +kernel)
set_option maxRecDepth 20000 in
theorem gX5_counted_X5_lit : GoodIn wsX5_counted (wsV RX5 69 RX5 yX5_lit wsX5_lit) := goodIn_app (goodIn_of _ (by decide +kernel)) ggX5_counted_X5_lit
theorem dX5_counted_0 : decode cX5_counted 0 = .ok (.iconst 0, 1) := by decide +kernel
theorem dX5_counted_1 : decode cX5_counted 1 = .ok (.istore_n 2, 1) := by decide +kernel
theorem dX5_counted_2 : decode cX5_counted 2 = .ok (.iload_n 1, 1) := by decide +kernel
theorem dX5_counted_3 : decode cX5_counted 3 = .ok (.tableswitch 123 0 7 #[45, 52, 62, 67, 72, 99, 110, 116], 45) := by decide +kernel
theorem dX5_counted_48 : decode cX5_counted 48 = .ok (.aload_n 0, 1) := by decide +kernel
theorem dX5_counted_49 : decode cX5_counted 49 = .ok (.getfield 22, 3) := by decide +kernel
theorem dX5_counted_52 : decode cX5_counted 52 = .ok (.iconst 0, 1) := by decide +kernel
theorem dX5_counted_53 : decode cX5_counted 53 = .ok (.iaload, 1) := by decide +kernel
theorem dX5_counted_54 : decode cX5_counted 54 = .ok (.ireturn, 1) := by decide +kernel
theorem dX5_counted_55 : decode cX5_counted 55 = .ok (.aload_n 0, 1) := by decide +kernel
theorem dX5_counted_56 : decode cX5_counted 56 = .ok (.getfield 22, 3) := by decide +kernel
theorem dX5_counted_59 : decode cX5_counted 59 = .ok (.iconst 0, 1) := by decide +kernel
theorem dX5_counted_60 : decode cX5_counted 60 = .ok (.iaload, 1) := by decide +kernel
theorem dX5_counted_61 : decode cX5_counted 61 = .ok (.invokestatic 85, 3) := by decide +kernel
theorem dX5_counted_64 : decode cX5_counted 64 = .ok (.ireturn, 1) := by decide +kernel
theorem dX5_counted_65 : decode cX5_counted 65 = .ok (.aload_n 0, 1) := by decide +kernel
theorem dX5_counted_66 : decode cX5_counted 66 = .ok (.invokevirtual 88, 3) := by decide +kernel
theorem dX5_counted_69 : decode cX5_counted 69 = .ok (.ireturn, 1) := by decide +kernel
theorem dX5_counted_70 : decode cX5_counted 70 = .ok (.aload_n 0, 1) := by decide +kernel
theorem dX5_counted_71 : decode cX5_counted 71 = .ok (.getfield 36, 3) := by decide +kernel
theorem dX5_counted_74 : decode cX5_counted 74 = .ok (.ireturn, 1) := by decide +kernel
theorem dX5_counted_75 : decode cX5_counted 75 = .ok (.iconst 0, 1) := by decide +kernel
theorem dX5_counted_76 : decode cX5_counted 76 = .ok (.istore_n 3, 1) := by decide +kernel
theorem dX5_counted_77 : decode cX5_counted 77 = .ok (.iload_n 3, 1) := by decide +kernel
theorem dX5_counted_78 : decode cX5_counted 78 = .ok (.aload_n 0, 1) := by decide +kernel
theorem dX5_counted_79 : decode cX5_counted 79 = .ok (.getfield 36, 3) := by decide +kernel
theorem dX5_counted_82 : decode cX5_counted 82 = .ok (.if_icmp .ge 18, 3) := by decide +kernel
theorem dX5_counted_85 : decode cX5_counted 85 = .ok (.iload_n 2, 1) := by decide +kernel
theorem dX5_counted_86 : decode cX5_counted 86 = .ok (.aload_n 0, 1) := by decide +kernel
theorem dX5_counted_87 : decode cX5_counted 87 = .ok (.getfield 16, 3) := by decide +kernel
theorem dX5_counted_90 : decode cX5_counted 90 = .ok (.iload_n 3, 1) := by decide +kernel
theorem dX5_counted_91 : decode cX5_counted 91 = .ok (.iaload, 1) := by decide +kernel
theorem dX5_counted_92 : decode cX5_counted 92 = .ok (.iadd, 1) := by decide +kernel
theorem dX5_counted_93 : decode cX5_counted 93 = .ok (.istore_n 2, 1) := by decide +kernel
theorem dX5_counted_94 : decode cX5_counted 94 = .ok (.iinc 3 1, 3) := by decide +kernel
theorem dX5_counted_97 : decode cX5_counted 97 = .ok (.goto (-20), 3) := by decide +kernel
theorem dX5_counted_100 : decode cX5_counted 100 = .ok (.iload_n 2, 1) := by decide +kernel
theorem dX5_counted_101 : decode cX5_counted 101 = .ok (.ireturn, 1) := by decide +kernel
theorem dX5_counted_102 : decode cX5_counted 102 = .ok (.aload_n 0, 1) := by decide +kernel
theorem dX5_counted_103 : decode cX5_counted 103 = .ok (.getfield 39, 3) := by decide +kernel
theorem dX5_counted_106 : decode cX5_counted 106 = .ok (.aload_n 0, 1) := by decide +kernel
theorem dX5_counted_107 : decode cX5_counted 107 = .ok (.iconst 5, 1) := by decide +kernel
theorem dX5_counted_108 : decode cX5_counted 108 = .ok (.invokevirtual 92, 3) := by decide +kernel
theorem dX5_counted_111 : decode cX5_counted 111 = .ok (.isub, 1) := by decide +kernel
theorem dX5_counted_112 : decode cX5_counted 112 = .ok (.ireturn, 1) := by decide +kernel
theorem dX5_counted_113 : decode cX5_counted 113 = .ok (.aload_n 0, 1) := by decide +kernel
theorem dX5_counted_114 : decode cX5_counted 114 = .ok (.iconst 2, 1) := by decide +kernel
theorem dX5_counted_115 : decode cX5_counted 115 = .ok (.invokevirtual 92, 3) := by decide +kernel
theorem dX5_counted_118 : decode cX5_counted 118 = .ok (.ireturn, 1) := by decide +kernel
theorem dX5_counted_119 : decode cX5_counted 119 = .ok (.aload_n 0, 1) := by decide +kernel
theorem dX5_counted_120 : decode cX5_counted 120 = .ok (.getfield 22, 3) := by decide +kernel
theorem dX5_counted_123 : decode cX5_counted 123 = .ok (.iconst 1, 1) := by decide +kernel
theorem dX5_counted_124 : decode cX5_counted 124 = .ok (.iaload, 1) := by decide +kernel
theorem dX5_counted_125 : decode cX5_counted 125 = .ok (.ireturn, 1) := by decide +kernel
theorem dX5_counted_126 : decode cX5_counted 126 = .ok (.iconst 0, 1) := by decide +kernel
theorem dX5_counted_127 : decode cX5_counted 127 = .ok (.istore_n 3, 1) := by decide +kernel
theorem dX5_counted_128 : decode cX5_counted 128 = .ok (.iload_n 3, 1) := by decide +kernel
theorem dX5_counted_129 : decode cX5_counted 129 = .ok (.bipush 10, 2) := by decide +kernel
theorem dX5_counted_131 : decode cX5_counted 131 = .ok (.if_icmp .ge 25, 3) := by decide +kernel
theorem dX5_counted_134 : decode cX5_counted 134 = .ok (.iload_n 2, 1) := by decide +kernel
theorem dX5_counted_135 : decode cX5_counted 135 = .ok (.aload_n 0, 1) := by decide +kernel
theorem dX5_counted_136 : decode cX5_counted 136 = .ok (.iload_n 3, 1) := by decide +kernel
theorem dX5_counted_137 : decode cX5_counted 137 = .ok (.invokevirtual 69, 3) := by decide +kernel
theorem dX5_counted_140 : decode cX5_counted 140 = .ok (.ifCond .eq 7, 3) := by decide +kernel
theorem dX5_counted_143 : decode cX5_counted 143 = .ok (.iconst 1, 1) := by decide +kernel
theorem dX5_counted_144 : decode cX5_counted 144 = .ok (.goto 4, 3) := by decide +kernel
theorem dX5_counted_147 : decode cX5_counted 147 = .ok (.iconst 0, 1) := by decide +kernel
theorem dX5_counted_148 : decode cX5_counted 148 = .ok (.iadd, 1) := by decide +kernel
theorem dX5_counted_149 : decode cX5_counted 149 = .ok (.istore_n 2, 1) := by decide +kernel
theorem dX5_counted_150 : decode cX5_counted 150 = .ok (.iinc 3 1, 3) := by decide +kernel
theorem dX5_counted_153 : decode cX5_counted 153 = .ok (.goto (-25), 3) := by decide +kernel
theorem dX5_counted_156 : decode cX5_counted 156 = .ok (.iload_n 2, 1) := by decide +kernel
theorem dX5_counted_157 : decode cX5_counted 157 = .ok (.ireturn, 1) := by decide +kernel
set_option maxRecDepth 20000 in
theorem ggX5_count_X5_isIn : GoodIn wsX5_count wsX5_isIn := goodIn_r _ [5] (by decide +kernel) (by decide +kernel)
set_option maxRecDepth 20000 in
theorem gX5_count_X5_isIn : GoodIn wsX5_count (va_wsS RX5 32 yX5_isIn wsX5_isIn) := goodIn_app (goodIn_of _ (by decide +kernel)) ggX5_count_X5_isIn
set_option maxRecDepth 20000 in
theorem ggX5_count_X5_counted : GoodIn wsX5_count wsX5_counted := goodIn_r _ [9, 10, 11, 12, 13, 14, 15, 4, 16, 17, 18, 19, 20, 21, 22, 23, 24, 25, 26, 27, 28, 29, 30, 31, 32, 33, 34, 35, 36, 37, 38, 39, 44, 45, 46, 47, 48, 49, 50, 51, 52] (by decide +kernel) (by decide +kernel)
set_option maxRecDepth 20000 in
theorem gX5_count_X5_counted : GoodIn wsX5_count (wsV RX5 95 RX5 yX5_counted wsX5_counted) := goodIn_app (goodIn_of _ (by decide +kernel)) ggX5_count_X5_counted
set_option maxRecDepth 20000 in
theorem ggX5_count_X5_fail : GoodIn wsX5_count wsX5_fail := goodIn_r _ [43, 1, 44, 45, 46, 47, 48, 49, 50, 51, 52] (by decide +kernel) (by decide +kernel)
set_option maxRecDepth 20000 in
theorem gX5_count_X5_fail : GoodIn wsX5_count (wsV RX5 52 RX5 yX5_fail wsX5_fail) := goodIn_app (goodIn_of _ (by decide +kernel)) ggX5_count_X5_fail
theorem dX5_count_0 : decode cX5_count 0 = .ok (.aload_n 0, 1) := by decide +kernel
theorem dX5_count_1 : decode cX5_count 1 = .ok (.iconst 0, 1) := by decide +kernel
theorem dX5_count_2 : decode cX5_count 2 = .ok (.putfield 28, 3) := by decide +kernel
theorem dX5_count_5 : decode cX5_count 5 = .ok (.iload_n 1, 1) := by decide +kernel
theorem dX5_count_6 : decode cX5_count 6 = .ok (.iconst 0, 1) := by decide +kernel
theorem dX5_count_7 : decode cX5_count 7 = .ok (.bipush 8, 2) := by decide +kernel
theorem dX5_count_9 : decode cX5_count 9 = .ok (.invokestatic 32, 3) := by decide +kernel
theorem dX5_count_12 : decode cX5_count 12 = .ok (.ifCond .eq 11, 3) := by decide +kernel
theorem dX5_count_15 : decode cX5_count 15 = .ok (.aload_n 0, 1) := by decide +kernel
theorem dX5_count_16 : decode cX5_count 16 = .ok (.iload_n 1, 1) := by decide +kernel
theorem dX5_count_17 : decode cX5_count 17 = .ok (.invokevirtual 95, 3) := by decide +kernel
theorem dX5_count_20 : decode cX5_count 20 = .ok (.goto 8, 3) := by decide +kernel
theorem dX5_count_23 : decode cX5_count 23 = .ok (.aload_n 0, 1) := by decide +kernel
theorem dX5_count_24 : decode cX5_count 24 = .ok (.iconst 1, 1) := by decide +kernel
theorem dX5_count_25 : decode cX5_count 25 = .ok (.invokevirtual 52, 3) := by decide +kernel
theorem dX5_count_28 : decode cX5_count 28 = .ok (.ireturn, 1) := by decide +kernel
set_option maxRecDepth 20000 in
theorem ggX5_aside_X5_lit : GoodIn wsX5_aside wsX5_lit := goodIn_r _ [5, 6, 7, 8, 9, 10, 11, 12, 13, 14, 15, 16, 17, 18, 19, 20, 21] (by decide +kernel) (by decide +kernel)
set_option maxRecDepth 20000 in
theorem gX5_aside_X5_lit : GoodIn wsX5_aside (wsV RX5 69 RX5 yX5_lit wsX5_lit) := goodIn_app (goodIn_of _ (by decide +kernel)) ggX5_aside_X5_lit
theorem dX5_aside_0 : decode cX5_aside 0 = .ok (.iload_n 1, 1) := by decide +kernel
theorem dX5_aside_1 : decode cX5_aside 1 = .ok (.ifCond .le 17, 3) := by decide +kernel
theorem dX5_aside_4 : decode cX5_aside 4 = .ok (.aload_n 0, 1) := by decide +kernel
theorem dX5_aside_5 : decode cX5_aside 5 = .ok (.iload_n 1, 1) := by decide +kernel
theorem dX5_aside_6 : decode cX5_aside 6 = .ok (.iconst 1, 1) := by decide +kernel
theorem dX5_aside_7 : decode cX5_aside 7 = .ok (.isub, 1) := by decide +kernel
theorem dX5_aside_8 : decode cX5_aside 8 = .ok (.invokevirtual 69, 3) := by decide +kernel
theorem dX5_aside_11 : decode cX5_aside 11 = .ok (.ifCond .ne 7, 3) := by decide +kernel
theorem dX5_aside_14 : decode cX5_aside 14 = .ok (.iload_n 1, 1) := by decide +kernel
theorem dX5_aside_15 : decode cX5_aside 15 = .ok (.iconst 1, 1) := by decide +kernel
theorem dX5_aside_16 : decode cX5_aside 16 = .ok (.isub, 1) := by decide +kernel
theorem dX5_aside_17 : decode cX5_aside 17 = .ok (.ireturn, 1) := by decide +kernel
theorem dX5_aside_18 : decode cX5_aside 18 = .ok (.iload_n 1, 1) := by decide +kernel
theorem dX5_aside_19 : decode cX5_aside 19 = .ok (.bipush 9, 2) := by decide +kernel
theorem dX5_aside_21 : decode cX5_aside 21 = .ok (.if_icmp .ge 19, 3) := by decide +kernel
theorem dX5_aside_24 : decode cX5_aside 24 = .ok (.aload_n 0, 1) := by decide +kernel
theorem dX5_aside_25 : decode cX5_aside 25 = .ok (.iload_n 1, 1) := by decide +kernel
theorem dX5_aside_26 : decode cX5_aside 26 = .ok (.iconst 1, 1) := by decide +kernel
theorem dX5_aside_27 : decode cX5_aside 27 = .ok (.iadd, 1) := by decide +kernel
theorem dX5_aside_28 : decode cX5_aside 28 = .ok (.invokevirtual 69, 3) := by decide +kernel
theorem dX5_aside_31 : decode cX5_aside 31 = .ok (.ifCond .ne 9, 3) := by decide +kernel
theorem dX5_aside_34 : decode cX5_aside 34 = .ok (.iload_n 1, 1) := by decide +kernel
theorem dX5_aside_35 : decode cX5_aside 35 = .ok (.iconst 1, 1) := by decide +kernel
theorem dX5_aside_36 : decode cX5_aside 36 = .ok (.iadd, 1) := by decide +kernel
theorem dX5_aside_37 : decode cX5_aside 37 = .ok (.goto 4, 3) := by decide +kernel
theorem dX5_aside_40 : decode cX5_aside 40 = .ok (.iconst (-1), 1) := by decide +kernel
theorem dX5_aside_41 : decode cX5_aside 41 = .ok (.ireturn, 1) := by decide +kernel
set_option maxRecDepth 20000 in
theorem ggX5_drive_X5_lit : GoodIn wsX5_drive wsX5_lit := goodIn_r _ [15, 16, 17, 18, 19, 20, 9, 21, 26, 27, 28, 29, 30, 31, 32, 33, 34] (by decide +kernel) (by decide +kernel)
set_option maxRecDepth 20000 in
theorem gX5_drive_X5_lit : GoodIn wsX5_drive (wsV RX5 69 RX5 yX5_lit wsX5_lit) := goodIn_app (goodIn_of _ (by decide +kernel)) ggX5_drive_X5_lit
set_option maxRecDepth 20000 in
theorem ggX5_drive_X5_aside : GoodIn wsX5_drive wsX5_aside := goodIn_r _ [25, 11, 12, 13, 14, 15, 16, 17, 18, 19, 20, 9, 21, 26, 27, 28, 29, 30, 31, 32, 33, 34] (by decide +kernel) (by decide +kernel)
set_option maxRecDepth 20000 in
theorem gX5_drive_X5_aside : GoodIn wsX5_drive (wsV RX5 98 RX5 yX5_aside wsX5_aside) := goodIn_app (goodIn_of _ (by decide +kernel)) ggX5_drive_X5_aside
theorem dX5_drive_0 : decode cX5_drive 0 = .ok (.aload_n 0, 1) := by decide +kernel
theorem dX5_drive_1 : decode cX5_drive 1 = .ok (.getfield 9, 3) := by decide +kernel
theorem dX5_drive_4 : decode cX5_drive 4 = .ok (.iconst 0, 1) := by decide +kernel
theorem dX5_drive_5 : decode cX5_drive 5 = .ok (.aload_n 0, 1) := by decide +kernel
theorem dX5_drive_6 : decode cX5_drive 6 = .ok (.getfield 25, 3) := by decide +kernel
theorem dX5_drive_9 : decode cX5_drive 9 = .ok (.iconst 0, 1) := by decide +kernel
theorem dX5_drive_10 : decode cX5_drive 10 = .ok (.bipush 50, 2) := by decide +kernel
theorem dX5_drive_12 : decode cX5_drive 12 = .ok (.invokestatic 72, 3) := by decide +kernel
theorem dX5_drive_15 : decode cX5_drive 15 = .ok (.iconst 0, 1) := by decide +kernel
theorem dX5_drive_16 : decode cX5_drive 16 = .ok (.istore_n 1, 1) := by decide +kernel
theorem dX5_drive_17 : decode cX5_drive 17 = .ok (.iload_n 1, 1) := by decide +kernel
theorem dX5_drive_18 : decode cX5_drive 18 = .ok (.bipush 10, 2) := by decide +kernel
theorem dX5_drive_20 : decode cX5_drive 20 = .ok (.if_icmp .ge 92, 3) := by decide +kernel
theorem dX5_drive_23 : decode cX5_drive 23 = .ok (.aload_n 0, 1) := by decide +kernel
theorem dX5_drive_24 : decode cX5_drive 24 = .ok (.iload_n 1, 1) := by decide +kernel
theorem dX5_drive_25 : decode cX5_drive 25 = .ok (.invokevirtual 69, 3) := by decide +kernel
theorem dX5_drive_28 : decode cX5_drive 28 = .ok (.ifCond .eq 11, 3) := by decide +kernel
theorem dX5_drive_31 : decode cX5_drive 31 = .ok (.aload_n 0, 1) := by decide +kernel
theorem dX5_drive_32 : decode cX5_drive 32 = .ok (.iload_n 1, 1) := by decide +kernel
theorem dX5_drive_33 : decode cX5_drive 33 = .ok (.invokevirtual 98, 3) := by decide +kernel
theorem dX5_drive_36 : decode cX5_drive 36 = .ok (.goto 4, 3) := by decide +kernel
theorem dX5_drive_39 : decode cX5_drive 39 = .ok (.iconst (-1), 1) := by decide +kernel
theorem dX5_drive_40 : decode cX5_drive 40 = .ok (.istore_n 2, 1) := by decide +kernel
theorem dX5_drive_41 : decode cX5_drive 41 = .ok (.iconst 0, 1) := by decide +kernel
theorem dX5_drive_42 : decode cX5_drive 42 = .ok (.istore_n 3, 1) := by decide +kernel
theorem dX5_drive_43 : decode cX5_drive 43 = .ok (.iload_n 3, 1) := by decide +kernel
theorem dX5_drive_44 : decode cX5_drive 44 = .ok (.iconst 5, 1) := by decide +kernel
theorem dX5_drive_45 : decode cX5_drive 45 = .ok (.if_icmp .ge 61, 3) := by decide +kernel
theorem dX5_drive_48 : decode cX5_drive 48 = .ok (.iload_n 2, 1) := by decide +kernel
theorem dX5_drive_49 : decode cX5_drive 49 = .ok (.iconst (-1), 1) := by decide +kernel
theorem dX5_drive_50 : decode cX5_drive 50 = .ok (.if_icmp .eq 56, 3) := by decide +kernel
theorem dX5_drive_53 : decode cX5_drive 53 = .ok (.aload_n 0, 1) := by decide +kernel
theorem dX5_drive_54 : decode cX5_drive 54 = .ok (.getfield 25, 3) := by decide +kernel
theorem dX5_drive_57 : decode cX5_drive 57 = .ok (.bipush 10, 2) := by decide +kernel
theorem dX5_drive_59 : decode cX5_drive 59 = .ok (.iload_n 3, 1) := by decide +kernel
theorem dX5_drive_60 : decode cX5_drive 60 = .ok (.imul, 1) := by decide +kernel
theorem dX5_drive_61 : decode cX5_drive 61 = .ok (.iload_n 1, 1) := by decide +kernel
theorem dX5_drive_62 : decode cX5_drive 62 = .ok (.iadd, 1) := by decide +kernel
theorem dX5_drive_63 : decode cX5_drive 63 = .ok (.iaload, 1) := by decide +kernel
theorem dX5_drive_64 : decode cX5_drive 64 = .ok (.iconst 2, 1) := by decide +kernel
theorem dX5_drive_65 : decode cX5_drive 65 = .ok (.idiv, 1) := by decide +kernel
theorem dX5_drive_66 : decode cX5_drive 66 = .ok (.istore 4, 2) := by decide +kernel
theorem dX5_drive_68 : decode cX5_drive 68 = .ok (.aload_n 0, 1) := by decide +kernel
theorem dX5_drive_69 : decode cX5_drive 69 = .ok (.getfield 9, 3) := by decide +kernel
theorem dX5_drive_72 : decode cX5_drive 72 = .ok (.bipush 10, 2) := by decide +kernel
theorem dX5_drive_74 : decode cX5_drive 74 = .ok (.iload_n 3, 1) := by decide +kernel
theorem dX5_drive_75 : decode cX5_drive 75 = .ok (.imul, 1) := by decide +kernel
theorem dX5_drive_76 : decode cX5_drive 76 = .ok (.iload_n 1, 1) := by decide +kernel
theorem dX5_drive_77 : decode cX5_drive 77 = .ok (.iadd, 1) := by decide +kernel
theorem dX5_drive_78 : decode cX5_drive 78 = .ok (.dup2, 1) := by decide +kernel
theorem dX5_drive_79 : decode cX5_drive 79 = .ok (.iaload, 1) := by decide +kernel
theorem dX5_drive_80 : decode cX5_drive 80 = .ok (.iload 4, 2) := by decide +kernel
theorem dX5_drive_82 : decode cX5_drive 82 = .ok (.isub, 1) := by decide +kernel
theorem dX5_drive_83 : decode cX5_drive 83 = .ok (.iastore, 1) := by decide +kernel
theorem dX5_drive_84 : decode cX5_drive 84 = .ok (.aload_n 0, 1) := by decide +kernel
theorem dX5_drive_85 : decode cX5_drive 85 = .ok (.getfield 9, 3) := by decide +kernel
theorem dX5_drive_88 : decode cX5_drive 88 = .ok (.bipush 10, 2) := by decide +kernel
theorem dX5_drive_90 : decode cX5_drive 90 = .ok (.iload_n 3, 1) := by decide +kernel
theorem dX5_drive_91 : decode cX5_drive 91 = .ok (.imul, 1) := by decide +kernel
theorem dX5_drive_92 : decode cX5_drive 92 = .ok (.iload_n 2, 1) := by decide +kernel
theorem dX5_drive_93 : decode cX5_drive 93 = .ok (.iadd, 1) := by decide +kernel
theorem dX5_drive_94 : decode cX5_drive 94 = .ok (.dup2, 1) := by decide +kernel
theorem dX5_drive_95 : decode cX5_drive 95 = .ok (.iaload, 1) := by decide +kernel
theorem dX5_drive_96 : decode cX5_drive 96 = .ok (.iload 4, 2) := by decide +kernel
theorem dX5_drive_98 : decode cX5_drive 98 = .ok (.iadd, 1) := by decide +kernel
theorem dX5_drive_99 : decode cX5_drive 99 = .ok (.iastore, 1) := by decide +kernel
theorem dX5_drive_100 : decode cX5_drive 100 = .ok (.iinc 3 1, 3) := by decide +kernel
theorem dX5_drive_103 : decode cX5_drive 103 = .ok (.goto (-60), 3) := by decide +kernel
theorem dX5_drive_106 : decode cX5_drive 106 = .ok (.iinc 1 1, 3) := by decide +kernel
theorem dX5_drive_109 : decode cX5_drive 109 = .ok (.goto (-92), 3) := by decide +kernel
theorem dX5_drive_112 : decode cX5_drive 112 = .ok (.iconst 0, 1) := by decide +kernel
theorem dX5_drive_113 : decode cX5_drive 113 = .ok (.istore_n 1, 1) := by decide +kernel
theorem dX5_drive_114 : decode cX5_drive 114 = .ok (.iload_n 1, 1) := by decide +kernel
theorem dX5_drive_115 : decode cX5_drive 115 = .ok (.bipush 50, 2) := by decide +kernel
theorem dX5_drive_117 : decode cX5_drive 117 = .ok (.if_icmp .ge 26, 3) := by decide +kernel
theorem dX5_drive_120 : decode cX5_drive 120 = .ok (.aload_n 0, 1) := by decide +kernel
theorem dX5_drive_121 : decode cX5_drive 121 = .ok (.getfield 9, 3) := by decide +kernel
theorem dX5_drive_124 : decode cX5_drive 124 = .ok (.iload_n 1, 1) := by decide +kernel
theorem dX5_drive_125 : decode cX5_drive 125 = .ok (.bipush 40, 2) := by decide +kernel
theorem dX5_drive_127 : decode cX5_drive 127 = .ok (.aload_n 0, 1) := by decide +kernel
theorem dX5_drive_128 : decode cX5_drive 128 = .ok (.getfield 9, 3) := by decide +kernel
theorem dX5_drive_131 : decode cX5_drive 131 = .ok (.iload_n 1, 1) := by decide +kernel
theorem dX5_drive_132 : decode cX5_drive 132 = .ok (.iaload, 1) := by decide +kernel
theorem dX5_drive_133 : decode cX5_drive 133 = .ok (.invokestatic 101, 3) := by decide +kernel
theorem dX5_drive_136 : decode cX5_drive 136 = .ok (.iastore, 1) := by decide +kernel
theorem dX5_drive_137 : decode cX5_drive 137 = .ok (.iinc 1 1, 3) := by decide +kernel
theorem dX5_drive_140 : decode cX5_drive 140 = .ok (.goto (-26), 3) := by decide +kernel
theorem dX5_drive_143 : decode cX5_drive 143 = .ok (.return_, 1) := by decide +kernel
theorem dX5_fall_0 : decode cX5_fall 0 = .ok (.iconst 3, 1) := by decide +kernel
theorem dX5_fall_1 : decode cX5_fall 1 = .ok (.istore_n 2, 1) := by decide +kernel
theorem dX5_fall_2 : decode cX5_fall 2 = .ok (.iload_n 2, 1) := by decide +kernel
theorem dX5_fall_3 : decode cX5_fall 3 = .ok (.ifCond .lt 74, 3) := by decide +kernel
theorem dX5_fall_6 : decode cX5_fall 6 = .ok (.aload_n 0, 1) := by decide +kernel
theorem dX5_fall_7 : decode cX5_fall 7 = .ok (.getfield 9, 3) := by decide +kernel
theorem dX5_fall_10 : decode cX5_fall 10 = .ok (.bipush 10, 2) := by decide +kernel
theorem dX5_fall_12 : decode cX5_fall 12 = .ok (.iload_n 2, 1) := by decide +kernel
theorem dX5_fall_13 : decode cX5_fall 13 = .ok (.imul, 1) := by decide +kernel
theorem dX5_fall_14 : decode cX5_fall 14 = .ok (.iload_n 1, 1) := by decide +kernel
theorem dX5_fall_15 : decode cX5_fall 15 = .ok (.iadd, 1) := by decide +kernel
theorem dX5_fall_16 : decode cX5_fall 16 = .ok (.iaload, 1) := by decide +kernel
theorem dX5_fall_17 : decode cX5_fall 17 = .ok (.bipush 40, 2) := by decide +kernel
theorem dX5_fall_19 : decode cX5_fall 19 = .ok (.aload_n 0, 1) := by decide +kernel
theorem dX5_fall_20 : decode cX5_fall 20 = .ok (.getfield 9, 3) := by decide +kernel
theorem dX5_fall_23 : decode cX5_fall 23 = .ok (.bipush 10, 2) := by decide +kernel
theorem dX5_fall_25 : decode cX5_fall 25 = .ok (.iload_n 2, 1) := by decide +kernel
theorem dX5_fall_26 : decode cX5_fall 26 = .ok (.imul, 1) := by decide +kernel
theorem dX5_fall_27 : decode cX5_fall 27 = .ok (.bipush 10, 2) := by decide +kernel
theorem dX5_fall_29 : decode cX5_fall 29 = .ok (.iadd, 1) := by decide +kernel
theorem dX5_fall_30 : decode cX5_fall 30 = .ok (.iload_n 1, 1) := by decide +kernel
theorem dX5_fall_31 : decode cX5_fall 31 = .ok (.iadd, 1) := by decide +kernel
theorem dX5_fall_32 : decode cX5_fall 32 = .ok (.iaload, 1) := by decide +kernel
theorem dX5_fall_33 : decode cX5_fall 33 = .ok (.isub, 1) := by decide +kernel
theorem dX5_fall_34 : decode cX5_fall 34 = .ok (.invokestatic 101, 3) := by decide +kernel
theorem dX5_fall_37 : decode cX5_fall 37 = .ok (.istore_n 3, 1) := by decide +kernel
theorem dX5_fall_38 : decode cX5_fall 38 = .ok (.aload_n 0, 1) := by decide +kernel
theorem dX5_fall_39 : decode cX5_fall 39 = .ok (.getfield 9, 3) := by decide +kernel
theorem dX5_fall_42 : decode cX5_fall 42 = .ok (.bipush 10, 2) := by decide +kernel
theorem dX5_fall_44 : decode cX5_fall 44 = .ok (.iload_n 2, 1) := by decide +kernel
theorem dX5_fall_45 : decode cX5_fall 45 = .ok (.imul, 1) := by decide +kernel
theorem dX5_fall_46 : decode cX5_fall 46 = .ok (.iload_n 1, 1) := by decide +kernel
theorem dX5_fall_47 : decode cX5_fall 47 = .ok (.iadd, 1) := by decide +kernel
theorem dX5_fall_48 : decode cX5_fall 48 = .ok (.dup2, 1) := by decide +kernel
theorem dX5_fall_49 : decode cX5_fall 49 = .ok (.iaload, 1) := by decide +kernel
theorem dX5_fall_50 : decode cX5_fall 50 = .ok (.iload_n 3, 1) := by decide +kernel
theorem dX5_fall_51 : decode cX5_fall 51 = .ok (.isub, 1) := by decide +kernel
theorem dX5_fall_52 : decode cX5_fall 52 = .ok (.iastore, 1) := by decide +kernel
theorem dX5_fall_53 : decode cX5_fall 53 = .ok (.aload_n 0, 1) := by decide +kernel
theorem dX5_fall_54 : decode cX5_fall 54 = .ok (.getfield 9, 3) := by decide +kernel
theorem dX5_fall_57 : decode cX5_fall 57 = .ok (.bipush 10, 2) := by decide +kernel
theorem dX5_fall_59 : decode cX5_fall 59 = .ok (.iload_n 2, 1) := by decide +kernel
theorem dX5_fall_60 : decode cX5_fall 60 = .ok (.imul, 1) := by decide +kernel
theorem dX5_fall_61 : decode cX5_fall 61 = .ok (.bipush 10, 2) := by decide +kernel
theorem dX5_fall_63 : decode cX5_fall 63 = .ok (.iadd, 1) := by decide +kernel
theorem dX5_fall_64 : decode cX5_fall 64 = .ok (.iload_n 1, 1) := by decide +kernel
theorem dX5_fall_65 : decode cX5_fall 65 = .ok (.iadd, 1) := by decide +kernel
theorem dX5_fall_66 : decode cX5_fall 66 = .ok (.dup2, 1) := by decide +kernel
theorem dX5_fall_67 : decode cX5_fall 67 = .ok (.iaload, 1) := by decide +kernel
theorem dX5_fall_68 : decode cX5_fall 68 = .ok (.iload_n 3, 1) := by decide +kernel
theorem dX5_fall_69 : decode cX5_fall 69 = .ok (.iadd, 1) := by decide +kernel
theorem dX5_fall_70 : decode cX5_fall 70 = .ok (.iastore, 1) := by decide +kernel
theorem dX5_fall_71 : decode cX5_fall 71 = .ok (.iinc 2 (-1), 3) := by decide +kernel
theorem dX5_fall_74 : decode cX5_fall 74 = .ok (.goto (-72), 3) := by decide +kernel
theorem dX5_fall_77 : decode cX5_fall 77 = .ok (.return_, 1) := by decide +kernel
theorem dX5_near_0 : decode cX5_near 0 = .ok (.iconst 0, 1) := by decide +kernel
theorem dX5_near_1 : decode cX5_near 1 = .ok (.istore_n 2, 1) := by decide +kernel
theorem dX5_near_2 : decode cX5_near 2 = .ok (.iconst 0, 1) := by decide +kernel
theorem dX5_near_3 : decode cX5_near 3 = .ok (.istore_n 3, 1) := by decide +kernel
theorem dX5_near_4 : decode cX5_near 4 = .ok (.iload_n 3, 1) := by decide +kernel
theorem dX5_near_5 : decode cX5_near 5 = .ok (.bipush 50, 2) := by decide +kernel
theorem dX5_near_7 : decode cX5_near 7 = .ok (.if_icmp .ge 35, 3) := by decide +kernel
theorem dX5_near_10 : decode cX5_near 10 = .ok (.iload_n 2, 1) := by decide +kernel
theorem dX5_near_11 : decode cX5_near 11 = .ok (.iload_n 3, 1) := by decide +kernel
theorem dX5_near_12 : decode cX5_near 12 = .ok (.bipush 10, 2) := by decide +kernel
theorem dX5_near_14 : decode cX5_near 14 = .ok (.irem, 1) := by decide +kernel
theorem dX5_near_15 : decode cX5_near 15 = .ok (.iload_n 1, 1) := by decide +kernel
theorem dX5_near_16 : decode cX5_near 16 = .ok (.isub, 1) := by decide +kernel
theorem dX5_near_17 : decode cX5_near 17 = .ok (.invokestatic 42, 3) := by decide +kernel
theorem dX5_near_20 : decode cX5_near 20 = .ok (.iconst 1, 1) := by decide +kernel
theorem dX5_near_21 : decode cX5_near 21 = .ok (.if_icmp .gt 12, 3) := by decide +kernel
theorem dX5_near_24 : decode cX5_near 24 = .ok (.aload_n 0, 1) := by decide +kernel
theorem dX5_near_25 : decode cX5_near 25 = .ok (.getfield 9, 3) := by decide +kernel
theorem dX5_near_28 : decode cX5_near 28 = .ok (.iload_n 3, 1) := by decide +kernel
theorem dX5_near_29 : decode cX5_near 29 = .ok (.iaload, 1) := by decide +kernel
theorem dX5_near_30 : decode cX5_near 30 = .ok (.goto 4, 3) := by decide +kernel
theorem dX5_near_33 : decode cX5_near 33 = .ok (.iconst 0, 1) := by decide +kernel
theorem dX5_near_34 : decode cX5_near 34 = .ok (.iadd, 1) := by decide +kernel
theorem dX5_near_35 : decode cX5_near 35 = .ok (.istore_n 2, 1) := by decide +kernel
theorem dX5_near_36 : decode cX5_near 36 = .ok (.iinc 3 1, 3) := by decide +kernel
theorem dX5_near_39 : decode cX5_near 39 = .ok (.goto (-35), 3) := by decide +kernel
theorem dX5_near_42 : decode cX5_near 42 = .ok (.iload_n 2, 1) := by decide +kernel
theorem dX5_near_43 : decode cX5_near 43 = .ok (.ireturn, 1) := by decide +kernel
set_option maxRecDepth 20000 in
theorem ggX5_catchSome_X5_pe : GoodIn wsX5_catchSome wsX5_pe := goodIn_r _ [11, 12, 17, 18, 19, 20, 21, 22, 23, 24, 25] (by decide +kernel) (by decide +kernel)
set_option maxRecDepth 20000 in
theorem gX5_catchSome_X5_pe : GoodIn wsX5_catchSome (wsV RX5 59 RX5 yX5_pe wsX5_pe) := goodIn_app (goodIn_of _ (by decide +kernel)) ggX5_catchSome_X5_pe
set_option maxRecDepth 20000 in
theorem ggX5_catchSome_X5_put : GoodIn wsX5_catchSome wsX5_put := goodIn_r _ [16, 12, 17, 18, 19, 20, 21, 22, 23, 24, 25] (by decide +kernel) (by decide +kernel)
set_option maxRecDepth 20000 in
theorem gX5_catchSome_X5_put : GoodIn wsX5_catchSome (wsV RX5 81 RX5 yX5_put wsX5_put) := goodIn_app (goodIn_of _ (by decide +kernel)) ggX5_catchSome_X5_put
theorem dX5_catchSome_0 : decode cX5_catchSome 0 = .ok (.aload_n 0, 1) := by decide +kernel
theorem dX5_catchSome_1 : decode cX5_catchSome 1 = .ok (.getfield 13, 3) := by decide +kernel
theorem dX5_catchSome_4 : decode cX5_catchSome 4 = .ok (.aload_n 0, 1) := by decide +kernel
theorem dX5_catchSome_5 : decode cX5_catchSome 5 = .ok (.iload_n 1, 1) := by decide +kernel
theorem dX5_catchSome_6 : decode cX5_catchSome 6 = .ok (.iconst 0, 1) := by decide +kernel
theorem dX5_catchSome_7 : decode cX5_catchSome 7 = .ok (.invokevirtual 59, 3) := by decide +kernel
theorem dX5_catchSome_10 : decode cX5_catchSome 10 = .ok (.iaload, 1) := by decide +kernel
theorem dX5_catchSome_11 : decode cX5_catchSome 11 = .ok (.istore_n 2, 1) := by decide +kernel
theorem dX5_catchSome_12 : decode cX5_catchSome 12 = .ok (.iload_n 2, 1) := by decide +kernel
theorem dX5_catchSome_13 : decode cX5_catchSome 13 = .ok (.bipush 50, 2) := by decide +kernel
theorem dX5_catchSome_15 : decode cX5_catchSome 15 = .ok (.if_icmp .ge 57, 3) := by decide +kernel
theorem dX5_catchSome_18 : decode cX5_catchSome 18 = .ok (.aload_n 0, 1) := by decide +kernel
theorem dX5_catchSome_19 : decode cX5_catchSome 19 = .ok (.getfield 9, 3) := by decide +kernel
theorem dX5_catchSome_22 : decode cX5_catchSome 22 = .ok (.iload_n 2, 1) := by decide +kernel
theorem dX5_catchSome_23 : decode cX5_catchSome 23 = .ok (.iaload, 1) := by decide +kernel
theorem dX5_catchSome_24 : decode cX5_catchSome 24 = .ok (.ifCond .ne 6, 3) := by decide +kernel
theorem dX5_catchSome_27 : decode cX5_catchSome 27 = .ok (.goto 39, 3) := by decide +kernel
theorem dX5_catchSome_30 : decode cX5_catchSome 30 = .ok (.iconst 3, 1) := by decide +kernel
theorem dX5_catchSome_31 : decode cX5_catchSome 31 = .ok (.aload_n 0, 1) := by decide +kernel
theorem dX5_catchSome_32 : decode cX5_catchSome 32 = .ok (.getfield 9, 3) := by decide +kernel
theorem dX5_catchSome_35 : decode cX5_catchSome 35 = .ok (.iload_n 2, 1) := by decide +kernel
theorem dX5_catchSome_36 : decode cX5_catchSome 36 = .ok (.iaload, 1) := by decide +kernel
theorem dX5_catchSome_37 : decode cX5_catchSome 37 = .ok (.invokestatic 101, 3) := by decide +kernel
theorem dX5_catchSome_40 : decode cX5_catchSome 40 = .ok (.istore_n 3, 1) := by decide +kernel
theorem dX5_catchSome_41 : decode cX5_catchSome 41 = .ok (.aload_n 0, 1) := by decide +kernel
theorem dX5_catchSome_42 : decode cX5_catchSome 42 = .ok (.getfield 9, 3) := by decide +kernel
theorem dX5_catchSome_45 : decode cX5_catchSome 45 = .ok (.iload_n 2, 1) := by decide +kernel
theorem dX5_catchSome_46 : decode cX5_catchSome 46 = .ok (.dup2, 1) := by decide +kernel
theorem dX5_catchSome_47 : decode cX5_catchSome 47 = .ok (.iaload, 1) := by decide +kernel
theorem dX5_catchSome_48 : decode cX5_catchSome 48 = .ok (.iload_n 3, 1) := by decide +kernel
theorem dX5_catchSome_49 : decode cX5_catchSome 49 = .ok (.isub, 1) := by decide +kernel
theorem dX5_catchSome_50 : decode cX5_catchSome 50 = .ok (.iastore, 1) := by decide +kernel
theorem dX5_catchSome_51 : decode cX5_catchSome 51 = .ok (.aload_n 0, 1) := by decide +kernel
theorem dX5_catchSome_52 : decode cX5_catchSome 52 = .ok (.iload_n 1, 1) := by decide +kernel
theorem dX5_catchSome_53 : decode cX5_catchSome 53 = .ok (.iconst 3, 1) := by decide +kernel
theorem dX5_catchSome_54 : decode cX5_catchSome 54 = .ok (.aload_n 0, 1) := by decide +kernel
theorem dX5_catchSome_55 : decode cX5_catchSome 55 = .ok (.iload_n 1, 1) := by decide +kernel
theorem dX5_catchSome_56 : decode cX5_catchSome 56 = .ok (.iconst 3, 1) := by decide +kernel
theorem dX5_catchSome_57 : decode cX5_catchSome 57 = .ok (.invokevirtual 59, 3) := by decide +kernel
theorem dX5_catchSome_60 : decode cX5_catchSome 60 = .ok (.iload_n 3, 1) := by decide +kernel
theorem dX5_catchSome_61 : decode cX5_catchSome 61 = .ok (.iadd, 1) := by decide +kernel
theorem dX5_catchSome_62 : decode cX5_catchSome 62 = .ok (.invokevirtual 81, 3) := by decide +kernel
theorem dX5_catchSome_65 : decode cX5_catchSome 65 = .ok (.return_, 1) := by decide +kernel
theorem dX5_catchSome_66 : decode cX5_catchSome 66 = .ok (.iinc 2 10, 3) := by decide +kernel
theorem dX5_catchSome_69 : decode cX5_catchSome 69 = .ok (.goto (-57), 3) := by decide +kernel
theorem dX5_catchSome_72 : decode cX5_catchSome 72 = .ok (.return_, 1) := by decide +kernel
set_option maxRecDepth 20000 in
theorem ggX5_nightOn_X5_drive : GoodIn wsX5_nightOn wsX5_drive := goodIn_r _ [15, 6, 16, 17, 18, 19, 20, 7, 8, 9, 10, 21, 22, 23, 14, 24, 1, 5, 2, 25, 26, 27, 28, 29, 30, 31, 64, 65, 66, 67, 68, 69, 70, 71, 72] (by decide +kernel) (by decide +kernel)
set_option maxRecDepth 20000 in
theorem gX5_nightOn_X5_drive : GoodIn wsX5_nightOn (wsV RX5 104 RX5 yX5_drive wsX5_drive) := goodIn_app (goodIn_of _ (by decide +kernel)) ggX5_nightOn_X5_drive
set_option maxRecDepth 20000 in
theorem ggX5_nightOn_X5_roomTold : GoodIn wsX5_nightOn wsX5_roomTold := goodIn_r _ [35, 2, 5, 4, 36, 37, 38, 14, 39, 40, 41, 42, 43, 44, 64, 65, 66, 67, 68, 69, 70, 71, 72] (by decide +kernel) (by decide +kernel)
set_option maxRecDepth 20000 in
theorem gX5_nightOn_X5_roomTold : GoodIn wsX5_nightOn (wsV RX5 66 RX5 yX5_roomTold wsX5_roomTold) := goodIn_app (goodIn_of _ (by decide +kernel)) ggX5_nightOn_X5_roomTold
set_option maxRecDepth 20000 in
theorem ggX5_nightOn_X5_fall : GoodIn wsX5_nightOn wsX5_fall := goodIn_r _ [48, 6, 7, 8, 9, 10, 64, 65, 66, 67, 68, 69, 70, 71, 72] (by decide +kernel) (by decide +kernel)
set_option maxRecDepth 20000 in
theorem gX5_nightOn_X5_fall : GoodIn wsX5_nightOn (wsV RX5 107 RX5 yX5_fall wsX5_fall) := goodIn_app (goodIn_of _ (by decide +kernel)) ggX5_nightOn_X5_fall
set_option maxRecDepth 20000 in
theorem ggX5_nightOn_X5_moon : GoodIn wsX5_nightOn wsX5_moon := goodIn_r _ [51, 25, 26, 9, 27] (by decide +kernel) (by decide +kernel)
set_option maxRecDepth 20000 in
theorem gX5_nightOn_X5_moon : GoodIn wsX5_nightOn (va_wsS RX5 85 yX5_moon wsX5_moon) := goodIn_app (goodIn_of _ (by decide +kernel)) ggX5_nightOn_X5_moon
set_option maxRecDepth 20000 in
theorem ggX5_nightOn_X5_pe : GoodIn wsX5_nightOn wsX5_pe := goodIn_r _ [43, 44, 64, 65, 66, 67, 68, 69, 70, 71, 72] (by decide +kernel) (by decide +kernel)
set_option maxRecDepth 20000 in
theorem gX5_nightOn_X5_pe : GoodIn wsX5_nightOn (wsV RX5 59 RX5 yX5_pe wsX5_pe) := goodIn_app (goodIn_of _ (by decide +kernel)) ggX5_nightOn_X5_pe
set_option maxRecDepth 20000 in
theorem ggX5_nightOn_X5_near : GoodIn wsX5_nightOn wsX5_near := goodIn_r _ [55, 25, 26, 9, 27, 6, 64, 65, 66, 67, 68, 69, 70, 71, 72] (by decide +kernel) (by decide +kernel)
set_option maxRecDepth 20000 in
theorem gX5_nightOn_X5_near : GoodIn wsX5_nightOn (wsV RX5 111 RX5 yX5_near wsX5_near) := goodIn_app (goodIn_of _ (by decide +kernel)) ggX5_nightOn_X5_near
set_option maxRecDepth 20000 in
theorem ggX5_nightOn_X5_put : GoodIn wsX5_nightOn wsX5_put := goodIn_r _ [59, 44, 64, 65, 66, 67, 68, 69, 70, 71, 72] (by decide +kernel) (by decide +kernel)
set_option maxRecDepth 20000 in
theorem gX5_nightOn_X5_put : GoodIn wsX5_nightOn (wsV RX5 81 RX5 yX5_put wsX5_put) := goodIn_app (goodIn_of _ (by decide +kernel)) ggX5_nightOn_X5_put
set_option maxRecDepth 20000 in
theorem ggX5_nightOn_X5_catchSome : GoodIn wsX5_nightOn wsX5_catchSome := goodIn_r _ [63, 2, 6, 7, 8, 9, 10, 40, 41, 42, 14, 43, 44, 56, 57, 58, 59, 64, 65, 66, 67, 68, 69, 70, 71, 72] (by decide +kernel) (by decide +kernel)
set_option maxRecDepth 20000 in
theorem gX5_nightOn_X5_catchSome : GoodIn wsX5_nightOn (wsV RX5 114 RX5 yX5_catchSome wsX5_catchSome) := goodIn_app (goodIn_of _ (by decide +kernel)) ggX5_nightOn_X5_catchSome
set_option maxRecDepth 20000 in
theorem ggX5_nightOn_X5_isThere : GoodIn wsX5_nightOn wsX5_isThere := goodIn_r _ [39, 40, 41, 42, 14, 43, 44, 64, 65, 66, 67, 68, 69, 70, 71, 72] (by decide +kernel) (by decide +kernel)
set_option maxRecDepth 20000 in
theorem gX5_nightOn_X5_isThere : GoodIn wsX5_nightOn (wsV RX5 63 RX5 yX5_isThere wsX5_isThere) := goodIn_app (goodIn_of _ (by decide +kernel)) ggX5_nightOn_X5_isThere
set_option maxRecDepth 20000 in
theorem ggX5_nightOn_X5_lit : GoodIn wsX5_nightOn wsX5_lit := goodIn_r _ [24, 1, 5, 2, 25, 26, 9, 27, 64, 65, 66, 67, 68, 69, 70, 71, 72] (by decide +kernel) (by decide +kernel)
set_option maxRecDepth 20000 in
theorem gX5_nightOn_X5_lit : GoodIn wsX5_nightOn (wsV RX5 69 RX5 yX5_lit wsX5_lit) := goodIn_app (goodIn_of _ (by decide +kernel)) ggX5_nightOn_X5_lit
theorem dX5_nightOn_0 : decode cX5_nightOn 0 = .ok (.aload_n 0, 1) := by decide +kernel
theorem dX5_nightOn_1 : decode cX5_nightOn 1 = .ok (.invokevirtual 104, 3) := by decide +kernel
theorem dX5_nightOn_4 : decode cX5_nightOn 4 = .ok (.iconst 0, 1) := by decide +kernel
theorem dX5_nightOn_5 : decode cX5_nightOn 5 = .ok (.istore_n 1, 1) := by decide +kernel
theorem dX5_nightOn_6 : decode cX5_nightOn 6 = .ok (.iload_n 1, 1) := by decide +kernel
theorem dX5_nightOn_7 : decode cX5_nightOn 7 = .ok (.aload_n 0, 1) := by decide +kernel
theorem dX5_nightOn_8 : decode cX5_nightOn 8 = .ok (.getfield 36, 3) := by decide +kernel
theorem dX5_nightOn_11 : decode cX5_nightOn 11 = .ok (.if_icmp .ge 30, 3) := by decide +kernel
theorem dX5_nightOn_14 : decode cX5_nightOn 14 = .ok (.aload_n 0, 1) := by decide +kernel
theorem dX5_nightOn_15 : decode cX5_nightOn 15 = .ok (.iload_n 1, 1) := by decide +kernel
theorem dX5_nightOn_16 : decode cX5_nightOn 16 = .ok (.iconst 3, 1) := by decide +kernel
theorem dX5_nightOn_17 : decode cX5_nightOn 17 = .ok (.invokevirtual 66, 3) := by decide +kernel
theorem dX5_nightOn_20 : decode cX5_nightOn 20 = .ok (.bipush 9, 2) := by decide +kernel
theorem dX5_nightOn_22 : decode cX5_nightOn 22 = .ok (.if_icmp .le 13, 3) := by decide +kernel
theorem dX5_nightOn_25 : decode cX5_nightOn 25 = .ok (.aload_n 0, 1) := by decide +kernel
theorem dX5_nightOn_26 : decode cX5_nightOn 26 = .ok (.aload_n 0, 1) := by decide +kernel
theorem dX5_nightOn_27 : decode cX5_nightOn 27 = .ok (.getfield 13, 3) := by decide +kernel
theorem dX5_nightOn_30 : decode cX5_nightOn 30 = .ok (.iload_n 1, 1) := by decide +kernel
theorem dX5_nightOn_31 : decode cX5_nightOn 31 = .ok (.iaload, 1) := by decide +kernel
theorem dX5_nightOn_32 : decode cX5_nightOn 32 = .ok (.invokevirtual 107, 3) := by decide +kernel
theorem dX5_nightOn_35 : decode cX5_nightOn 35 = .ok (.iinc 1 1, 3) := by decide +kernel
theorem dX5_nightOn_38 : decode cX5_nightOn 38 = .ok (.goto (-32), 3) := by decide +kernel
theorem dX5_nightOn_41 : decode cX5_nightOn 41 = .ok (.aload_n 0, 1) := by decide +kernel
theorem dX5_nightOn_42 : decode cX5_nightOn 42 = .ok (.getfield 22, 3) := by decide +kernel
theorem dX5_nightOn_45 : decode cX5_nightOn 45 = .ok (.iconst 0, 1) := by decide +kernel
theorem dX5_nightOn_46 : decode cX5_nightOn 46 = .ok (.iaload, 1) := by decide +kernel
theorem dX5_nightOn_47 : decode cX5_nightOn 47 = .ok (.invokestatic 85, 3) := by decide +kernel
theorem dX5_nightOn_50 : decode cX5_nightOn 50 = .ok (.istore_n 1, 1) := by decide +kernel
theorem dX5_nightOn_51 : decode cX5_nightOn 51 = .ok (.iconst 0, 1) := by decide +kernel
theorem dX5_nightOn_52 : decode cX5_nightOn 52 = .ok (.istore_n 2, 1) := by decide +kernel
theorem dX5_nightOn_53 : decode cX5_nightOn 53 = .ok (.iload_n 2, 1) := by decide +kernel
theorem dX5_nightOn_54 : decode cX5_nightOn 54 = .ok (.aload_n 0, 1) := by decide +kernel
theorem dX5_nightOn_55 : decode cX5_nightOn 55 = .ok (.getfield 39, 3) := by decide +kernel
theorem dX5_nightOn_58 : decode cX5_nightOn 58 = .ok (.if_icmp .ge 69, 3) := by decide +kernel
theorem dX5_nightOn_61 : decode cX5_nightOn 61 = .ok (.aload_n 0, 1) := by decide +kernel
theorem dX5_nightOn_62 : decode cX5_nightOn 62 = .ok (.iload_n 2, 1) := by decide +kernel
theorem dX5_nightOn_63 : decode cX5_nightOn 63 = .ok (.iconst 5, 1) := by decide +kernel
theorem dX5_nightOn_64 : decode cX5_nightOn 64 = .ok (.invokevirtual 59, 3) := by decide +kernel
theorem dX5_nightOn_67 : decode cX5_nightOn 67 = .ok (.ifCond .ne 54, 3) := by decide +kernel
theorem dX5_nightOn_70 : decode cX5_nightOn 70 = .ok (.aload_n 0, 1) := by decide +kernel
theorem dX5_nightOn_71 : decode cX5_nightOn 71 = .ok (.getfield 16, 3) := by decide +kernel
theorem dX5_nightOn_74 : decode cX5_nightOn 74 = .ok (.aload_n 0, 1) := by decide +kernel
theorem dX5_nightOn_75 : decode cX5_nightOn 75 = .ok (.iload_n 2, 1) := by decide +kernel
theorem dX5_nightOn_76 : decode cX5_nightOn 76 = .ok (.iconst 0, 1) := by decide +kernel
theorem dX5_nightOn_77 : decode cX5_nightOn 77 = .ok (.invokevirtual 59, 3) := by decide +kernel
theorem dX5_nightOn_80 : decode cX5_nightOn 80 = .ok (.iaload, 1) := by decide +kernel
theorem dX5_nightOn_81 : decode cX5_nightOn 81 = .ok (.ifCond .ne 40, 3) := by decide +kernel
theorem dX5_nightOn_84 : decode cX5_nightOn 84 = .ok (.iload_n 1, 1) := by decide +kernel
theorem dX5_nightOn_85 : decode cX5_nightOn 85 = .ok (.iconst 4, 1) := by decide +kernel
theorem dX5_nightOn_86 : decode cX5_nightOn 86 = .ok (.if_icmp .ge 35, 3) := by decide +kernel
theorem dX5_nightOn_89 : decode cX5_nightOn 89 = .ok (.aload_n 0, 1) := by decide +kernel
theorem dX5_nightOn_90 : decode cX5_nightOn 90 = .ok (.iload_n 2, 1) := by decide +kernel
theorem dX5_nightOn_91 : decode cX5_nightOn 91 = .ok (.iconst 4, 1) := by decide +kernel
theorem dX5_nightOn_92 : decode cX5_nightOn 92 = .ok (.aload_n 0, 1) := by decide +kernel
theorem dX5_nightOn_93 : decode cX5_nightOn 93 = .ok (.iload_n 2, 1) := by decide +kernel
theorem dX5_nightOn_94 : decode cX5_nightOn 94 = .ok (.iconst 4, 1) := by decide +kernel
theorem dX5_nightOn_95 : decode cX5_nightOn 95 = .ok (.invokevirtual 59, 3) := by decide +kernel
theorem dX5_nightOn_98 : decode cX5_nightOn 98 = .ok (.aload_n 0, 1) := by decide +kernel
theorem dX5_nightOn_99 : decode cX5_nightOn 99 = .ok (.aload_n 0, 1) := by decide +kernel
theorem dX5_nightOn_100 : decode cX5_nightOn 100 = .ok (.getfield 13, 3) := by decide +kernel
theorem dX5_nightOn_103 : decode cX5_nightOn 103 = .ok (.aload_n 0, 1) := by decide +kernel
theorem dX5_nightOn_104 : decode cX5_nightOn 104 = .ok (.iload_n 2, 1) := by decide +kernel
theorem dX5_nightOn_105 : decode cX5_nightOn 105 = .ok (.iconst 0, 1) := by decide +kernel
theorem dX5_nightOn_106 : decode cX5_nightOn 106 = .ok (.invokevirtual 59, 3) := by decide +kernel
theorem dX5_nightOn_109 : decode cX5_nightOn 109 = .ok (.iaload, 1) := by decide +kernel
theorem dX5_nightOn_110 : decode cX5_nightOn 110 = .ok (.invokevirtual 111, 3) := by decide +kernel
theorem dX5_nightOn_113 : decode cX5_nightOn 113 = .ok (.iload_n 1, 1) := by decide +kernel
theorem dX5_nightOn_114 : decode cX5_nightOn 114 = .ok (.iconst 1, 1) := by decide +kernel
theorem dX5_nightOn_115 : decode cX5_nightOn 115 = .ok (.iadd, 1) := by decide +kernel
theorem dX5_nightOn_116 : decode cX5_nightOn 116 = .ok (.idiv, 1) := by decide +kernel
theorem dX5_nightOn_117 : decode cX5_nightOn 117 = .ok (.iadd, 1) := by decide +kernel
theorem dX5_nightOn_118 : decode cX5_nightOn 118 = .ok (.invokevirtual 81, 3) := by decide +kernel
theorem dX5_nightOn_121 : decode cX5_nightOn 121 = .ok (.iinc 2 1, 3) := by decide +kernel
theorem dX5_nightOn_124 : decode cX5_nightOn 124 = .ok (.goto (-71), 3) := by decide +kernel
theorem dX5_nightOn_127 : decode cX5_nightOn 127 = .ok (.iconst 0, 1) := by decide +kernel
theorem dX5_nightOn_128 : decode cX5_nightOn 128 = .ok (.istore_n 2, 1) := by decide +kernel
theorem dX5_nightOn_129 : decode cX5_nightOn 129 = .ok (.iload_n 2, 1) := by decide +kernel
theorem dX5_nightOn_130 : decode cX5_nightOn 130 = .ok (.aload_n 0, 1) := by decide +kernel
theorem dX5_nightOn_131 : decode cX5_nightOn 131 = .ok (.getfield 39, 3) := by decide +kernel
theorem dX5_nightOn_134 : decode cX5_nightOn 134 = .ok (.if_icmp .ge 24, 3) := by decide +kernel
theorem dX5_nightOn_137 : decode cX5_nightOn 137 = .ok (.aload_n 0, 1) := by decide +kernel
theorem dX5_nightOn_138 : decode cX5_nightOn 138 = .ok (.iload_n 2, 1) := by decide +kernel
theorem dX5_nightOn_139 : decode cX5_nightOn 139 = .ok (.iconst 2, 1) := by decide +kernel
theorem dX5_nightOn_140 : decode cX5_nightOn 140 = .ok (.invokevirtual 59, 3) := by decide +kernel
theorem dX5_nightOn_143 : decode cX5_nightOn 143 = .ok (.iconst 1, 1) := by decide +kernel
theorem dX5_nightOn_144 : decode cX5_nightOn 144 = .ok (.if_icmp .ne 8, 3) := by decide +kernel
theorem dX5_nightOn_147 : decode cX5_nightOn 147 = .ok (.aload_n 0, 1) := by decide +kernel
theorem dX5_nightOn_148 : decode cX5_nightOn 148 = .ok (.iload_n 2, 1) := by decide +kernel
theorem dX5_nightOn_149 : decode cX5_nightOn 149 = .ok (.invokevirtual 114, 3) := by decide +kernel
theorem dX5_nightOn_152 : decode cX5_nightOn 152 = .ok (.iinc 2 1, 3) := by decide +kernel
theorem dX5_nightOn_155 : decode cX5_nightOn 155 = .ok (.goto (-26), 3) := by decide +kernel
theorem dX5_nightOn_158 : decode cX5_nightOn 158 = .ok (.iconst 0, 1) := by decide +kernel
theorem dX5_nightOn_159 : decode cX5_nightOn 159 = .ok (.istore_n 2, 1) := by decide +kernel
theorem dX5_nightOn_160 : decode cX5_nightOn 160 = .ok (.iload_n 2, 1) := by decide +kernel
theorem dX5_nightOn_161 : decode cX5_nightOn 161 = .ok (.aload_n 0, 1) := by decide +kernel
theorem dX5_nightOn_162 : decode cX5_nightOn 162 = .ok (.getfield 39, 3) := by decide +kernel
