theorem dX1_driveDown_54 : decode cX1_driveDown 54 = .ok (.iload_n 3, 1) := by decide +kernel
theorem dX1_driveDown_55 : decode cX1_driveDown 55 = .ok (.iadd, 1) := by decide +kernel
theorem dX1_driveDown_56 : decode cX1_driveDown 56 = .ok (.invokevirtual 42, 3) := by decide +kernel
theorem dX1_driveDown_59 : decode cX1_driveDown 59 = .ok (.iinc 2 (-1), 3) := by decide +kernel
theorem dX1_driveDown_62 : decode cX1_driveDown 62 = .ok (.goto (-60), 3) := by decide +kernel
theorem dX1_driveDown_65 : decode cX1_driveDown 65 = .ok (.return_, 1) := by decide +kernel
set_option maxRecDepth 20000 in
theorem ggX1_takeUppermost_X1_at : GoodIn wsX1_takeUppermost wsX1_at := goodIn_r _ [9, 10, 11, 12, 8, 13, 18] (by decide +kernel) (by decide +kernel)
set_option maxRecDepth 20000 in
theorem gX1_takeUppermost_X1_at : GoodIn wsX1_takeUppermost (wsV RX1 35 RX1 yX1_at wsX1_at) := goodIn_app (goodIn_of _ (by decide +kernel)) ggX1_takeUppermost_X1_at
set_option maxRecDepth 20000 in
theorem ggX1_takeUppermost_X1_put : GoodIn wsX1_takeUppermost wsX1_put := goodIn_r _ [17, 10, 1, 2, 3, 4, 11, 12, 8, 13, 18] (by decide +kernel) (by decide +kernel)
set_option maxRecDepth 20000 in
theorem gX1_takeUppermost_X1_put : GoodIn wsX1_takeUppermost (wsV RX1 42 RX1 yX1_put wsX1_put) := goodIn_app (goodIn_of _ (by decide +kernel)) ggX1_takeUppermost_X1_put
theorem dX1_takeUppermost_0 : decode cX1_takeUppermost 0 = .ok (.iconst 0, 1) := by decide +kernel
theorem dX1_takeUppermost_1 : decode cX1_takeUppermost 1 = .ok (.istore_n 3, 1) := by decide +kernel
theorem dX1_takeUppermost_2 : decode cX1_takeUppermost 2 = .ok (.iload_n 3, 1) := by decide +kernel
theorem dX1_takeUppermost_3 : decode cX1_takeUppermost 3 = .ok (.iconst 5, 1) := by decide +kernel
theorem dX1_takeUppermost_4 : decode cX1_takeUppermost 4 = .ok (.if_icmp .ge 48, 3) := by decide +kernel
theorem dX1_takeUppermost_7 : decode cX1_takeUppermost 7 = .ok (.aload_n 0, 1) := by decide +kernel
theorem dX1_takeUppermost_8 : decode cX1_takeUppermost 8 = .ok (.iload_n 1, 1) := by decide +kernel
theorem dX1_takeUppermost_9 : decode cX1_takeUppermost 9 = .ok (.iload_n 3, 1) := by decide +kernel
theorem dX1_takeUppermost_10 : decode cX1_takeUppermost 10 = .ok (.invokevirtual 35, 3) := by decide +kernel
theorem dX1_takeUppermost_13 : decode cX1_takeUppermost 13 = .ok (.ifCond .le 33, 3) := by decide +kernel
theorem dX1_takeUppermost_16 : decode cX1_takeUppermost 16 = .ok (.aload_n 0, 1) := by decide +kernel
theorem dX1_takeUppermost_17 : decode cX1_takeUppermost 17 = .ok (.iload_n 1, 1) := by decide +kernel
theorem dX1_takeUppermost_18 : decode cX1_takeUppermost 18 = .ok (.iload_n 3, 1) := by decide +kernel
theorem dX1_takeUppermost_19 : decode cX1_takeUppermost 19 = .ok (.invokevirtual 35, 3) := by decide +kernel
theorem dX1_takeUppermost_22 : decode cX1_takeUppermost 22 = .ok (.iload_n 2, 1) := by decide +kernel
theorem dX1_takeUppermost_23 : decode cX1_takeUppermost 23 = .ok (.invokestatic 19, 3) := by decide +kernel
theorem dX1_takeUppermost_26 : decode cX1_takeUppermost 26 = .ok (.istore 4, 2) := by decide +kernel
theorem dX1_takeUppermost_28 : decode cX1_takeUppermost 28 = .ok (.aload_n 0, 1) := by decide +kernel
theorem dX1_takeUppermost_29 : decode cX1_takeUppermost 29 = .ok (.iload_n 1, 1) := by decide +kernel
theorem dX1_takeUppermost_30 : decode cX1_takeUppermost 30 = .ok (.iload_n 3, 1) := by decide +kernel
theorem dX1_takeUppermost_31 : decode cX1_takeUppermost 31 = .ok (.aload_n 0, 1) := by decide +kernel
theorem dX1_takeUppermost_32 : decode cX1_takeUppermost 32 = .ok (.iload_n 1, 1) := by decide +kernel
theorem dX1_takeUppermost_33 : decode cX1_takeUppermost 33 = .ok (.iload_n 3, 1) := by decide +kernel
theorem dX1_takeUppermost_34 : decode cX1_takeUppermost 34 = .ok (.invokevirtual 35, 3) := by decide +kernel
theorem dX1_takeUppermost_37 : decode cX1_takeUppermost 37 = .ok (.iload 4, 2) := by decide +kernel
theorem dX1_takeUppermost_39 : decode cX1_takeUppermost 39 = .ok (.isub, 1) := by decide +kernel
theorem dX1_takeUppermost_40 : decode cX1_takeUppermost 40 = .ok (.invokevirtual 42, 3) := by decide +kernel
theorem dX1_takeUppermost_43 : decode cX1_takeUppermost 43 = .ok (.iload 4, 2) := by decide +kernel
theorem dX1_takeUppermost_45 : decode cX1_takeUppermost 45 = .ok (.ireturn, 1) := by decide +kernel
theorem dX1_takeUppermost_46 : decode cX1_takeUppermost 46 = .ok (.iinc 3 1, 3) := by decide +kernel
theorem dX1_takeUppermost_49 : decode cX1_takeUppermost 49 = .ok (.goto (-47), 3) := by decide +kernel
theorem dX1_takeUppermost_52 : decode cX1_takeUppermost 52 = .ok (.iconst 0, 1) := by decide +kernel
theorem dX1_takeUppermost_53 : decode cX1_takeUppermost 53 = .ok (.ireturn, 1) := by decide +kernel
set_option maxRecDepth 20000 in
theorem ggX1_grow_X1_at : GoodIn wsX1_grow wsX1_at := goodIn_r _ [5, 6, 7, 8, 4, 9, 18] (by decide +kernel) (by decide +kernel)
set_option maxRecDepth 20000 in
theorem gX1_grow_X1_at : GoodIn wsX1_grow (wsV RX1 35 RX1 yX1_at wsX1_at) := goodIn_app (goodIn_of _ (by decide +kernel)) ggX1_grow_X1_at
set_option maxRecDepth 20000 in
theorem ggX1_grow_X1_put : GoodIn wsX1_grow wsX1_put := goodIn_r _ [13, 6, 14, 15, 16, 17, 7, 8, 4, 9, 18] (by decide +kernel) (by decide +kernel)
set_option maxRecDepth 20000 in
theorem gX1_grow_X1_put : GoodIn wsX1_grow (wsV RX1 42 RX1 yX1_put wsX1_put) := goodIn_app (goodIn_of _ (by decide +kernel)) ggX1_grow_X1_put
theorem dX1_grow_0 : decode cX1_grow 0 = .ok (.iconst 0, 1) := by decide +kernel
theorem dX1_grow_1 : decode cX1_grow 1 = .ok (.istore_n 2, 1) := by decide +kernel
theorem dX1_grow_2 : decode cX1_grow 2 = .ok (.iload_n 2, 1) := by decide +kernel
theorem dX1_grow_3 : decode cX1_grow 3 = .ok (.iconst 5, 1) := by decide +kernel
theorem dX1_grow_4 : decode cX1_grow 4 = .ok (.if_icmp .ge 31, 3) := by decide +kernel
theorem dX1_grow_7 : decode cX1_grow 7 = .ok (.aload_n 0, 1) := by decide +kernel
theorem dX1_grow_8 : decode cX1_grow 8 = .ok (.iload_n 1, 1) := by decide +kernel
theorem dX1_grow_9 : decode cX1_grow 9 = .ok (.iload_n 2, 1) := by decide +kernel
theorem dX1_grow_10 : decode cX1_grow 10 = .ok (.aload_n 0, 1) := by decide +kernel
theorem dX1_grow_11 : decode cX1_grow 11 = .ok (.iload_n 1, 1) := by decide +kernel
theorem dX1_grow_12 : decode cX1_grow 12 = .ok (.iload_n 2, 1) := by decide +kernel
theorem dX1_grow_13 : decode cX1_grow 13 = .ok (.invokevirtual 35, 3) := by decide +kernel
theorem dX1_grow_16 : decode cX1_grow 16 = .ok (.aload_n 0, 1) := by decide +kernel
theorem dX1_grow_17 : decode cX1_grow 17 = .ok (.iload_n 1, 1) := by decide +kernel
theorem dX1_grow_18 : decode cX1_grow 18 = .ok (.iload_n 2, 1) := by decide +kernel
theorem dX1_grow_19 : decode cX1_grow 19 = .ok (.invokevirtual 35, 3) := by decide +kernel
theorem dX1_grow_22 : decode cX1_grow 22 = .ok (.bipush 10, 2) := by decide +kernel
theorem dX1_grow_24 : decode cX1_grow 24 = .ok (.idiv, 1) := by decide +kernel
theorem dX1_grow_25 : decode cX1_grow 25 = .ok (.iadd, 1) := by decide +kernel
theorem dX1_grow_26 : decode cX1_grow 26 = .ok (.invokevirtual 42, 3) := by decide +kernel
theorem dX1_grow_29 : decode cX1_grow 29 = .ok (.iinc 2 1, 3) := by decide +kernel
theorem dX1_grow_32 : decode cX1_grow 32 = .ok (.goto (-30), 3) := by decide +kernel
theorem dX1_grow_35 : decode cX1_grow 35 = .ok (.return_, 1) := by decide +kernel
set_option maxRecDepth 20000 in
theorem ggX2_init_X1_init : GoodIn wsX2_init wsX1_init := goodIn_r _ [19, 20, 2, 3, 21, 22, 37] (by decide +kernel) (by decide +kernel)
set_option maxRecDepth 20000 in
theorem gX2_init_X1_init_n11 : GoodIn wsX2_init (wsX1_init) := ggX2_init_X1_init
set_option maxRecDepth 20000 in
theorem ggX2_init_X3_init : GoodIn wsX2_init wsX3_init := goodIn_r _ [24, 25, 2, 3, 21, 26, 16, 27, 44, 45, 46] (by decide +kernel) (by decide +kernel)
set_option maxRecDepth 20000 in
theorem gX2_init_X3_init_n20 : GoodIn wsX2_init (wsX3_init) := ggX2_init_X3_init
set_option maxRecDepth 20000 in
theorem ggX2_init_X0_init : GoodIn wsX2_init wsX0_init := goodIn_r _ [29, 30, 2, 3, 21, 31, 32, 33, 34, 16, 35, 36, 47, 48, 49, 50, 51, 52, 53] (by decide +kernel) (by decide +kernel)
set_option maxRecDepth 20000 in
theorem gX2_init_X0_init_n27 : GoodIn wsX2_init (wsX0_init) := ggX2_init_X0_init
theorem dX2_init_0 : decode cX2_init 0 = .ok (.aload_n 0, 1) := by decide +kernel
theorem dX2_init_1 : decode cX2_init 1 = .ok (.invokespecial 3, 3) := by decide +kernel
theorem dX2_init_4 : decode cX2_init 4 = .ok (.aload_n 0, 1) := by decide +kernel
theorem dX2_init_5 : decode cX2_init 5 = .ok (.new 9, 3) := by decide +kernel
theorem dX2_init_8 : decode cX2_init 8 = .ok (.dup, 1) := by decide +kernel
theorem dX2_init_9 : decode cX2_init 9 = .ok (.invokespecial 11, 3) := by decide +kernel
theorem dX2_init_12 : decode cX2_init 12 = .ok (.putfield 12, 3) := by decide +kernel
theorem dX2_init_15 : decode cX2_init 15 = .ok (.aload_n 0, 1) := by decide +kernel
theorem dX2_init_16 : decode cX2_init 16 = .ok (.new 18, 3) := by decide +kernel
theorem dX2_init_19 : decode cX2_init 19 = .ok (.dup, 1) := by decide +kernel
theorem dX2_init_20 : decode cX2_init 20 = .ok (.invokespecial 20, 3) := by decide +kernel
theorem dX2_init_23 : decode cX2_init 23 = .ok (.putfield 21, 3) := by decide +kernel
theorem dX2_init_26 : decode cX2_init 26 = .ok (.aload_n 0, 1) := by decide +kernel
theorem dX2_init_27 : decode cX2_init 27 = .ok (.new 25, 3) := by decide +kernel
theorem dX2_init_30 : decode cX2_init 30 = .ok (.dup, 1) := by decide +kernel
theorem dX2_init_31 : decode cX2_init 31 = .ok (.invokespecial 27, 3) := by decide +kernel
theorem dX2_init_34 : decode cX2_init 34 = .ok (.putfield 28, 3) := by decide +kernel
theorem dX2_init_37 : decode cX2_init 37 = .ok (.aload_n 0, 1) := by decide +kernel
theorem dX2_init_38 : decode cX2_init 38 = .ok (.bipush 10, 2) := by decide +kernel
theorem dX2_init_40 : decode cX2_init 40 = .ok (.newarray .boolean, 2) := by decide +kernel
theorem dX2_init_42 : decode cX2_init 42 = .ok (.putfield 32, 3) := by decide +kernel
theorem dX2_init_45 : decode cX2_init 45 = .ok (.return_, 1) := by decide +kernel
theorem dX2_moonLight_0 : decode cX2_moonLight 0 = .ok (.iload_n 0, 1) := by decide +kernel
theorem dX2_moonLight_1 : decode cX2_moonLight 1 = .ok (.bipush 7, 2) := by decide +kernel
theorem dX2_moonLight_3 : decode cX2_moonLight 3 = .ok (.iand, 1) := by decide +kernel
theorem dX2_moonLight_4 : decode cX2_moonLight 4 = .ok (.istore_n 1, 1) := by decide +kernel
theorem dX2_moonLight_5 : decode cX2_moonLight 5 = .ok (.iload_n 1, 1) := by decide +kernel
theorem dX2_moonLight_6 : decode cX2_moonLight 6 = .ok (.iconst 4, 1) := by decide +kernel
theorem dX2_moonLight_7 : decode cX2_moonLight 7 = .ok (.if_icmp .gt 7, 3) := by decide +kernel
theorem dX2_moonLight_10 : decode cX2_moonLight 10 = .ok (.iload_n 1, 1) := by decide +kernel
theorem dX2_moonLight_11 : decode cX2_moonLight 11 = .ok (.goto 7, 3) := by decide +kernel
theorem dX2_moonLight_14 : decode cX2_moonLight 14 = .ok (.bipush 8, 2) := by decide +kernel
theorem dX2_moonLight_16 : decode cX2_moonLight 16 = .ok (.iload_n 1, 1) := by decide +kernel
theorem dX2_moonLight_17 : decode cX2_moonLight 17 = .ok (.isub, 1) := by decide +kernel
theorem dX2_moonLight_18 : decode cX2_moonLight 18 = .ok (.ireturn, 1) := by decide +kernel
set_option maxRecDepth 20000 in
theorem ggX2_copyFrom_X1_copyFrom : GoodIn wsX2_copyFrom wsX1_copyFrom := goodIn_r _ [10, 11, 12, 13, 14, 15, 42] (by decide +kernel) (by decide +kernel)
set_option maxRecDepth 20000 in
theorem gX2_copyFrom_X1_copyFrom : GoodIn wsX2_copyFrom (wsV RX2 36 RX1 yX1_copyFrom wsX1_copyFrom) := goodIn_app (goodIn_of _ (by decide +kernel)) ggX2_copyFrom_X1_copyFrom
set_option maxRecDepth 20000 in
theorem ggX2_copyFrom_X3_copyFrom : GoodIn wsX2_copyFrom wsX3_copyFrom := goodIn_r _ [20, 21, 22, 23, 43, 44, 45] (by decide +kernel) (by decide +kernel)
set_option maxRecDepth 20000 in
theorem gX2_copyFrom_X3_copyFrom : GoodIn wsX2_copyFrom (wsV RX2 40 RX3 yX3_copyFrom wsX3_copyFrom) := goodIn_app (goodIn_of _ (by decide +kernel)) ggX2_copyFrom_X3_copyFrom
set_option maxRecDepth 20000 in
theorem ggX2_copyFrom_X0_copyFrom : GoodIn wsX2_copyFrom wsX0_copyFrom := goodIn_r _ [28, 29, 30, 31, 32, 33, 34, 35, 46, 47, 48, 49, 50, 51, 52] (by decide +kernel) (by decide +kernel)
set_option maxRecDepth 20000 in
theorem gX2_copyFrom_X0_copyFrom : GoodIn wsX2_copyFrom (wsV RX2 43 RX0 yX0_copyFrom wsX0_copyFrom) := goodIn_app (goodIn_of _ (by decide +kernel)) ggX2_copyFrom_X0_copyFrom
theorem dX2_copyFrom_0 : decode cX2_copyFrom 0 = .ok (.aload_n 0, 1) := by decide +kernel
theorem dX2_copyFrom_1 : decode cX2_copyFrom 1 = .ok (.getfield 12, 3) := by decide +kernel
theorem dX2_copyFrom_4 : decode cX2_copyFrom 4 = .ok (.aload_n 1, 1) := by decide +kernel
theorem dX2_copyFrom_5 : decode cX2_copyFrom 5 = .ok (.getfield 12, 3) := by decide +kernel
theorem dX2_copyFrom_8 : decode cX2_copyFrom 8 = .ok (.invokevirtual 36, 3) := by decide +kernel
theorem dX2_copyFrom_11 : decode cX2_copyFrom 11 = .ok (.aload_n 0, 1) := by decide +kernel
theorem dX2_copyFrom_12 : decode cX2_copyFrom 12 = .ok (.getfield 21, 3) := by decide +kernel
theorem dX2_copyFrom_15 : decode cX2_copyFrom 15 = .ok (.aload_n 1, 1) := by decide +kernel
theorem dX2_copyFrom_16 : decode cX2_copyFrom 16 = .ok (.getfield 21, 3) := by decide +kernel
theorem dX2_copyFrom_19 : decode cX2_copyFrom 19 = .ok (.invokevirtual 40, 3) := by decide +kernel
theorem dX2_copyFrom_22 : decode cX2_copyFrom 22 = .ok (.aload_n 0, 1) := by decide +kernel
theorem dX2_copyFrom_23 : decode cX2_copyFrom 23 = .ok (.getfield 28, 3) := by decide +kernel
theorem dX2_copyFrom_26 : decode cX2_copyFrom 26 = .ok (.aload_n 1, 1) := by decide +kernel
theorem dX2_copyFrom_27 : decode cX2_copyFrom 27 = .ok (.getfield 28, 3) := by decide +kernel
theorem dX2_copyFrom_30 : decode cX2_copyFrom 30 = .ok (.invokevirtual 43, 3) := by decide +kernel
theorem dX2_copyFrom_33 : decode cX2_copyFrom 33 = .ok (.aload_n 0, 1) := by decide +kernel
theorem dX2_copyFrom_34 : decode cX2_copyFrom 34 = .ok (.aload_n 1, 1) := by decide +kernel
theorem dX2_copyFrom_35 : decode cX2_copyFrom 35 = .ok (.getfield 46, 3) := by decide +kernel
theorem dX2_copyFrom_38 : decode cX2_copyFrom 38 = .ok (.putfield 46, 3) := by decide +kernel
theorem dX2_copyFrom_41 : decode cX2_copyFrom 41 = .ok (.aload_n 0, 1) := by decide +kernel
theorem dX2_copyFrom_42 : decode cX2_copyFrom 42 = .ok (.aload_n 1, 1) := by decide +kernel
theorem dX2_copyFrom_43 : decode cX2_copyFrom 43 = .ok (.getfield 50, 3) := by decide +kernel
theorem dX2_copyFrom_46 : decode cX2_copyFrom 46 = .ok (.putfield 50, 3) := by decide +kernel
theorem dX2_copyFrom_49 : decode cX2_copyFrom 49 = .ok (.return_, 1) := by decide +kernel
set_option maxRecDepth 20000 in
theorem ggX2_tellRoom_X3_windowOf : GoodIn wsX2_tellRoom wsX3_windowOf := goodIn_r _ [7, 8, 9, 10, 11, 6, 12, 13, 42, 43, 44] (by decide +kernel) (by decide +kernel)
set_option maxRecDepth 20000 in
theorem gX2_tellRoom_X3_windowOf : GoodIn wsX2_tellRoom (wsV RX2 53 RX3 yX3_windowOf wsX3_windowOf) := goodIn_app (goodIn_of _ (by decide +kernel)) ggX2_tellRoom_X3_windowOf
set_option maxRecDepth 20000 in
theorem ggX2_tellRoom_X3_isBurning : GoodIn wsX2_tellRoom wsX3_isBurning := goodIn_r _ [17, 18, 9, 10, 11, 6, 12, 13, 42, 43, 44] (by decide +kernel) (by decide +kernel)
set_option maxRecDepth 20000 in
theorem gX2_tellRoom_X3_isBurning : GoodIn wsX2_tellRoom (wsV RX2 57 RX3 yX3_isBurning wsX3_isBurning) := goodIn_app (goodIn_of _ (by decide +kernel)) ggX2_tellRoom_X3_isBurning
set_option maxRecDepth 20000 in
theorem ggX2_tellRoom_X0_stayingIn : GoodIn wsX2_tellRoom wsX0_stayingIn := goodIn_r _ [23, 24, 25, 45, 46, 47, 48, 49, 50, 51] (by decide +kernel) (by decide +kernel)
set_option maxRecDepth 20000 in
theorem gX2_tellRoom_X0_stayingIn : GoodIn wsX2_tellRoom (wsV RX2 61 RX0 yX0_stayingIn wsX0_stayingIn) := goodIn_app (goodIn_of _ (by decide +kernel)) ggX2_tellRoom_X0_stayingIn
set_option maxRecDepth 20000 in
theorem ggX2_tellRoom_X0_whispersIn : GoodIn wsX2_tellRoom wsX0_whispersIn := goodIn_r _ [29, 24, 25, 30, 45, 46, 47, 48, 49, 50, 51] (by decide +kernel) (by decide +kernel)
set_option maxRecDepth 20000 in
theorem gX2_tellRoom_X0_whispersIn : GoodIn wsX2_tellRoom (wsV RX2 64 RX0 yX0_whispersIn wsX0_whispersIn) := goodIn_app (goodIn_of _ (by decide +kernel)) ggX2_tellRoom_X0_whispersIn
set_option maxRecDepth 20000 in
theorem ggX2_tellRoom_X0_jarsIn : GoodIn wsX2_tellRoom wsX0_jarsIn := goodIn_r _ [34, 35, 25, 45, 46, 47, 48, 49, 50, 51] (by decide +kernel) (by decide +kernel)
set_option maxRecDepth 20000 in
theorem gX2_tellRoom_X0_jarsIn : GoodIn wsX2_tellRoom (wsV RX2 67 RX0 yX0_jarsIn wsX0_jarsIn) := goodIn_app (goodIn_of _ (by decide +kernel)) ggX2_tellRoom_X0_jarsIn
theorem dX2_tellRoom_0 : decode cX2_tellRoom 0 = .ok (.iload_n 2, 1) := by decide +kernel
theorem dX2_tellRoom_1 : decode cX2_tellRoom 1 = .ok (.tableswitch 75 0 3 #[31, 40, 57, 66], 31) := by decide +kernel
theorem dX2_tellRoom_32 : decode cX2_tellRoom 32 = .ok (.aload_n 0, 1) := by decide +kernel
theorem dX2_tellRoom_33 : decode cX2_tellRoom 33 = .ok (.getfield 21, 3) := by decide +kernel
theorem dX2_tellRoom_36 : decode cX2_tellRoom 36 = .ok (.iload_n 1, 1) := by decide +kernel
theorem dX2_tellRoom_37 : decode cX2_tellRoom 37 = .ok (.invokevirtual 53, 3) := by decide +kernel
theorem dX2_tellRoom_40 : decode cX2_tellRoom 40 = .ok (.ireturn, 1) := by decide +kernel
theorem dX2_tellRoom_41 : decode cX2_tellRoom 41 = .ok (.aload_n 0, 1) := by decide +kernel
theorem dX2_tellRoom_42 : decode cX2_tellRoom 42 = .ok (.getfield 21, 3) := by decide +kernel
theorem dX2_tellRoom_45 : decode cX2_tellRoom 45 = .ok (.iload_n 1, 1) := by decide +kernel
theorem dX2_tellRoom_46 : decode cX2_tellRoom 46 = .ok (.invokevirtual 57, 3) := by decide +kernel
theorem dX2_tellRoom_49 : decode cX2_tellRoom 49 = .ok (.ifCond .eq 7, 3) := by decide +kernel
theorem dX2_tellRoom_52 : decode cX2_tellRoom 52 = .ok (.iconst 1, 1) := by decide +kernel
theorem dX2_tellRoom_53 : decode cX2_tellRoom 53 = .ok (.goto 4, 3) := by decide +kernel
theorem dX2_tellRoom_56 : decode cX2_tellRoom 56 = .ok (.iconst 0, 1) := by decide +kernel
theorem dX2_tellRoom_57 : decode cX2_tellRoom 57 = .ok (.ireturn, 1) := by decide +kernel
theorem dX2_tellRoom_58 : decode cX2_tellRoom 58 = .ok (.aload_n 0, 1) := by decide +kernel
theorem dX2_tellRoom_59 : decode cX2_tellRoom 59 = .ok (.getfield 28, 3) := by decide +kernel
theorem dX2_tellRoom_62 : decode cX2_tellRoom 62 = .ok (.iload_n 1, 1) := by decide +kernel
theorem dX2_tellRoom_63 : decode cX2_tellRoom 63 = .ok (.invokevirtual 61, 3) := by decide +kernel
theorem dX2_tellRoom_66 : decode cX2_tellRoom 66 = .ok (.ireturn, 1) := by decide +kernel
theorem dX2_tellRoom_67 : decode cX2_tellRoom 67 = .ok (.aload_n 0, 1) := by decide +kernel
theorem dX2_tellRoom_68 : decode cX2_tellRoom 68 = .ok (.getfield 28, 3) := by decide +kernel
theorem dX2_tellRoom_71 : decode cX2_tellRoom 71 = .ok (.iload_n 1, 1) := by decide +kernel
theorem dX2_tellRoom_72 : decode cX2_tellRoom 72 = .ok (.invokevirtual 64, 3) := by decide +kernel
theorem dX2_tellRoom_75 : decode cX2_tellRoom 75 = .ok (.ireturn, 1) := by decide +kernel
theorem dX2_tellRoom_76 : decode cX2_tellRoom 76 = .ok (.aload_n 0, 1) := by decide +kernel
theorem dX2_tellRoom_77 : decode cX2_tellRoom 77 = .ok (.getfield 28, 3) := by decide +kernel
theorem dX2_tellRoom_80 : decode cX2_tellRoom 80 = .ok (.iload_n 1, 1) := by decide +kernel
theorem dX2_tellRoom_81 : decode cX2_tellRoom 81 = .ok (.invokevirtual 67, 3) := by decide +kernel
theorem dX2_tellRoom_84 : decode cX2_tellRoom 84 = .ok (.ireturn, 1) := by decide +kernel
set_option maxRecDepth 20000 in
theorem ggX2_tellCount_X2_moonLight : GoodIn wsX2_tellCount wsX2_moonLight := goodIn_r _ [9] (by decide +kernel) (by decide +kernel)
set_option maxRecDepth 20000 in
theorem gX2_tellCount_X2_moonLight : GoodIn wsX2_tellCount (va_wsS RX2 70 yX2_moonLight wsX2_moonLight) := goodIn_app (goodIn_of _ (by decide +kernel)) ggX2_tellCount_X2_moonLight
set_option maxRecDepth 20000 in
theorem ggX2_tellCount_X1_all : GoodIn wsX2_tellCount wsX1_all := goodIn_r _ [14, 15, 16, 17, 18, 62] (by decide +kernel) (by decide +kernel)
set_option maxRecDepth 20000 in
theorem gX2_tellCount_X1_all : GoodIn wsX2_tellCount (wsV RX2 73 RX1 yX1_all wsX1_all) := goodIn_app (goodIn_of _ (by decide +kernel)) ggX2_tellCount_X1_all
set_option maxRecDepth 20000 in
theorem ggX2_tellCount_X3_many : GoodIn wsX2_tellCount wsX3_many := goodIn_r _ [23, 24, 63, 64, 65] (by decide +kernel) (by decide +kernel)
set_option maxRecDepth 20000 in
theorem gX2_tellCount_X3_many : GoodIn wsX2_tellCount (wsV RX2 77 RX3 yX3_many wsX3_many) := goodIn_app (goodIn_of _ (by decide +kernel)) ggX2_tellCount_X3_many
set_option maxRecDepth 20000 in
theorem ggX2_tellCount_X3_lampsBurning : GoodIn wsX2_tellCount wsX3_lampsBurning := goodIn_r _ [28, 29, 30, 17, 31, 63, 64, 65] (by decide +kernel) (by decide +kernel)
set_option maxRecDepth 20000 in
theorem gX2_tellCount_X3_lampsBurning : GoodIn wsX2_tellCount (wsV RX2 80 RX3 yX3_lampsBurning wsX3_lampsBurning) := goodIn_app (goodIn_of _ (by decide +kernel)) ggX2_tellCount_X3_lampsBurning
set_option maxRecDepth 20000 in
theorem ggX2_tellCount_X0_stayingInAll : GoodIn wsX2_tellCount wsX0_stayingInAll := goodIn_r _ [36, 37, 30, 17, 31, 66, 67, 68, 69, 70, 71, 72] (by decide +kernel) (by decide +kernel)
set_option maxRecDepth 20000 in
theorem gX2_tellCount_X0_stayingInAll : GoodIn wsX2_tellCount (wsV RX2 83 RX0 yX0_stayingInAll wsX0_stayingInAll) := goodIn_app (goodIn_of _ (by decide +kernel)) ggX2_tellCount_X0_stayingInAll
set_option maxRecDepth 20000 in
theorem ggX2_tellCount_X0_jarsInAll : GoodIn wsX2_tellCount wsX0_jarsInAll := goodIn_r _ [41, 42, 30, 17, 31, 66, 67, 68, 69, 70, 71, 72] (by decide +kernel) (by decide +kernel)
set_option maxRecDepth 20000 in
theorem gX2_tellCount_X0_jarsInAll : GoodIn wsX2_tellCount (wsV RX2 86 RX0 yX0_jarsInAll wsX0_jarsInAll) := goodIn_app (goodIn_of _ (by decide +kernel)) ggX2_tellCount_X0_jarsInAll
set_option maxRecDepth 20000 in
theorem ggX2_tellCount_X2_litColumns : GoodIn wsX2_tellCount wsX2_litColumns := goodIn_r _ [46, 3, 47, 48, 49, 22, 50, 29, 51, 52, 53, 54, 55, 56, 57, 58, 59, 60, 61, 63, 64, 65] (by decide +kernel) (by decide +kernel)
set_option maxRecDepth 20000 in
theorem gX2_tellCount_X2_litColumns : GoodIn wsX2_tellCount (wsV RX2 89 RX2 yX2_litColumns wsX2_litColumns) := goodIn_app (goodIn_of _ (by decide +kernel)) ggX2_tellCount_X2_litColumns
theorem dX2_tellCount_0 : decode cX2_tellCount 0 = .ok (.iload_n 1, 1) := by decide +kernel
theorem dX2_tellCount_1 : decode cX2_tellCount 1 = .ok (.tableswitch 105 0 7 #[47, 52, 60, 68, 76, 84, 92, 100], 47) := by decide +kernel
theorem dX2_tellCount_48 : decode cX2_tellCount 48 = .ok (.aload_n 0, 1) := by decide +kernel
theorem dX2_tellCount_49 : decode cX2_tellCount 49 = .ok (.getfield 46, 3) := by decide +kernel
theorem dX2_tellCount_52 : decode cX2_tellCount 52 = .ok (.ireturn, 1) := by decide +kernel
theorem dX2_tellCount_53 : decode cX2_tellCount 53 = .ok (.aload_n 0, 1) := by decide +kernel
theorem dX2_tellCount_54 : decode cX2_tellCount 54 = .ok (.getfield 46, 3) := by decide +kernel
theorem dX2_tellCount_57 : decode cX2_tellCount 57 = .ok (.invokestatic 70, 3) := by decide +kernel
theorem dX2_tellCount_60 : decode cX2_tellCount 60 = .ok (.ireturn, 1) := by decide +kernel
theorem dX2_tellCount_61 : decode cX2_tellCount 61 = .ok (.aload_n 0, 1) := by decide +kernel
theorem dX2_tellCount_62 : decode cX2_tellCount 62 = .ok (.getfield 12, 3) := by decide +kernel
theorem dX2_tellCount_65 : decode cX2_tellCount 65 = .ok (.invokevirtual 73, 3) := by decide +kernel
theorem dX2_tellCount_68 : decode cX2_tellCount 68 = .ok (.ireturn, 1) := by decide +kernel
theorem dX2_tellCount_69 : decode cX2_tellCount 69 = .ok (.aload_n 0, 1) := by decide +kernel
theorem dX2_tellCount_70 : decode cX2_tellCount 70 = .ok (.getfield 21, 3) := by decide +kernel
theorem dX2_tellCount_73 : decode cX2_tellCount 73 = .ok (.invokevirtual 77, 3) := by decide +kernel
theorem dX2_tellCount_76 : decode cX2_tellCount 76 = .ok (.ireturn, 1) := by decide +kernel
theorem dX2_tellCount_77 : decode cX2_tellCount 77 = .ok (.aload_n 0, 1) := by decide +kernel
theorem dX2_tellCount_78 : decode cX2_tellCount 78 = .ok (.getfield 21, 3) := by decide +kernel
theorem dX2_tellCount_81 : decode cX2_tellCount 81 = .ok (.invokevirtual 80, 3) := by decide +kernel
theorem dX2_tellCount_84 : decode cX2_tellCount 84 = .ok (.ireturn, 1) := by decide +kernel
theorem dX2_tellCount_85 : decode cX2_tellCount 85 = .ok (.aload_n 0, 1) := by decide +kernel
theorem dX2_tellCount_86 : decode cX2_tellCount 86 = .ok (.getfield 28, 3) := by decide +kernel
theorem dX2_tellCount_89 : decode cX2_tellCount 89 = .ok (.invokevirtual 83, 3) := by decide +kernel
theorem dX2_tellCount_92 : decode cX2_tellCount 92 = .ok (.ireturn, 1) := by decide +kernel
theorem dX2_tellCount_93 : decode cX2_tellCount 93 = .ok (.aload_n 0, 1) := by decide +kernel
theorem dX2_tellCount_94 : decode cX2_tellCount 94 = .ok (.getfield 28, 3) := by decide +kernel
theorem dX2_tellCount_97 : decode cX2_tellCount 97 = .ok (.invokevirtual 86, 3) := by decide +kernel
theorem dX2_tellCount_100 : decode cX2_tellCount 100 = .ok (.ireturn, 1) := by decide +kernel
theorem dX2_tellCount_101 : decode cX2_tellCount 101 = .ok (.aload_n 0, 1) := by decide +kernel
theorem dX2_tellCount_102 : decode cX2_tellCount 102 = .ok (.getfield 50, 3) := by decide +kernel
theorem dX2_tellCount_105 : decode cX2_tellCount 105 = .ok (.ireturn, 1) := by decide +kernel
theorem dX2_tellCount_106 : decode cX2_tellCount 106 = .ok (.aload_n 0, 1) := by decide +kernel
theorem dX2_tellCount_107 : decode cX2_tellCount 107 = .ok (.invokevirtual 89, 3) := by decide +kernel
theorem dX2_tellCount_110 : decode cX2_tellCount 110 = .ok (.ireturn, 1) := by decide +kernel
set_option maxRecDepth 20000 in
theorem ggX2_litColumns_X3_shineOn : GoodIn wsX2_litColumns wsX3_shineOn := goodIn_r _ [6, 7, 8, 9, 10, 11, 12, 19, 20, 21] (by decide +kernel) (by decide +kernel)
set_option maxRecDepth 20000 in
theorem gX2_litColumns_X3_shineOn : GoodIn wsX2_litColumns (wsV RX2 92 RX3 yX3_shineOn wsX3_shineOn) := goodIn_app (goodIn_of _ (by decide +kernel)) ggX2_litColumns_X3_shineOn
theorem dX2_litColumns_0 : decode cX2_litColumns 0 = .ok (.iconst 0, 1) := by decide +kernel
theorem dX2_litColumns_1 : decode cX2_litColumns 1 = .ok (.istore_n 1, 1) := by decide +kernel
theorem dX2_litColumns_2 : decode cX2_litColumns 2 = .ok (.iconst 0, 1) := by decide +kernel
theorem dX2_litColumns_3 : decode cX2_litColumns 3 = .ok (.istore_n 2, 1) := by decide +kernel
theorem dX2_litColumns_4 : decode cX2_litColumns 4 = .ok (.iload_n 2, 1) := by decide +kernel
theorem dX2_litColumns_5 : decode cX2_litColumns 5 = .ok (.bipush 10, 2) := by decide +kernel
theorem dX2_litColumns_7 : decode cX2_litColumns 7 = .ok (.if_icmp .ge 23, 3) := by decide +kernel
theorem dX2_litColumns_10 : decode cX2_litColumns 10 = .ok (.aload_n 0, 1) := by decide +kernel
theorem dX2_litColumns_11 : decode cX2_litColumns 11 = .ok (.getfield 21, 3) := by decide +kernel
theorem dX2_litColumns_14 : decode cX2_litColumns 14 = .ok (.iload_n 2, 1) := by decide +kernel
theorem dX2_litColumns_15 : decode cX2_litColumns 15 = .ok (.invokevirtual 92, 3) := by decide +kernel
theorem dX2_litColumns_18 : decode cX2_litColumns 18 = .ok (.ifCond .eq 6, 3) := by decide +kernel
theorem dX2_litColumns_21 : decode cX2_litColumns 21 = .ok (.iinc 1 1, 3) := by decide +kernel
theorem dX2_litColumns_24 : decode cX2_litColumns 24 = .ok (.iinc 2 1, 3) := by decide +kernel
theorem dX2_litColumns_27 : decode cX2_litColumns 27 = .ok (.goto (-23), 3) := by decide +kernel
theorem dX2_litColumns_30 : decode cX2_litColumns 30 = .ok (.iload_n 1, 1) := by decide +kernel
theorem dX2_litColumns_31 : decode cX2_litColumns 31 = .ok (.ireturn, 1) := by decide +kernel
set_option maxRecDepth 20000 in
theorem ggX2_lookAtLamps_X3_shineOn : GoodIn wsX2_lookAtLamps wsX3_shineOn := goodIn_r _ [7, 8, 9, 10, 11, 12, 13, 20, 21, 22] (by decide +kernel) (by decide +kernel)
set_option maxRecDepth 20000 in
theorem gX2_lookAtLamps_X3_shineOn : GoodIn wsX2_lookAtLamps (wsV RX2 92 RX3 yX3_shineOn wsX3_shineOn) := goodIn_app (goodIn_of _ (by decide +kernel)) ggX2_lookAtLamps_X3_shineOn
theorem dX2_lookAtLamps_0 : decode cX2_lookAtLamps 0 = .ok (.iconst 0, 1) := by decide +kernel
theorem dX2_lookAtLamps_1 : decode cX2_lookAtLamps 1 = .ok (.istore_n 1, 1) := by decide +kernel
theorem dX2_lookAtLamps_2 : decode cX2_lookAtLamps 2 = .ok (.iload_n 1, 1) := by decide +kernel
theorem dX2_lookAtLamps_3 : decode cX2_lookAtLamps 3 = .ok (.bipush 10, 2) := by decide +kernel
theorem dX2_lookAtLamps_5 : decode cX2_lookAtLamps 5 = .ok (.if_icmp .ge 23, 3) := by decide +kernel
theorem dX2_lookAtLamps_8 : decode cX2_lookAtLamps 8 = .ok (.aload_n 0, 1) := by decide +kernel
theorem dX2_lookAtLamps_9 : decode cX2_lookAtLamps 9 = .ok (.getfield 32, 3) := by decide +kernel
theorem dX2_lookAtLamps_12 : decode cX2_lookAtLamps 12 = .ok (.iload_n 1, 1) := by decide +kernel
theorem dX2_lookAtLamps_13 : decode cX2_lookAtLamps 13 = .ok (.aload_n 0, 1) := by decide +kernel
theorem dX2_lookAtLamps_14 : decode cX2_lookAtLamps 14 = .ok (.getfield 21, 3) := by decide +kernel
theorem dX2_lookAtLamps_17 : decode cX2_lookAtLamps 17 = .ok (.iload_n 1, 1) := by decide +kernel
theorem dX2_lookAtLamps_18 : decode cX2_lookAtLamps 18 = .ok (.invokevirtual 92, 3) := by decide +kernel
theorem dX2_lookAtLamps_21 : decode cX2_lookAtLamps 21 = .ok (.bastore, 1) := by decide +kernel
theorem dX2_lookAtLamps_22 : decode cX2_lookAtLamps 22 = .ok (.iinc 1 1, 3) := by decide +kernel
theorem dX2_lookAtLamps_25 : decode cX2_lookAtLamps 25 = .ok (.goto (-23), 3) := by decide +kernel
theorem dX2_lookAtLamps_28 : decode cX2_lookAtLamps 28 = .ok (.return_, 1) := by decide +kernel
set_option maxRecDepth 20000 in
theorem ggX2_goThrough_X2_lookAtLamps : GoodIn wsX2_goThrough wsX2_lookAtLamps := goodIn_r _ [6, 7, 8, 9, 10, 11, 12, 13, 14, 15, 16, 17, 18, 19, 155, 156, 157, 158, 159, 160, 161, 162, 163] (by decide +kernel) (by decide +kernel)
set_option maxRecDepth 20000 in
theorem gX2_goThrough_X2_lookAtLamps : GoodIn wsX2_goThrough (wsV RX2 95 RX2 yX2_lookAtLamps wsX2_lookAtLamps) := goodIn_app (goodIn_of _ (by decide +kernel)) ggX2_goThrough_X2_lookAtLamps
set_option maxRecDepth 20000 in
theorem ggX2_goThrough_X2_driveByLamps : GoodIn wsX2_goThrough wsX2_driveByLamps := goodIn_r _ [23, 7, 24, 25, 26, 27, 5, 28, 29, 30, 31, 32, 33, 34, 35, 36, 37, 38, 39, 40, 41, 42, 43, 44, 45, 46, 47, 18, 48, 155, 156, 157, 158, 159, 160, 164] (by decide +kernel) (by decide +kernel)
set_option maxRecDepth 20000 in
theorem gX2_goThrough_X2_driveByLamps : GoodIn wsX2_goThrough (wsV RX2 98 RX2 yX2_driveByLamps wsX2_driveByLamps) := goodIn_app (goodIn_of _ (by decide +kernel)) ggX2_goThrough_X2_driveByLamps
set_option maxRecDepth 20000 in
theorem ggX2_goThrough_X2_driveByWhispers : GoodIn wsX2_goThrough wsX2_driveByWhispers := goodIn_r _ [52, 53, 24, 8, 54, 55, 56, 57, 58, 59, 60, 61, 62, 63, 64, 12, 65, 15, 66, 67, 68, 69, 70, 71, 72, 73, 32, 74, 46, 47, 18, 48, 34, 35, 36, 37, 38, 39, 40, 41, 42, 43, 44, 45, 155, 156, 157, 158, 159, 160, 165, 166, 167, 168, 169, 170, 171, 161, 162, 163, 164] (by decide +kernel) (by decide +kernel)
set_option maxRecDepth 20000 in
theorem gX2_goThrough_X2_driveByWhispers : GoodIn wsX2_goThrough (wsV RX2 101 RX2 yX2_driveByWhispers wsX2_driveByWhispers) := goodIn_app (goodIn_of _ (by decide +kernel)) ggX2_goThrough_X2_driveByWhispers
set_option maxRecDepth 20000 in
theorem ggX2_goThrough_X2_lookOut : GoodIn wsX2_goThrough wsX2_lookOut := goodIn_r _ [78, 1, 53, 8, 24, 79, 80, 5, 81, 82, 83, 84, 57, 85, 60, 86, 87, 88, 89, 90, 91, 92, 93, 94, 59, 95, 96, 97, 12, 98, 14, 66, 67, 68, 69, 70, 62, 63, 64, 65, 15, 99, 100, 101, 32, 102, 103, 104, 105, 106, 34, 35, 36, 37, 38, 39, 40, 41, 107, 108, 109, 110, 111, 155, 156, 157, 158, 159, 160, 165, 166, 167, 168, 169, 170, 171, 161, 162, 163, 164] (by decide +kernel) (by decide +kernel)
set_option maxRecDepth 20000 in
theorem gX2_goThrough_X2_lookOut : GoodIn wsX2_goThrough (wsV RX2 104 RX2 yX2_lookOut wsX2_lookOut) := goodIn_app (goodIn_of _ (by decide +kernel)) ggX2_goThrough_X2_lookOut
set_option maxRecDepth 20000 in
theorem ggX2_goThrough_X2_fillJars : GoodIn wsX2_goThrough wsX2_fillJars := goodIn_r _ [115, 53, 8, 24, 116, 117, 118, 57, 119, 120, 86, 87, 88, 89, 90, 82, 83, 84, 85, 60, 62, 63, 64, 12, 65, 15, 66, 67, 68, 69, 70, 121, 122, 123, 32, 124, 46, 47, 18, 48, 34, 35, 36, 37, 38, 39, 40, 41, 42, 43, 44, 45, 125, 126, 127, 128, 129, 155, 156, 157, 158, 159, 160, 165, 166, 167, 168, 169, 170, 171, 161, 162, 163, 164] (by decide +kernel) (by decide +kernel)
set_option maxRecDepth 20000 in
theorem gX2_goThrough_X2_fillJars : GoodIn wsX2_goThrough (wsV RX2 107 RX2 yX2_fillJars wsX2_fillJars) := goodIn_app (goodIn_of _ (by decide +kernel)) ggX2_goThrough_X2_fillJars
set_option maxRecDepth 20000 in
theorem ggX2_goThrough_X2_searchJars : GoodIn wsX2_goThrough wsX2_searchJars := goodIn_r _ [133, 8, 1, 134, 53, 135, 136, 137, 12, 138, 70, 139, 140, 141, 57, 142, 120, 60, 143, 144, 145, 146, 155, 156, 157, 158, 159, 160, 161, 162, 163, 165, 166, 167, 168, 169, 170, 171] (by decide +kernel) (by decide +kernel)
set_option maxRecDepth 20000 in
theorem gX2_goThrough_X2_searchJars : GoodIn wsX2_goThrough (wsV RX2 110 RX2 yX2_searchJars wsX2_searchJars) := goodIn_app (goodIn_of _ (by decide +kernel)) ggX2_goThrough_X2_searchJars
set_option maxRecDepth 20000 in
theorem ggX2_goThrough_X2_growInTheDark : GoodIn wsX2_goThrough wsX2_growInTheDark := goodIn_r _ [150, 24, 25, 26, 27, 5, 28, 7, 151, 152, 153, 32, 154, 34, 35, 36, 37, 38, 39, 40, 41, 42, 43, 44, 45, 46, 47, 18, 48, 155, 156, 157, 158, 159, 160, 164] (by decide +kernel) (by decide +kernel)
set_option maxRecDepth 20000 in
theorem gX2_goThrough_X2_growInTheDark : GoodIn wsX2_goThrough (wsV RX2 113 RX2 yX2_growInTheDark wsX2_growInTheDark) := goodIn_app (goodIn_of _ (by decide +kernel)) ggX2_goThrough_X2_growInTheDark
theorem dX2_goThrough_0 : decode cX2_goThrough 0 = .ok (.iconst 0, 1) := by decide +kernel
theorem dX2_goThrough_1 : decode cX2_goThrough 1 = .ok (.istore_n 2, 1) := by decide +kernel
theorem dX2_goThrough_2 : decode cX2_goThrough 2 = .ok (.aload_n 0, 1) := by decide +kernel
theorem dX2_goThrough_3 : decode cX2_goThrough 3 = .ok (.invokevirtual 95, 3) := by decide +kernel
theorem dX2_goThrough_6 : decode cX2_goThrough 6 = .ok (.iconst 0, 1) := by decide +kernel
theorem dX2_goThrough_7 : decode cX2_goThrough 7 = .ok (.istore_n 3, 1) := by decide +kernel
theorem dX2_goThrough_8 : decode cX2_goThrough 8 = .ok (.iload_n 3, 1) := by decide +kernel
theorem dX2_goThrough_9 : decode cX2_goThrough 9 = .ok (.iload_n 1, 1) := by decide +kernel
theorem dX2_goThrough_10 : decode cX2_goThrough 10 = .ok (.if_icmp .ge 46, 3) := by decide +kernel
theorem dX2_goThrough_13 : decode cX2_goThrough 13 = .ok (.aload_n 0, 1) := by decide +kernel
theorem dX2_goThrough_14 : decode cX2_goThrough 14 = .ok (.invokevirtual 98, 3) := by decide +kernel
theorem dX2_goThrough_17 : decode cX2_goThrough 17 = .ok (.aload_n 0, 1) := by decide +kernel
theorem dX2_goThrough_18 : decode cX2_goThrough 18 = .ok (.invokevirtual 101, 3) := by decide +kernel
theorem dX2_goThrough_21 : decode cX2_goThrough 21 = .ok (.iload_n 2, 1) := by decide +kernel
theorem dX2_goThrough_22 : decode cX2_goThrough 22 = .ok (.aload_n 0, 1) := by decide +kernel
theorem dX2_goThrough_23 : decode cX2_goThrough 23 = .ok (.invokevirtual 104, 3) := by decide +kernel
theorem dX2_goThrough_26 : decode cX2_goThrough 26 = .ok (.iadd, 1) := by decide +kernel
theorem dX2_goThrough_27 : decode cX2_goThrough 27 = .ok (.istore_n 2, 1) := by decide +kernel
theorem dX2_goThrough_28 : decode cX2_goThrough 28 = .ok (.aload_n 0, 1) := by decide +kernel
theorem dX2_goThrough_29 : decode cX2_goThrough 29 = .ok (.invokevirtual 107, 3) := by decide +kernel
theorem dX2_goThrough_32 : decode cX2_goThrough 32 = .ok (.aload_n 0, 1) := by decide +kernel
theorem dX2_goThrough_33 : decode cX2_goThrough 33 = .ok (.invokevirtual 110, 3) := by decide +kernel
theorem dX2_goThrough_36 : decode cX2_goThrough 36 = .ok (.aload_n 0, 1) := by decide +kernel
theorem dX2_goThrough_37 : decode cX2_goThrough 37 = .ok (.invokevirtual 113, 3) := by decide +kernel
theorem dX2_goThrough_40 : decode cX2_goThrough 40 = .ok (.aload_n 0, 1) := by decide +kernel
theorem dX2_goThrough_41 : decode cX2_goThrough 41 = .ok (.dup, 1) := by decide +kernel
theorem dX2_goThrough_42 : decode cX2_goThrough 42 = .ok (.getfield 46, 3) := by decide +kernel
theorem dX2_goThrough_45 : decode cX2_goThrough 45 = .ok (.iconst 1, 1) := by decide +kernel
theorem dX2_goThrough_46 : decode cX2_goThrough 46 = .ok (.iadd, 1) := by decide +kernel
theorem dX2_goThrough_47 : decode cX2_goThrough 47 = .ok (.putfield 46, 3) := by decide +kernel
theorem dX2_goThrough_50 : decode cX2_goThrough 50 = .ok (.iinc 3 1, 3) := by decide +kernel
theorem dX2_goThrough_53 : decode cX2_goThrough 53 = .ok (.goto (-45), 3) := by decide +kernel
theorem dX2_goThrough_56 : decode cX2_goThrough 56 = .ok (.iload_n 2, 1) := by decide +kernel
theorem dX2_goThrough_57 : decode cX2_goThrough 57 = .ok (.ireturn, 1) := by decide +kernel
set_option maxRecDepth 20000 in
theorem ggX2_driveByLamps_X2_isDarkColumn : GoodIn wsX2_driveByLamps wsX2_isDarkColumn := goodIn_r _ [7, 1, 29, 30, 31, 32, 33, 34] (by decide +kernel) (by decide +kernel)
set_option maxRecDepth 20000 in
theorem gX2_driveByLamps_X2_isDarkColumn : GoodIn wsX2_driveByLamps (wsV RX2 116 RX2 yX2_isDarkColumn wsX2_isDarkColumn) := goodIn_app (goodIn_of _ (by decide +kernel)) ggX2_driveByLamps_X2_isDarkColumn
set_option maxRecDepth 20000 in
theorem ggX2_driveByLamps_X1_driveAside : GoodIn wsX2_driveByLamps wsX1_driveAside := goodIn_r _ [12, 13, 14, 15, 11, 16, 17, 18, 19, 20, 21, 22, 23, 24, 25, 26, 27, 28, 35] (by decide +kernel) (by decide +kernel)
set_option maxRecDepth 20000 in
theorem gX2_driveByLamps_X1_driveAside : GoodIn wsX2_driveByLamps (wsV RX2 119 RX1 yX1_driveAside wsX1_driveAside) := goodIn_app (goodIn_of _ (by decide +kernel)) ggX2_driveByLamps_X1_driveAside
theorem dX2_driveByLamps_0 : decode cX2_driveByLamps 0 = .ok (.iconst 0, 1) := by decide +kernel
theorem dX2_driveByLamps_1 : decode cX2_driveByLamps 1 = .ok (.istore_n 1, 1) := by decide +kernel
theorem dX2_driveByLamps_2 : decode cX2_driveByLamps 2 = .ok (.iload_n 1, 1) := by decide +kernel
theorem dX2_driveByLamps_3 : decode cX2_driveByLamps 3 = .ok (.bipush 10, 2) := by decide +kernel
theorem dX2_driveByLamps_5 : decode cX2_driveByLamps 5 = .ok (.if_icmp .ge 72, 3) := by decide +kernel
theorem dX2_driveByLamps_8 : decode cX2_driveByLamps 8 = .ok (.aload_n 0, 1) := by decide +kernel
theorem dX2_driveByLamps_9 : decode cX2_driveByLamps 9 = .ok (.getfield 32, 3) := by decide +kernel
theorem dX2_driveByLamps_12 : decode cX2_driveByLamps 12 = .ok (.iload_n 1, 1) := by decide +kernel
theorem dX2_driveByLamps_13 : decode cX2_driveByLamps 13 = .ok (.baload, 1) := by decide +kernel
theorem dX2_driveByLamps_14 : decode cX2_driveByLamps 14 = .ok (.ifCond .eq 27, 3) := by decide +kernel
theorem dX2_driveByLamps_17 : decode cX2_driveByLamps 17 = .ok (.aload_n 0, 1) := by decide +kernel
theorem dX2_driveByLamps_18 : decode cX2_driveByLamps 18 = .ok (.iload_n 1, 1) := by decide +kernel
theorem dX2_driveByLamps_19 : decode cX2_driveByLamps 19 = .ok (.iconst 1, 1) := by decide +kernel
theorem dX2_driveByLamps_20 : decode cX2_driveByLamps 20 = .ok (.isub, 1) := by decide +kernel
theorem dX2_driveByLamps_21 : decode cX2_driveByLamps 21 = .ok (.invokevirtual 116, 3) := by decide +kernel
theorem dX2_driveByLamps_24 : decode cX2_driveByLamps 24 = .ok (.ifCond .eq 17, 3) := by decide +kernel
theorem dX2_driveByLamps_27 : decode cX2_driveByLamps 27 = .ok (.aload_n 0, 1) := by decide +kernel
theorem dX2_driveByLamps_28 : decode cX2_driveByLamps 28 = .ok (.getfield 12, 3) := by decide +kernel
theorem dX2_driveByLamps_31 : decode cX2_driveByLamps 31 = .ok (.iload_n 1, 1) := by decide +kernel
theorem dX2_driveByLamps_32 : decode cX2_driveByLamps 32 = .ok (.iload_n 1, 1) := by decide +kernel
theorem dX2_driveByLamps_33 : decode cX2_driveByLamps 33 = .ok (.iconst 1, 1) := by decide +kernel
theorem dX2_driveByLamps_34 : decode cX2_driveByLamps 34 = .ok (.isub, 1) := by decide +kernel
theorem dX2_driveByLamps_35 : decode cX2_driveByLamps 35 = .ok (.invokevirtual 119, 3) := by decide +kernel
theorem dX2_driveByLamps_38 : decode cX2_driveByLamps 38 = .ok (.goto 33, 3) := by decide +kernel
theorem dX2_driveByLamps_41 : decode cX2_driveByLamps 41 = .ok (.aload_n 0, 1) := by decide +kernel
theorem dX2_driveByLamps_42 : decode cX2_driveByLamps 42 = .ok (.getfield 32, 3) := by decide +kernel
theorem dX2_driveByLamps_45 : decode cX2_driveByLamps 45 = .ok (.iload_n 1, 1) := by decide +kernel
theorem dX2_driveByLamps_46 : decode cX2_driveByLamps 46 = .ok (.baload, 1) := by decide +kernel
theorem dX2_driveByLamps_47 : decode cX2_driveByLamps 47 = .ok (.ifCond .eq 24, 3) := by decide +kernel
theorem dX2_driveByLamps_50 : decode cX2_driveByLamps 50 = .ok (.aload_n 0, 1) := by decide +kernel
theorem dX2_driveByLamps_51 : decode cX2_driveByLamps 51 = .ok (.iload_n 1, 1) := by decide +kernel
theorem dX2_driveByLamps_52 : decode cX2_driveByLamps 52 = .ok (.iconst 1, 1) := by decide +kernel
theorem dX2_driveByLamps_53 : decode cX2_driveByLamps 53 = .ok (.iadd, 1) := by decide +kernel
theorem dX2_driveByLamps_54 : decode cX2_driveByLamps 54 = .ok (.invokevirtual 116, 3) := by decide +kernel
theorem dX2_driveByLamps_57 : decode cX2_driveByLamps 57 = .ok (.ifCond .eq 14, 3) := by decide +kernel
theorem dX2_driveByLamps_60 : decode cX2_driveByLamps 60 = .ok (.aload_n 0, 1) := by decide +kernel
theorem dX2_driveByLamps_61 : decode cX2_driveByLamps 61 = .ok (.getfield 12, 3) := by decide +kernel
theorem dX2_driveByLamps_64 : decode cX2_driveByLamps 64 = .ok (.iload_n 1, 1) := by decide +kernel
theorem dX2_driveByLamps_65 : decode cX2_driveByLamps 65 = .ok (.iload_n 1, 1) := by decide +kernel
theorem dX2_driveByLamps_66 : decode cX2_driveByLamps 66 = .ok (.iconst 1, 1) := by decide +kernel
theorem dX2_driveByLamps_67 : decode cX2_driveByLamps 67 = .ok (.iadd, 1) := by decide +kernel
theorem dX2_driveByLamps_68 : decode cX2_driveByLamps 68 = .ok (.invokevirtual 119, 3) := by decide +kernel
theorem dX2_driveByLamps_71 : decode cX2_driveByLamps 71 = .ok (.iinc 1 1, 3) := by decide +kernel
theorem dX2_driveByLamps_74 : decode cX2_driveByLamps 74 = .ok (.goto (-72), 3) := by decide +kernel
theorem dX2_driveByLamps_77 : decode cX2_driveByLamps 77 = .ok (.return_, 1) := by decide +kernel
theorem dX2_isDarkColumn_0 : decode cX2_isDarkColumn 0 = .ok (.iload_n 1, 1) := by decide +kernel
theorem dX2_isDarkColumn_1 : decode cX2_isDarkColumn 1 = .ok (.ifCond .lt 22, 3) := by decide +kernel
theorem dX2_isDarkColumn_4 : decode cX2_isDarkColumn 4 = .ok (.iload_n 1, 1) := by decide +kernel
theorem dX2_isDarkColumn_5 : decode cX2_isDarkColumn 5 = .ok (.bipush 10, 2) := by decide +kernel
theorem dX2_isDarkColumn_7 : decode cX2_isDarkColumn 7 = .ok (.if_icmp .ge 16, 3) := by decide +kernel
theorem dX2_isDarkColumn_10 : decode cX2_isDarkColumn 10 = .ok (.aload_n 0, 1) := by decide +kernel
theorem dX2_isDarkColumn_11 : decode cX2_isDarkColumn 11 = .ok (.getfield 32, 3) := by decide +kernel
theorem dX2_isDarkColumn_14 : decode cX2_isDarkColumn 14 = .ok (.iload_n 1, 1) := by decide +kernel
theorem dX2_isDarkColumn_15 : decode cX2_isDarkColumn 15 = .ok (.baload, 1) := by decide +kernel
theorem dX2_isDarkColumn_16 : decode cX2_isDarkColumn 16 = .ok (.ifCond .ne 7, 3) := by decide +kernel
theorem dX2_isDarkColumn_19 : decode cX2_isDarkColumn 19 = .ok (.iconst 1, 1) := by decide +kernel
theorem dX2_isDarkColumn_20 : decode cX2_isDarkColumn 20 = .ok (.goto 4, 3) := by decide +kernel
theorem dX2_isDarkColumn_23 : decode cX2_isDarkColumn 23 = .ok (.iconst 0, 1) := by decide +kernel
theorem dX2_isDarkColumn_24 : decode cX2_isDarkColumn 24 = .ok (.ireturn, 1) := by decide +kernel
set_option maxRecDepth 20000 in
theorem ggX2_driveByWhispers_X0_whispersIn : GoodIn wsX2_driveByWhispers wsX0_whispersIn := goodIn_r _ [8, 9, 10, 11, 50, 51, 52, 53, 54, 55, 56] (by decide +kernel) (by decide +kernel)
set_option maxRecDepth 20000 in
theorem gX2_driveByWhispers_X0_whispersIn : GoodIn wsX2_driveByWhispers (wsV RX2 64 RX0 yX0_whispersIn wsX0_whispersIn) := goodIn_app (goodIn_of _ (by decide +kernel)) ggX2_driveByWhispers_X0_whispersIn
set_option maxRecDepth 20000 in
theorem ggX2_driveByWhispers_X3_windowOf : GoodIn wsX2_driveByWhispers wsX3_windowOf := goodIn_r _ [16, 17, 18, 19, 20, 15, 21, 22, 57, 58, 59] (by decide +kernel) (by decide +kernel)
set_option maxRecDepth 20000 in
theorem gX2_driveByWhispers_X3_windowOf : GoodIn wsX2_driveByWhispers (wsV RX2 53 RX3 yX3_windowOf wsX3_windowOf) := goodIn_app (goodIn_of _ (by decide +kernel)) ggX2_driveByWhispers_X3_windowOf
set_option maxRecDepth 20000 in
theorem ggX2_driveByWhispers_X1_driveDown : GoodIn wsX2_driveByWhispers wsX1_driveDown := goodIn_r _ [27, 28, 29, 30, 31, 32, 33, 34, 26, 35, 36, 37, 38, 39, 40, 41, 42, 43, 60] (by decide +kernel) (by decide +kernel)
set_option maxRecDepth 20000 in
theorem gX2_driveByWhispers_X1_driveDown : GoodIn wsX2_driveByWhispers (wsV RX2 123 RX1 yX1_driveDown wsX1_driveDown) := goodIn_app (goodIn_of _ (by decide +kernel)) ggX2_driveByWhispers_X1_driveDown
theorem dX2_driveByWhispers_0 : decode cX2_driveByWhispers 0 = .ok (.iconst 0, 1) := by decide +kernel
theorem dX2_driveByWhispers_1 : decode cX2_driveByWhispers 1 = .ok (.istore_n 1, 1) := by decide +kernel
theorem dX2_driveByWhispers_2 : decode cX2_driveByWhispers 2 = .ok (.iload_n 1, 1) := by decide +kernel
theorem dX2_driveByWhispers_3 : decode cX2_driveByWhispers 3 = .ok (.bipush 6, 2) := by decide +kernel
theorem dX2_driveByWhispers_5 : decode cX2_driveByWhispers 5 = .ok (.if_icmp .ge 37, 3) := by decide +kernel
theorem dX2_driveByWhispers_8 : decode cX2_driveByWhispers 8 = .ok (.aload_n 0, 1) := by decide +kernel
theorem dX2_driveByWhispers_9 : decode cX2_driveByWhispers 9 = .ok (.getfield 28, 3) := by decide +kernel
theorem dX2_driveByWhispers_12 : decode cX2_driveByWhispers 12 = .ok (.iload_n 1, 1) := by decide +kernel
theorem dX2_driveByWhispers_13 : decode cX2_driveByWhispers 13 = .ok (.invokevirtual 64, 3) := by decide +kernel
theorem dX2_driveByWhispers_16 : decode cX2_driveByWhispers 16 = .ok (.bipush 9, 2) := by decide +kernel
theorem dX2_driveByWhispers_18 : decode cX2_driveByWhispers 18 = .ok (.if_icmp .le 18, 3) := by decide +kernel
theorem dX2_driveByWhispers_21 : decode cX2_driveByWhispers 21 = .ok (.aload_n 0, 1) := by decide +kernel
theorem dX2_driveByWhispers_22 : decode cX2_driveByWhispers 22 = .ok (.getfield 12, 3) := by decide +kernel
theorem dX2_driveByWhispers_25 : decode cX2_driveByWhispers 25 = .ok (.aload_n 0, 1) := by decide +kernel
theorem dX2_driveByWhispers_26 : decode cX2_driveByWhispers 26 = .ok (.getfield 21, 3) := by decide +kernel
theorem dX2_driveByWhispers_29 : decode cX2_driveByWhispers 29 = .ok (.iload_n 1, 1) := by decide +kernel
theorem dX2_driveByWhispers_30 : decode cX2_driveByWhispers 30 = .ok (.invokevirtual 53, 3) := by decide +kernel
theorem dX2_driveByWhispers_33 : decode cX2_driveByWhispers 33 = .ok (.invokevirtual 123, 3) := by decide +kernel
theorem dX2_driveByWhispers_36 : decode cX2_driveByWhispers 36 = .ok (.iinc 1 1, 3) := by decide +kernel
theorem dX2_driveByWhispers_39 : decode cX2_driveByWhispers 39 = .ok (.goto (-37), 3) := by decide +kernel
theorem dX2_driveByWhispers_42 : decode cX2_driveByWhispers 42 = .ok (.return_, 1) := by decide +kernel
set_option maxRecDepth 20000 in
theorem ggX2_lookOut_X2_moonLight : GoodIn wsX2_lookOut wsX2_moonLight := goodIn_r _ [8] (by decide +kernel) (by decide +kernel)
set_option maxRecDepth 20000 in
theorem gX2_lookOut_X2_moonLight : GoodIn wsX2_lookOut (va_wsS RX2 70 yX2_moonLight wsX2_moonLight) := goodIn_app (goodIn_of _ (by decide +kernel)) ggX2_lookOut_X2_moonLight
set_option maxRecDepth 20000 in
theorem ggX2_lookOut_X0_roomOf : GoodIn wsX2_lookOut wsX0_roomOf := goodIn_r _ [13, 14, 15, 16, 17, 12, 18, 19, 69, 70, 71, 72, 73, 74, 75] (by decide +kernel) (by decide +kernel)
set_option maxRecDepth 20000 in
theorem gX2_lookOut_X0_roomOf : GoodIn wsX2_lookOut (wsV RX2 127 RX0 yX0_roomOf wsX0_roomOf) := goodIn_app (goodIn_of _ (by decide +kernel)) ggX2_lookOut_X0_roomOf
set_option maxRecDepth 20000 in
theorem ggX2_lookOut_X0_isStaying : GoodIn wsX2_lookOut wsX0_isStaying := goodIn_r _ [23, 24, 15, 16, 17, 12, 18, 19, 69, 70, 71, 72, 73, 74, 75] (by decide +kernel) (by decide +kernel)
set_option maxRecDepth 20000 in
theorem gX2_lookOut_X0_isStaying : GoodIn wsX2_lookOut (wsV RX2 130 RX0 yX0_isStaying wsX0_isStaying) := goodIn_app (goodIn_of _ (by decide +kernel)) ggX2_lookOut_X0_isStaying
set_option maxRecDepth 20000 in
theorem ggX2_lookOut_X3_isBurning : GoodIn wsX2_lookOut wsX3_isBurning := goodIn_r _ [29, 30, 31, 32, 33, 28, 34, 35, 76, 77, 78] (by decide +kernel) (by decide +kernel)
set_option maxRecDepth 20000 in
theorem gX2_lookOut_X3_isBurning : GoodIn wsX2_lookOut (wsV RX2 57 RX3 yX3_isBurning wsX3_isBurning) := goodIn_app (goodIn_of _ (by decide +kernel)) ggX2_lookOut_X3_isBurning
set_option maxRecDepth 20000 in
theorem ggX2_lookOut_X3_windowOf : GoodIn wsX2_lookOut wsX3_windowOf := goodIn_r _ [39, 40, 31, 32, 33, 28, 34, 35, 76, 77, 78] (by decide +kernel) (by decide +kernel)
set_option maxRecDepth 20000 in
theorem gX2_lookOut_X3_windowOf : GoodIn wsX2_lookOut (wsV RX2 53 RX3 yX3_windowOf wsX3_windowOf) := goodIn_app (goodIn_of _ (by decide +kernel)) ggX2_lookOut_X3_windowOf
set_option maxRecDepth 20000 in
theorem ggX2_lookOut_X1_seenFrom : GoodIn wsX2_lookOut wsX1_seenFrom := goodIn_r _ [45, 46, 47, 48, 44, 49, 50, 51, 52, 53, 54, 55, 56, 57, 79] (by decide +kernel) (by decide +kernel)
set_option maxRecDepth 20000 in
theorem gX2_lookOut_X1_seenFrom : GoodIn wsX2_lookOut (wsV RX2 133 RX1 yX1_seenFrom wsX1_seenFrom) := goodIn_app (goodIn_of _ (by decide +kernel)) ggX2_lookOut_X1_seenFrom
set_option maxRecDepth 20000 in
theorem ggX2_lookOut_X0_addSeen : GoodIn wsX2_lookOut wsX0_addSeen := goodIn_r _ [61, 62, 15, 16, 17, 12, 18, 19, 69, 70, 71, 72, 73, 74, 75] (by decide +kernel) (by decide +kernel)
set_option maxRecDepth 20000 in
theorem gX2_lookOut_X0_addSeen : GoodIn wsX2_lookOut (wsV RX2 136 RX0 yX0_addSeen wsX0_addSeen) := goodIn_app (goodIn_of _ (by decide +kernel)) ggX2_lookOut_X0_addSeen
theorem dX2_lookOut_0 : decode cX2_lookOut 0 = .ok (.aload_n 0, 1) := by decide +kernel
theorem dX2_lookOut_1 : decode cX2_lookOut 1 = .ok (.getfield 46, 3) := by decide +kernel
theorem dX2_lookOut_4 : decode cX2_lookOut 4 = .ok (.invokestatic 70, 3) := by decide +kernel
theorem dX2_lookOut_7 : decode cX2_lookOut 7 = .ok (.istore_n 1, 1) := by decide +kernel
theorem dX2_lookOut_8 : decode cX2_lookOut 8 = .ok (.iconst 0, 1) := by decide +kernel
theorem dX2_lookOut_9 : decode cX2_lookOut 9 = .ok (.istore_n 2, 1) := by decide +kernel
theorem dX2_lookOut_10 : decode cX2_lookOut 10 = .ok (.iconst 0, 1) := by decide +kernel
theorem dX2_lookOut_11 : decode cX2_lookOut 11 = .ok (.istore_n 3, 1) := by decide +kernel
theorem dX2_lookOut_12 : decode cX2_lookOut 12 = .ok (.iload_n 3, 1) := by decide +kernel
theorem dX2_lookOut_13 : decode cX2_lookOut 13 = .ok (.bipush 12, 2) := by decide +kernel
theorem dX2_lookOut_15 : decode cX2_lookOut 15 = .ok (.if_icmp .ge 84, 3) := by decide +kernel
theorem dX2_lookOut_18 : decode cX2_lookOut 18 = .ok (.iload_n 1, 1) := by decide +kernel
theorem dX2_lookOut_19 : decode cX2_lookOut 19 = .ok (.iconst 4, 1) := by decide +kernel
theorem dX2_lookOut_20 : decode cX2_lookOut 20 = .ok (.if_icmp .ge 79, 3) := by decide +kernel
theorem dX2_lookOut_23 : decode cX2_lookOut 23 = .ok (.aload_n 0, 1) := by decide +kernel
theorem dX2_lookOut_24 : decode cX2_lookOut 24 = .ok (.getfield 28, 3) := by decide +kernel
theorem dX2_lookOut_27 : decode cX2_lookOut 27 = .ok (.iload_n 3, 1) := by decide +kernel
theorem dX2_lookOut_28 : decode cX2_lookOut 28 = .ok (.invokevirtual 127, 3) := by decide +kernel
theorem dX2_lookOut_31 : decode cX2_lookOut 31 = .ok (.istore 4, 2) := by decide +kernel
theorem dX2_lookOut_33 : decode cX2_lookOut 33 = .ok (.aload_n 0, 1) := by decide +kernel
theorem dX2_lookOut_34 : decode cX2_lookOut 34 = .ok (.getfield 28, 3) := by decide +kernel
theorem dX2_lookOut_37 : decode cX2_lookOut 37 = .ok (.iload_n 3, 1) := by decide +kernel
theorem dX2_lookOut_38 : decode cX2_lookOut 38 = .ok (.invokevirtual 130, 3) := by decide +kernel
theorem dX2_lookOut_41 : decode cX2_lookOut 41 = .ok (.ifCond .eq 52, 3) := by decide +kernel
theorem dX2_lookOut_44 : decode cX2_lookOut 44 = .ok (.aload_n 0, 1) := by decide +kernel
theorem dX2_lookOut_45 : decode cX2_lookOut 45 = .ok (.getfield 21, 3) := by decide +kernel
theorem dX2_lookOut_48 : decode cX2_lookOut 48 = .ok (.iload 4, 2) := by decide +kernel
theorem dX2_lookOut_50 : decode cX2_lookOut 50 = .ok (.invokevirtual 57, 3) := by decide +kernel
theorem dX2_lookOut_53 : decode cX2_lookOut 53 = .ok (.ifCond .ne 40, 3) := by decide +kernel
theorem dX2_lookOut_56 : decode cX2_lookOut 56 = .ok (.aload_n 0, 1) := by decide +kernel
theorem dX2_lookOut_57 : decode cX2_lookOut 57 = .ok (.getfield 12, 3) := by decide +kernel
theorem dX2_lookOut_60 : decode cX2_lookOut 60 = .ok (.aload_n 0, 1) := by decide +kernel
theorem dX2_lookOut_61 : decode cX2_lookOut 61 = .ok (.getfield 21, 3) := by decide +kernel
theorem dX2_lookOut_64 : decode cX2_lookOut 64 = .ok (.iload 4, 2) := by decide +kernel
theorem dX2_lookOut_66 : decode cX2_lookOut 66 = .ok (.invokevirtual 53, 3) := by decide +kernel
theorem dX2_lookOut_69 : decode cX2_lookOut 69 = .ok (.invokevirtual 133, 3) := by decide +kernel
theorem dX2_lookOut_72 : decode cX2_lookOut 72 = .ok (.iload_n 1, 1) := by decide +kernel
theorem dX2_lookOut_73 : decode cX2_lookOut 73 = .ok (.iconst 1, 1) := by decide +kernel
theorem dX2_lookOut_74 : decode cX2_lookOut 74 = .ok (.iadd, 1) := by decide +kernel
theorem dX2_lookOut_75 : decode cX2_lookOut 75 = .ok (.idiv, 1) := by decide +kernel
theorem dX2_lookOut_76 : decode cX2_lookOut 76 = .ok (.istore 5, 2) := by decide +kernel
theorem dX2_lookOut_78 : decode cX2_lookOut 78 = .ok (.aload_n 0, 1) := by decide +kernel
theorem dX2_lookOut_79 : decode cX2_lookOut 79 = .ok (.getfield 28, 3) := by decide +kernel
theorem dX2_lookOut_82 : decode cX2_lookOut 82 = .ok (.iload_n 3, 1) := by decide +kernel
theorem dX2_lookOut_83 : decode cX2_lookOut 83 = .ok (.iload 5, 2) := by decide +kernel
theorem dX2_lookOut_85 : decode cX2_lookOut 85 = .ok (.invokevirtual 136, 3) := by decide +kernel
theorem dX2_lookOut_88 : decode cX2_lookOut 88 = .ok (.iload_n 2, 1) := by decide +kernel
theorem dX2_lookOut_89 : decode cX2_lookOut 89 = .ok (.iload 5, 2) := by decide +kernel
theorem dX2_lookOut_91 : decode cX2_lookOut 91 = .ok (.iadd, 1) := by decide +kernel
theorem dX2_lookOut_92 : decode cX2_lookOut 92 = .ok (.istore_n 2, 1) := by decide +kernel
theorem dX2_lookOut_93 : decode cX2_lookOut 93 = .ok (.iinc 3 1, 3) := by decide +kernel
theorem dX2_lookOut_96 : decode cX2_lookOut 96 = .ok (.goto (-84), 3) := by decide +kernel
theorem dX2_lookOut_99 : decode cX2_lookOut 99 = .ok (.iload_n 2, 1) := by decide +kernel
theorem dX2_lookOut_100 : decode cX2_lookOut 100 = .ok (.ireturn, 1) := by decide +kernel
set_option maxRecDepth 20000 in
theorem ggX2_fillJars_X0_hasJar : GoodIn wsX2_fillJars wsX0_hasJar := goodIn_r _ [8, 9, 10, 11, 12, 7, 13, 14, 63, 64, 65, 66, 67, 68, 69] (by decide +kernel) (by decide +kernel)
set_option maxRecDepth 20000 in
theorem gX2_fillJars_X0_hasJar : GoodIn wsX2_fillJars (wsV RX2 139 RX0 yX0_hasJar wsX0_hasJar) := goodIn_app (goodIn_of _ (by decide +kernel)) ggX2_fillJars_X0_hasJar
set_option maxRecDepth 20000 in
theorem ggX2_fillJars_X0_roomOf : GoodIn wsX2_fillJars wsX0_roomOf := goodIn_r _ [18, 19, 10, 11, 12, 7, 13, 14, 63, 64, 65, 66, 67, 68, 69] (by decide +kernel) (by decide +kernel)
set_option maxRecDepth 20000 in
theorem gX2_fillJars_X0_roomOf : GoodIn wsX2_fillJars (wsV RX2 127 RX0 yX0_roomOf wsX0_roomOf) := goodIn_app (goodIn_of _ (by decide +kernel)) ggX2_fillJars_X0_roomOf
set_option maxRecDepth 20000 in
theorem ggX2_fillJars_X3_windowOf : GoodIn wsX2_fillJars wsX3_windowOf := goodIn_r _ [24, 25, 26, 27, 28, 23, 29, 30, 70, 71, 72] (by decide +kernel) (by decide +kernel)
set_option maxRecDepth 20000 in
theorem gX2_fillJars_X3_windowOf : GoodIn wsX2_fillJars (wsV RX2 53 RX3 yX3_windowOf wsX3_windowOf) := goodIn_app (goodIn_of _ (by decide +kernel)) ggX2_fillJars_X3_windowOf
set_option maxRecDepth 20000 in
theorem ggX2_fillJars_X1_takeUppermost : GoodIn wsX2_fillJars wsX1_takeUppermost := goodIn_r _ [35, 36, 37, 38, 39, 40, 41, 42, 34, 43, 44, 45, 46, 47, 48, 49, 50, 51, 73] (by decide +kernel) (by decide +kernel)
set_option maxRecDepth 20000 in
theorem gX2_fillJars_X1_takeUppermost : GoodIn wsX2_fillJars (wsV RX2 142 RX1 yX1_takeUppermost wsX1_takeUppermost) := goodIn_app (goodIn_of _ (by decide +kernel)) ggX2_fillJars_X1_takeUppermost
set_option maxRecDepth 20000 in
theorem ggX2_fillJars_X0_addTaken : GoodIn wsX2_fillJars wsX0_addTaken := goodIn_r _ [55, 56, 10, 11, 12, 7, 13, 14, 63, 64, 65, 66, 67, 68, 69] (by decide +kernel) (by decide +kernel)
set_option maxRecDepth 20000 in
theorem gX2_fillJars_X0_addTaken : GoodIn wsX2_fillJars (wsV RX2 146 RX0 yX0_addTaken wsX0_addTaken) := goodIn_app (goodIn_of _ (by decide +kernel)) ggX2_fillJars_X0_addTaken
theorem dX2_fillJars_0 : decode cX2_fillJars 0 = .ok (.iconst 0, 1) := by decide +kernel
theorem dX2_fillJars_1 : decode cX2_fillJars 1 = .ok (.istore_n 1, 1) := by decide +kernel
theorem dX2_fillJars_2 : decode cX2_fillJars 2 = .ok (.iload_n 1, 1) := by decide +kernel
theorem dX2_fillJars_3 : decode cX2_fillJars 3 = .ok (.bipush 12, 2) := by decide +kernel
theorem dX2_fillJars_5 : decode cX2_fillJars 5 = .ok (.if_icmp .ge 53, 3) := by decide +kernel
theorem dX2_fillJars_8 : decode cX2_fillJars 8 = .ok (.aload_n 0, 1) := by decide +kernel
theorem dX2_fillJars_9 : decode cX2_fillJars 9 = .ok (.getfield 28, 3) := by decide +kernel
theorem dX2_fillJars_12 : decode cX2_fillJars 12 = .ok (.iload_n 1, 1) := by decide +kernel
theorem dX2_fillJars_13 : decode cX2_fillJars 13 = .ok (.invokevirtual 139, 3) := by decide +kernel
theorem dX2_fillJars_16 : decode cX2_fillJars 16 = .ok (.ifCond .eq 36, 3) := by decide +kernel
theorem dX2_fillJars_19 : decode cX2_fillJars 19 = .ok (.aload_n 0, 1) := by decide +kernel
theorem dX2_fillJars_20 : decode cX2_fillJars 20 = .ok (.getfield 21, 3) := by decide +kernel
theorem dX2_fillJars_23 : decode cX2_fillJars 23 = .ok (.aload_n 0, 1) := by decide +kernel
theorem dX2_fillJars_24 : decode cX2_fillJars 24 = .ok (.getfield 28, 3) := by decide +kernel
theorem dX2_fillJars_27 : decode cX2_fillJars 27 = .ok (.iload_n 1, 1) := by decide +kernel
theorem dX2_fillJars_28 : decode cX2_fillJars 28 = .ok (.invokevirtual 127, 3) := by decide +kernel
theorem dX2_fillJars_31 : decode cX2_fillJars 31 = .ok (.invokevirtual 53, 3) := by decide +kernel
theorem dX2_fillJars_34 : decode cX2_fillJars 34 = .ok (.istore_n 2, 1) := by decide +kernel
theorem dX2_fillJars_35 : decode cX2_fillJars 35 = .ok (.aload_n 0, 1) := by decide +kernel
theorem dX2_fillJars_36 : decode cX2_fillJars 36 = .ok (.getfield 28, 3) := by decide +kernel
theorem dX2_fillJars_39 : decode cX2_fillJars 39 = .ok (.iload_n 1, 1) := by decide +kernel
theorem dX2_fillJars_40 : decode cX2_fillJars 40 = .ok (.aload_n 0, 1) := by decide +kernel
theorem dX2_fillJars_41 : decode cX2_fillJars 41 = .ok (.getfield 12, 3) := by decide +kernel
theorem dX2_fillJars_44 : decode cX2_fillJars 44 = .ok (.iload_n 2, 1) := by decide +kernel
theorem dX2_fillJars_45 : decode cX2_fillJars 45 = .ok (.iconst 3, 1) := by decide +kernel
theorem dX2_fillJars_46 : decode cX2_fillJars 46 = .ok (.invokevirtual 142, 3) := by decide +kernel
theorem dX2_fillJars_49 : decode cX2_fillJars 49 = .ok (.invokevirtual 146, 3) := by decide +kernel
theorem dX2_fillJars_52 : decode cX2_fillJars 52 = .ok (.iinc 1 1, 3) := by decide +kernel
theorem dX2_fillJars_55 : decode cX2_fillJars 55 = .ok (.goto (-53), 3) := by decide +kernel
theorem dX2_fillJars_58 : decode cX2_fillJars 58 = .ok (.return_, 1) := by decide +kernel
set_option maxRecDepth 20000 in
theorem ggX2_searchJars_X3_many : GoodIn wsX2_searchJars wsX3_many := goodIn_r _ [9, 10, 28, 29, 30] (by decide +kernel) (by decide +kernel)
set_option maxRecDepth 20000 in
theorem gX2_searchJars_X3_many : GoodIn wsX2_searchJars (wsV RX2 77 RX3 yX3_many wsX3_many) := goodIn_app (goodIn_of _ (by decide +kernel)) ggX2_searchJars_X3_many
set_option maxRecDepth 20000 in
theorem ggX2_searchJars_X0_jarsIn : GoodIn wsX2_searchJars wsX0_jarsIn := goodIn_r _ [15, 16, 17, 31, 32, 33, 34, 35, 36, 37] (by decide +kernel) (by decide +kernel)
set_option maxRecDepth 20000 in
theorem gX2_searchJars_X0_jarsIn : GoodIn wsX2_searchJars (wsV RX2 67 RX0 yX0_jarsIn wsX0_jarsIn) := goodIn_app (goodIn_of _ (by decide +kernel)) ggX2_searchJars_X0_jarsIn
set_option maxRecDepth 20000 in
theorem ggX2_searchJars_X0_dropJarsIn : GoodIn wsX2_searchJars wsX0_dropJarsIn := goodIn_r _ [21, 17, 16, 31, 32, 33, 34, 35, 36, 37] (by decide +kernel) (by decide +kernel)
set_option maxRecDepth 20000 in
theorem gX2_searchJars_X0_dropJarsIn : GoodIn wsX2_searchJars (wsV RX2 149 RX0 yX0_dropJarsIn wsX0_dropJarsIn) := goodIn_app (goodIn_of _ (by decide +kernel)) ggX2_searchJars_X0_dropJarsIn
theorem dX2_searchJars_0 : decode cX2_searchJars 0 = .ok (.aload_n 0, 1) := by decide +kernel
theorem dX2_searchJars_1 : decode cX2_searchJars 1 = .ok (.getfield 21, 3) := by decide +kernel
theorem dX2_searchJars_4 : decode cX2_searchJars 4 = .ok (.invokevirtual 77, 3) := by decide +kernel
theorem dX2_searchJars_7 : decode cX2_searchJars 7 = .ok (.ifCond .le 41, 3) := by decide +kernel
theorem dX2_searchJars_10 : decode cX2_searchJars 10 = .ok (.aload_n 0, 1) := by decide +kernel
theorem dX2_searchJars_11 : decode cX2_searchJars 11 = .ok (.getfield 46, 3) := by decide +kernel
theorem dX2_searchJars_14 : decode cX2_searchJars 14 = .ok (.aload_n 0, 1) := by decide +kernel
theorem dX2_searchJars_15 : decode cX2_searchJars 15 = .ok (.getfield 21, 3) := by decide +kernel
theorem dX2_searchJars_18 : decode cX2_searchJars 18 = .ok (.invokevirtual 77, 3) := by decide +kernel
theorem dX2_searchJars_21 : decode cX2_searchJars 21 = .ok (.irem, 1) := by decide +kernel
theorem dX2_searchJars_22 : decode cX2_searchJars 22 = .ok (.istore_n 1, 1) := by decide +kernel
theorem dX2_searchJars_23 : decode cX2_searchJars 23 = .ok (.aload_n 0, 1) := by decide +kernel
theorem dX2_searchJars_24 : decode cX2_searchJars 24 = .ok (.dup, 1) := by decide +kernel
theorem dX2_searchJars_25 : decode cX2_searchJars 25 = .ok (.getfield 50, 3) := by decide +kernel
theorem dX2_searchJars_28 : decode cX2_searchJars 28 = .ok (.aload_n 0, 1) := by decide +kernel
theorem dX2_searchJars_29 : decode cX2_searchJars 29 = .ok (.getfield 28, 3) := by decide +kernel
theorem dX2_searchJars_32 : decode cX2_searchJars 32 = .ok (.iload_n 1, 1) := by decide +kernel
theorem dX2_searchJars_33 : decode cX2_searchJars 33 = .ok (.invokevirtual 67, 3) := by decide +kernel
theorem dX2_searchJars_36 : decode cX2_searchJars 36 = .ok (.iadd, 1) := by decide +kernel
theorem dX2_searchJars_37 : decode cX2_searchJars 37 = .ok (.putfield 50, 3) := by decide +kernel
theorem dX2_searchJars_40 : decode cX2_searchJars 40 = .ok (.aload_n 0, 1) := by decide +kernel
theorem dX2_searchJars_41 : decode cX2_searchJars 41 = .ok (.getfield 28, 3) := by decide +kernel
theorem dX2_searchJars_44 : decode cX2_searchJars 44 = .ok (.iload_n 1, 1) := by decide +kernel
theorem dX2_searchJars_45 : decode cX2_searchJars 45 = .ok (.invokevirtual 149, 3) := by decide +kernel
theorem dX2_searchJars_48 : decode cX2_searchJars 48 = .ok (.return_, 1) := by decide +kernel
set_option maxRecDepth 20000 in
theorem ggX2_growInTheDark_X2_isDarkColumn : GoodIn wsX2_growInTheDark wsX2_isDarkColumn := goodIn_r _ [6, 7, 29, 30, 31, 32, 33, 34] (by decide +kernel) (by decide +kernel)
set_option maxRecDepth 20000 in
theorem gX2_growInTheDark_X2_isDarkColumn : GoodIn wsX2_growInTheDark (wsV RX2 116 RX2 yX2_isDarkColumn wsX2_isDarkColumn) := goodIn_app (goodIn_of _ (by decide +kernel)) ggX2_growInTheDark_X2_isDarkColumn
set_option maxRecDepth 20000 in
theorem ggX2_growInTheDark_X1_grow : GoodIn wsX2_growInTheDark wsX1_grow := goodIn_r _ [12, 13, 14, 15, 11, 16, 17, 18, 19, 20, 21, 22, 23, 24, 25, 26, 27, 28, 35] (by decide +kernel) (by decide +kernel)
set_option maxRecDepth 20000 in
theorem gX2_growInTheDark_X1_grow : GoodIn wsX2_growInTheDark (wsV RX2 152 RX1 yX1_grow wsX1_grow) := goodIn_app (goodIn_of _ (by decide +kernel)) ggX2_growInTheDark_X1_grow
theorem dX2_growInTheDark_0 : decode cX2_growInTheDark 0 = .ok (.iconst 0, 1) := by decide +kernel
theorem dX2_growInTheDark_1 : decode cX2_growInTheDark 1 = .ok (.istore_n 1, 1) := by decide +kernel
theorem dX2_growInTheDark_2 : decode cX2_growInTheDark 2 = .ok (.iload_n 1, 1) := by decide +kernel
theorem dX2_growInTheDark_3 : decode cX2_growInTheDark 3 = .ok (.bipush 10, 2) := by decide +kernel
theorem dX2_growInTheDark_5 : decode cX2_growInTheDark 5 = .ok (.if_icmp .ge 25, 3) := by decide +kernel
theorem dX2_growInTheDark_8 : decode cX2_growInTheDark 8 = .ok (.aload_n 0, 1) := by decide +kernel
theorem dX2_growInTheDark_9 : decode cX2_growInTheDark 9 = .ok (.iload_n 1, 1) := by decide +kernel
theorem dX2_growInTheDark_10 : decode cX2_growInTheDark 10 = .ok (.invokevirtual 116, 3) := by decide +kernel
theorem dX2_growInTheDark_13 : decode cX2_growInTheDark 13 = .ok (.ifCond .eq 11, 3) := by decide +kernel
theorem dX2_growInTheDark_16 : decode cX2_growInTheDark 16 = .ok (.aload_n 0, 1) := by decide +kernel
theorem dX2_growInTheDark_17 : decode cX2_growInTheDark 17 = .ok (.getfield 12, 3) := by decide +kernel
theorem dX2_growInTheDark_20 : decode cX2_growInTheDark 20 = .ok (.iload_n 1, 1) := by decide +kernel
theorem dX2_growInTheDark_21 : decode cX2_growInTheDark 21 = .ok (.invokevirtual 152, 3) := by decide +kernel
theorem dX2_growInTheDark_24 : decode cX2_growInTheDark 24 = .ok (.iinc 1 1, 3) := by decide +kernel
theorem dX2_growInTheDark_27 : decode cX2_growInTheDark 27 = .ok (.goto (-25), 3) := by decide +kernel
theorem dX2_growInTheDark_30 : decode cX2_growInTheDark 30 = .ok (.return_, 1) := by decide +kernel
theorem dX3_init_0 : decode cX3_init 0 = .ok (.aload_n 0, 1) := by decide +kernel
theorem dX3_init_1 : decode cX3_init 1 = .ok (.invokespecial 3, 3) := by decide +kernel
theorem dX3_init_4 : decode cX3_init 4 = .ok (.aload_n 0, 1) := by decide +kernel
theorem dX3_init_5 : decode cX3_init 5 = .ok (.bipush 6, 2) := by decide +kernel
theorem dX3_init_7 : decode cX3_init 7 = .ok (.newarray .int, 2) := by decide +kernel
theorem dX3_init_9 : decode cX3_init 9 = .ok (.putfield 9, 3) := by decide +kernel
theorem dX3_init_12 : decode cX3_init 12 = .ok (.aload_n 0, 1) := by decide +kernel
theorem dX3_init_13 : decode cX3_init 13 = .ok (.bipush 6, 2) := by decide +kernel
theorem dX3_init_15 : decode cX3_init 15 = .ok (.newarray .boolean, 2) := by decide +kernel
theorem dX3_init_17 : decode cX3_init 17 = .ok (.putfield 15, 3) := by decide +kernel
theorem dX3_init_20 : decode cX3_init 20 = .ok (.return_, 1) := by decide +kernel
theorem dX3_many_0 : decode cX3_many 0 = .ok (.aload_n 0, 1) := by decide +kernel
theorem dX3_many_1 : decode cX3_many 1 = .ok (.getfield 19, 3) := by decide +kernel
theorem dX3_many_4 : decode cX3_many 4 = .ok (.ireturn, 1) := by decide +kernel
theorem dX3_isFull_0 : decode cX3_isFull 0 = .ok (.aload_n 0, 1) := by decide +kernel
theorem dX3_isFull_1 : decode cX3_isFull 1 = .ok (.getfield 19, 3) := by decide +kernel
theorem dX3_isFull_4 : decode cX3_isFull 4 = .ok (.bipush 6, 2) := by decide +kernel
theorem dX3_isFull_6 : decode cX3_isFull 6 = .ok (.if_icmp .lt 7, 3) := by decide +kernel
theorem dX3_isFull_9 : decode cX3_isFull 9 = .ok (.iconst 1, 1) := by decide +kernel
theorem dX3_isFull_10 : decode cX3_isFull 10 = .ok (.goto 4, 3) := by decide +kernel
theorem dX3_isFull_13 : decode cX3_isFull 13 = .ok (.iconst 0, 1) := by decide +kernel
theorem dX3_isFull_14 : decode cX3_isFull 14 = .ok (.ireturn, 1) := by decide +kernel
theorem dX3_has_0 : decode cX3_has 0 = .ok (.iload_n 1, 1) := by decide +kernel
theorem dX3_has_1 : decode cX3_has 1 = .ok (.ifCond .lt 21, 3) := by decide +kernel
theorem dX3_has_4 : decode cX3_has 4 = .ok (.iload_n 1, 1) := by decide +kernel
theorem dX3_has_5 : decode cX3_has 5 = .ok (.aload_n 0, 1) := by decide +kernel
theorem dX3_has_6 : decode cX3_has 6 = .ok (.getfield 19, 3) := by decide +kernel
theorem dX3_has_9 : decode cX3_has 9 = .ok (.if_icmp .ge 13, 3) := by decide +kernel
theorem dX3_has_12 : decode cX3_has 12 = .ok (.iload_n 1, 1) := by decide +kernel
theorem dX3_has_13 : decode cX3_has 13 = .ok (.bipush 6, 2) := by decide +kernel
theorem dX3_has_15 : decode cX3_has 15 = .ok (.if_icmp .ge 7, 3) := by decide +kernel
theorem dX3_has_18 : decode cX3_has 18 = .ok (.iconst 1, 1) := by decide +kernel
theorem dX3_has_19 : decode cX3_has 19 = .ok (.goto 4, 3) := by decide +kernel
theorem dX3_has_22 : decode cX3_has 22 = .ok (.iconst 0, 1) := by decide +kernel
theorem dX3_has_23 : decode cX3_has 23 = .ok (.ireturn, 1) := by decide +kernel
theorem dX3_add_0 : decode cX3_add 0 = .ok (.aload_n 0, 1) := by decide +kernel
theorem dX3_add_1 : decode cX3_add 1 = .ok (.getfield 19, 3) := by decide +kernel
theorem dX3_add_4 : decode cX3_add 4 = .ok (.istore_n 2, 1) := by decide +kernel
theorem dX3_add_5 : decode cX3_add 5 = .ok (.iload_n 2, 1) := by decide +kernel
theorem dX3_add_6 : decode cX3_add 6 = .ok (.ifCond .lt 30, 3) := by decide +kernel
theorem dX3_add_9 : decode cX3_add 9 = .ok (.iload_n 2, 1) := by decide +kernel
theorem dX3_add_10 : decode cX3_add 10 = .ok (.bipush 6, 2) := by decide +kernel
theorem dX3_add_12 : decode cX3_add 12 = .ok (.if_icmp .ge 24, 3) := by decide +kernel
