theorem dX0_init_0 : decode cX0_init 0 = .ok (.aload_n 0, 1) := by decide +kernel
theorem dX0_init_1 : decode cX0_init 1 = .ok (.invokespecial 3, 3) := by decide +kernel
theorem dX0_init_4 : decode cX0_init 4 = .ok (.aload_n 0, 1) := by decide +kernel
theorem dX0_init_5 : decode cX0_init 5 = .ok (.bipush 12, 2) := by decide +kernel
theorem dX0_init_7 : decode cX0_init 7 = .ok (.newarray .int, 2) := by decide +kernel
theorem dX0_init_9 : decode cX0_init 9 = .ok (.putfield 9, 3) := by decide +kernel
theorem dX0_init_12 : decode cX0_init 12 = .ok (.aload_n 0, 1) := by decide +kernel
theorem dX0_init_13 : decode cX0_init 13 = .ok (.bipush 12, 2) := by decide +kernel
theorem dX0_init_15 : decode cX0_init 15 = .ok (.newarray .int, 2) := by decide +kernel
theorem dX0_init_17 : decode cX0_init 17 = .ok (.putfield 15, 3) := by decide +kernel
theorem dX0_init_20 : decode cX0_init 20 = .ok (.aload_n 0, 1) := by decide +kernel
theorem dX0_init_21 : decode cX0_init 21 = .ok (.bipush 12, 2) := by decide +kernel
theorem dX0_init_23 : decode cX0_init 23 = .ok (.newarray .int, 2) := by decide +kernel
theorem dX0_init_25 : decode cX0_init 25 = .ok (.putfield 18, 3) := by decide +kernel
theorem dX0_init_28 : decode cX0_init 28 = .ok (.aload_n 0, 1) := by decide +kernel
theorem dX0_init_29 : decode cX0_init 29 = .ok (.bipush 12, 2) := by decide +kernel
theorem dX0_init_31 : decode cX0_init 31 = .ok (.newarray .int, 2) := by decide +kernel
theorem dX0_init_33 : decode cX0_init 33 = .ok (.putfield 21, 3) := by decide +kernel
theorem dX0_init_36 : decode cX0_init 36 = .ok (.aload_n 0, 1) := by decide +kernel
theorem dX0_init_37 : decode cX0_init 37 = .ok (.bipush 12, 2) := by decide +kernel
theorem dX0_init_39 : decode cX0_init 39 = .ok (.newarray .boolean, 2) := by decide +kernel
theorem dX0_init_41 : decode cX0_init 41 = .ok (.putfield 24, 3) := by decide +kernel
theorem dX0_init_44 : decode cX0_init 44 = .ok (.aload_n 0, 1) := by decide +kernel
theorem dX0_init_45 : decode cX0_init 45 = .ok (.bipush 12, 2) := by decide +kernel
theorem dX0_init_47 : decode cX0_init 47 = .ok (.newarray .boolean, 2) := by decide +kernel
theorem dX0_init_49 : decode cX0_init 49 = .ok (.putfield 28, 3) := by decide +kernel
theorem dX0_init_52 : decode cX0_init 52 = .ok (.return_, 1) := by decide +kernel
theorem dX0_many_0 : decode cX0_many 0 = .ok (.aload_n 0, 1) := by decide +kernel
theorem dX0_many_1 : decode cX0_many 1 = .ok (.getfield 31, 3) := by decide +kernel
theorem dX0_many_4 : decode cX0_many 4 = .ok (.ireturn, 1) := by decide +kernel
theorem dX0_isFull_0 : decode cX0_isFull 0 = .ok (.aload_n 0, 1) := by decide +kernel
theorem dX0_isFull_1 : decode cX0_isFull 1 = .ok (.getfield 31, 3) := by decide +kernel
theorem dX0_isFull_4 : decode cX0_isFull 4 = .ok (.bipush 12, 2) := by decide +kernel
theorem dX0_isFull_6 : decode cX0_isFull 6 = .ok (.if_icmp .lt 7, 3) := by decide +kernel
theorem dX0_isFull_9 : decode cX0_isFull 9 = .ok (.iconst 1, 1) := by decide +kernel
theorem dX0_isFull_10 : decode cX0_isFull 10 = .ok (.goto 4, 3) := by decide +kernel
theorem dX0_isFull_13 : decode cX0_isFull 13 = .ok (.iconst 0, 1) := by decide +kernel
theorem dX0_isFull_14 : decode cX0_isFull 14 = .ok (.ireturn, 1) := by decide +kernel
theorem dX0_has_0 : decode cX0_has 0 = .ok (.iload_n 1, 1) := by decide +kernel
theorem dX0_has_1 : decode cX0_has 1 = .ok (.ifCond .lt 21, 3) := by decide +kernel
theorem dX0_has_4 : decode cX0_has 4 = .ok (.iload_n 1, 1) := by decide +kernel
theorem dX0_has_5 : decode cX0_has 5 = .ok (.aload_n 0, 1) := by decide +kernel
theorem dX0_has_6 : decode cX0_has 6 = .ok (.getfield 31, 3) := by decide +kernel
theorem dX0_has_9 : decode cX0_has 9 = .ok (.if_icmp .ge 13, 3) := by decide +kernel
theorem dX0_has_12 : decode cX0_has 12 = .ok (.iload_n 1, 1) := by decide +kernel
theorem dX0_has_13 : decode cX0_has 13 = .ok (.bipush 12, 2) := by decide +kernel
theorem dX0_has_15 : decode cX0_has 15 = .ok (.if_icmp .ge 7, 3) := by decide +kernel
theorem dX0_has_18 : decode cX0_has 18 = .ok (.iconst 1, 1) := by decide +kernel
theorem dX0_has_19 : decode cX0_has 19 = .ok (.goto 4, 3) := by decide +kernel
theorem dX0_has_22 : decode cX0_has 22 = .ok (.iconst 0, 1) := by decide +kernel
theorem dX0_has_23 : decode cX0_has 23 = .ok (.ireturn, 1) := by decide +kernel
theorem dX0_add_0 : decode cX0_add 0 = .ok (.aload_n 0, 1) := by decide +kernel
theorem dX0_add_1 : decode cX0_add 1 = .ok (.getfield 31, 3) := by decide +kernel
theorem dX0_add_4 : decode cX0_add 4 = .ok (.istore 4, 2) := by decide +kernel
theorem dX0_add_6 : decode cX0_add 6 = .ok (.iload 4, 2) := by decide +kernel
theorem dX0_add_8 : decode cX0_add 8 = .ok (.ifCond .lt 50, 3) := by decide +kernel
theorem dX0_add_11 : decode cX0_add 11 = .ok (.iload 4, 2) := by decide +kernel
theorem dX0_add_13 : decode cX0_add 13 = .ok (.bipush 12, 2) := by decide +kernel
theorem dX0_add_15 : decode cX0_add 15 = .ok (.if_icmp .ge 43, 3) := by decide +kernel
theorem dX0_add_18 : decode cX0_add 18 = .ok (.aload_n 0, 1) := by decide +kernel
theorem dX0_add_19 : decode cX0_add 19 = .ok (.getfield 9, 3) := by decide +kernel
theorem dX0_add_22 : decode cX0_add 22 = .ok (.iload 4, 2) := by decide +kernel
theorem dX0_add_24 : decode cX0_add 24 = .ok (.iload_n 1, 1) := by decide +kernel
theorem dX0_add_25 : decode cX0_add 25 = .ok (.iastore, 1) := by decide +kernel
theorem dX0_add_26 : decode cX0_add 26 = .ok (.aload_n 0, 1) := by decide +kernel
theorem dX0_add_27 : decode cX0_add 27 = .ok (.getfield 15, 3) := by decide +kernel
theorem dX0_add_30 : decode cX0_add 30 = .ok (.iload 4, 2) := by decide +kernel
theorem dX0_add_32 : decode cX0_add 32 = .ok (.iload_n 2, 1) := by decide +kernel
theorem dX0_add_33 : decode cX0_add 33 = .ok (.iastore, 1) := by decide +kernel
theorem dX0_add_34 : decode cX0_add 34 = .ok (.aload_n 0, 1) := by decide +kernel
theorem dX0_add_35 : decode cX0_add 35 = .ok (.getfield 24, 3) := by decide +kernel
theorem dX0_add_38 : decode cX0_add 38 = .ok (.iload 4, 2) := by decide +kernel
theorem dX0_add_40 : decode cX0_add 40 = .ok (.iload_n 3, 1) := by decide +kernel
theorem dX0_add_41 : decode cX0_add 41 = .ok (.bastore, 1) := by decide +kernel
theorem dX0_add_42 : decode cX0_add 42 = .ok (.aload_n 0, 1) := by decide +kernel
theorem dX0_add_43 : decode cX0_add 43 = .ok (.getfield 28, 3) := by decide +kernel
theorem dX0_add_46 : decode cX0_add 46 = .ok (.iload 4, 2) := by decide +kernel
theorem dX0_add_48 : decode cX0_add 48 = .ok (.iconst 1, 1) := by decide +kernel
theorem dX0_add_49 : decode cX0_add 49 = .ok (.bastore, 1) := by decide +kernel
theorem dX0_add_50 : decode cX0_add 50 = .ok (.aload_n 0, 1) := by decide +kernel
theorem dX0_add_51 : decode cX0_add 51 = .ok (.iload 4, 2) := by decide +kernel
theorem dX0_add_53 : decode cX0_add 53 = .ok (.iconst 1, 1) := by decide +kernel
theorem dX0_add_54 : decode cX0_add 54 = .ok (.iadd, 1) := by decide +kernel
theorem dX0_add_55 : decode cX0_add 55 = .ok (.putfield 31, 3) := by decide +kernel
theorem dX0_add_58 : decode cX0_add 58 = .ok (.iload 4, 2) := by decide +kernel
theorem dX0_add_60 : decode cX0_add 60 = .ok (.ireturn, 1) := by decide +kernel
set_option maxRecDepth 20000 in
theorem ggX0_isStaying_X0_has : GoodIn wsX0_isStaying wsX0_has := goodIn_r _ [6, 7, 8, 9, 10, 11, 12, 13, 14] (by decide +kernel) (by decide +kernel)
set_option maxRecDepth 20000 in
theorem gX0_isStaying_X0_has : GoodIn wsX0_isStaying (wsV RX0 35 RX0 yX0_has wsX0_has) := goodIn_app (goodIn_of _ (by decide +kernel)) ggX0_isStaying_X0_has
theorem dX0_isStaying_0 : decode cX0_isStaying 0 = .ok (.aload_n 0, 1) := by decide +kernel
theorem dX0_isStaying_1 : decode cX0_isStaying 1 = .ok (.iload_n 1, 1) := by decide +kernel
theorem dX0_isStaying_2 : decode cX0_isStaying 2 = .ok (.invokevirtual 35, 3) := by decide +kernel
theorem dX0_isStaying_5 : decode cX0_isStaying 5 = .ok (.ifCond .eq 16, 3) := by decide +kernel
theorem dX0_isStaying_8 : decode cX0_isStaying 8 = .ok (.aload_n 0, 1) := by decide +kernel
theorem dX0_isStaying_9 : decode cX0_isStaying 9 = .ok (.getfield 28, 3) := by decide +kernel
theorem dX0_isStaying_12 : decode cX0_isStaying 12 = .ok (.iload_n 1, 1) := by decide +kernel
theorem dX0_isStaying_13 : decode cX0_isStaying 13 = .ok (.baload, 1) := by decide +kernel
theorem dX0_isStaying_14 : decode cX0_isStaying 14 = .ok (.ifCond .eq 7, 3) := by decide +kernel
theorem dX0_isStaying_17 : decode cX0_isStaying 17 = .ok (.iconst 1, 1) := by decide +kernel
theorem dX0_isStaying_18 : decode cX0_isStaying 18 = .ok (.goto 4, 3) := by decide +kernel
theorem dX0_isStaying_21 : decode cX0_isStaying 21 = .ok (.iconst 0, 1) := by decide +kernel
theorem dX0_isStaying_22 : decode cX0_isStaying 22 = .ok (.ireturn, 1) := by decide +kernel
set_option maxRecDepth 20000 in
theorem ggX0_hasJar_X0_has : GoodIn wsX0_hasJar wsX0_has := goodIn_r _ [6, 7, 8, 9, 10, 11, 12, 13, 14] (by decide +kernel) (by decide +kernel)
set_option maxRecDepth 20000 in
theorem gX0_hasJar_X0_has : GoodIn wsX0_hasJar (wsV RX0 35 RX0 yX0_has wsX0_has) := goodIn_app (goodIn_of _ (by decide +kernel)) ggX0_hasJar_X0_has
theorem dX0_hasJar_0 : decode cX0_hasJar 0 = .ok (.aload_n 0, 1) := by decide +kernel
theorem dX0_hasJar_1 : decode cX0_hasJar 1 = .ok (.iload_n 1, 1) := by decide +kernel
theorem dX0_hasJar_2 : decode cX0_hasJar 2 = .ok (.invokevirtual 35, 3) := by decide +kernel
theorem dX0_hasJar_5 : decode cX0_hasJar 5 = .ok (.ifCond .eq 16, 3) := by decide +kernel
theorem dX0_hasJar_8 : decode cX0_hasJar 8 = .ok (.aload_n 0, 1) := by decide +kernel
theorem dX0_hasJar_9 : decode cX0_hasJar 9 = .ok (.getfield 24, 3) := by decide +kernel
theorem dX0_hasJar_12 : decode cX0_hasJar 12 = .ok (.iload_n 1, 1) := by decide +kernel
theorem dX0_hasJar_13 : decode cX0_hasJar 13 = .ok (.baload, 1) := by decide +kernel
theorem dX0_hasJar_14 : decode cX0_hasJar 14 = .ok (.ifCond .eq 7, 3) := by decide +kernel
theorem dX0_hasJar_17 : decode cX0_hasJar 17 = .ok (.iconst 1, 1) := by decide +kernel
theorem dX0_hasJar_18 : decode cX0_hasJar 18 = .ok (.goto 4, 3) := by decide +kernel
theorem dX0_hasJar_21 : decode cX0_hasJar 21 = .ok (.iconst 0, 1) := by decide +kernel
theorem dX0_hasJar_22 : decode cX0_hasJar 22 = .ok (.ireturn, 1) := by decide +kernel
set_option maxRecDepth 20000 in
theorem ggX0_roomOf_X0_has : GoodIn wsX0_roomOf wsX0_has := goodIn_r _ [6, 7, 8, 9, 10, 11, 12, 13, 14] (by decide +kernel) (by decide +kernel)
set_option maxRecDepth 20000 in
theorem gX0_roomOf_X0_has : GoodIn wsX0_roomOf (wsV RX0 35 RX0 yX0_has wsX0_has) := goodIn_app (goodIn_of _ (by decide +kernel)) ggX0_roomOf_X0_has
theorem dX0_roomOf_0 : decode cX0_roomOf 0 = .ok (.aload_n 0, 1) := by decide +kernel
theorem dX0_roomOf_1 : decode cX0_roomOf 1 = .ok (.iload_n 1, 1) := by decide +kernel
theorem dX0_roomOf_2 : decode cX0_roomOf 2 = .ok (.invokevirtual 35, 3) := by decide +kernel
theorem dX0_roomOf_5 : decode cX0_roomOf 5 = .ok (.ifCond .eq 12, 3) := by decide +kernel
theorem dX0_roomOf_8 : decode cX0_roomOf 8 = .ok (.aload_n 0, 1) := by decide +kernel
theorem dX0_roomOf_9 : decode cX0_roomOf 9 = .ok (.getfield 9, 3) := by decide +kernel
theorem dX0_roomOf_12 : decode cX0_roomOf 12 = .ok (.iload_n 1, 1) := by decide +kernel
theorem dX0_roomOf_13 : decode cX0_roomOf 13 = .ok (.iaload, 1) := by decide +kernel
theorem dX0_roomOf_14 : decode cX0_roomOf 14 = .ok (.goto 4, 3) := by decide +kernel
theorem dX0_roomOf_17 : decode cX0_roomOf 17 = .ok (.iconst (-1), 1) := by decide +kernel
theorem dX0_roomOf_18 : decode cX0_roomOf 18 = .ok (.ireturn, 1) := by decide +kernel
set_option maxRecDepth 20000 in
theorem ggX0_whisperOf_X0_has : GoodIn wsX0_whisperOf wsX0_has := goodIn_r _ [6, 7, 8, 9, 10, 11, 12, 13, 14] (by decide +kernel) (by decide +kernel)
set_option maxRecDepth 20000 in
theorem gX0_whisperOf_X0_has : GoodIn wsX0_whisperOf (wsV RX0 35 RX0 yX0_has wsX0_has) := goodIn_app (goodIn_of _ (by decide +kernel)) ggX0_whisperOf_X0_has
theorem dX0_whisperOf_0 : decode cX0_whisperOf 0 = .ok (.aload_n 0, 1) := by decide +kernel
theorem dX0_whisperOf_1 : decode cX0_whisperOf 1 = .ok (.iload_n 1, 1) := by decide +kernel
theorem dX0_whisperOf_2 : decode cX0_whisperOf 2 = .ok (.invokevirtual 35, 3) := by decide +kernel
theorem dX0_whisperOf_5 : decode cX0_whisperOf 5 = .ok (.ifCond .eq 12, 3) := by decide +kernel
theorem dX0_whisperOf_8 : decode cX0_whisperOf 8 = .ok (.aload_n 0, 1) := by decide +kernel
theorem dX0_whisperOf_9 : decode cX0_whisperOf 9 = .ok (.getfield 15, 3) := by decide +kernel
theorem dX0_whisperOf_12 : decode cX0_whisperOf 12 = .ok (.iload_n 1, 1) := by decide +kernel
theorem dX0_whisperOf_13 : decode cX0_whisperOf 13 = .ok (.iaload, 1) := by decide +kernel
theorem dX0_whisperOf_14 : decode cX0_whisperOf 14 = .ok (.goto 4, 3) := by decide +kernel
theorem dX0_whisperOf_17 : decode cX0_whisperOf 17 = .ok (.iconst 0, 1) := by decide +kernel
theorem dX0_whisperOf_18 : decode cX0_whisperOf 18 = .ok (.ireturn, 1) := by decide +kernel
set_option maxRecDepth 20000 in
theorem ggX0_tookOf_X0_has : GoodIn wsX0_tookOf wsX0_has := goodIn_r _ [6, 7, 8, 9, 10, 11, 12, 13, 14] (by decide +kernel) (by decide +kernel)
set_option maxRecDepth 20000 in
theorem gX0_tookOf_X0_has : GoodIn wsX0_tookOf (wsV RX0 35 RX0 yX0_has wsX0_has) := goodIn_app (goodIn_of _ (by decide +kernel)) ggX0_tookOf_X0_has
theorem dX0_tookOf_0 : decode cX0_tookOf 0 = .ok (.aload_n 0, 1) := by decide +kernel
theorem dX0_tookOf_1 : decode cX0_tookOf 1 = .ok (.iload_n 1, 1) := by decide +kernel
theorem dX0_tookOf_2 : decode cX0_tookOf 2 = .ok (.invokevirtual 35, 3) := by decide +kernel
theorem dX0_tookOf_5 : decode cX0_tookOf 5 = .ok (.ifCond .eq 12, 3) := by decide +kernel
theorem dX0_tookOf_8 : decode cX0_tookOf 8 = .ok (.aload_n 0, 1) := by decide +kernel
theorem dX0_tookOf_9 : decode cX0_tookOf 9 = .ok (.getfield 18, 3) := by decide +kernel
theorem dX0_tookOf_12 : decode cX0_tookOf 12 = .ok (.iload_n 1, 1) := by decide +kernel
theorem dX0_tookOf_13 : decode cX0_tookOf 13 = .ok (.iaload, 1) := by decide +kernel
theorem dX0_tookOf_14 : decode cX0_tookOf 14 = .ok (.goto 4, 3) := by decide +kernel
theorem dX0_tookOf_17 : decode cX0_tookOf 17 = .ok (.iconst 0, 1) := by decide +kernel
theorem dX0_tookOf_18 : decode cX0_tookOf 18 = .ok (.ireturn, 1) := by decide +kernel
set_option maxRecDepth 20000 in
theorem ggX0_sawOf_X0_has : GoodIn wsX0_sawOf wsX0_has := goodIn_r _ [6, 7, 8, 9, 10, 11, 12, 13, 14] (by decide +kernel) (by decide +kernel)
set_option maxRecDepth 20000 in
theorem gX0_sawOf_X0_has : GoodIn wsX0_sawOf (wsV RX0 35 RX0 yX0_has wsX0_has) := goodIn_app (goodIn_of _ (by decide +kernel)) ggX0_sawOf_X0_has
theorem dX0_sawOf_0 : decode cX0_sawOf 0 = .ok (.aload_n 0, 1) := by decide +kernel
theorem dX0_sawOf_1 : decode cX0_sawOf 1 = .ok (.iload_n 1, 1) := by decide +kernel
theorem dX0_sawOf_2 : decode cX0_sawOf 2 = .ok (.invokevirtual 35, 3) := by decide +kernel
theorem dX0_sawOf_5 : decode cX0_sawOf 5 = .ok (.ifCond .eq 12, 3) := by decide +kernel
theorem dX0_sawOf_8 : decode cX0_sawOf 8 = .ok (.aload_n 0, 1) := by decide +kernel
theorem dX0_sawOf_9 : decode cX0_sawOf 9 = .ok (.getfield 21, 3) := by decide +kernel
theorem dX0_sawOf_12 : decode cX0_sawOf 12 = .ok (.iload_n 1, 1) := by decide +kernel
theorem dX0_sawOf_13 : decode cX0_sawOf 13 = .ok (.iaload, 1) := by decide +kernel
theorem dX0_sawOf_14 : decode cX0_sawOf 14 = .ok (.goto 4, 3) := by decide +kernel
theorem dX0_sawOf_17 : decode cX0_sawOf 17 = .ok (.iconst 0, 1) := by decide +kernel
theorem dX0_sawOf_18 : decode cX0_sawOf 18 = .ok (.ireturn, 1) := by decide +kernel
set_option maxRecDepth 20000 in
theorem ggX0_setRoom_X0_has : GoodIn wsX0_setRoom wsX0_has := goodIn_r _ [6, 7, 8, 9, 10, 11, 12, 13, 14] (by decide +kernel) (by decide +kernel)
set_option maxRecDepth 20000 in
theorem gX0_setRoom_X0_has : GoodIn wsX0_setRoom (wsV RX0 35 RX0 yX0_has wsX0_has) := goodIn_app (goodIn_of _ (by decide +kernel)) ggX0_setRoom_X0_has
theorem dX0_setRoom_0 : decode cX0_setRoom 0 = .ok (.aload_n 0, 1) := by decide +kernel
theorem dX0_setRoom_1 : decode cX0_setRoom 1 = .ok (.iload_n 1, 1) := by decide +kernel
theorem dX0_setRoom_2 : decode cX0_setRoom 2 = .ok (.invokevirtual 35, 3) := by decide +kernel
theorem dX0_setRoom_5 : decode cX0_setRoom 5 = .ok (.ifCond .eq 10, 3) := by decide +kernel
theorem dX0_setRoom_8 : decode cX0_setRoom 8 = .ok (.aload_n 0, 1) := by decide +kernel
theorem dX0_setRoom_9 : decode cX0_setRoom 9 = .ok (.getfield 9, 3) := by decide +kernel
theorem dX0_setRoom_12 : decode cX0_setRoom 12 = .ok (.iload_n 1, 1) := by decide +kernel
theorem dX0_setRoom_13 : decode cX0_setRoom 13 = .ok (.iload_n 2, 1) := by decide +kernel
theorem dX0_setRoom_14 : decode cX0_setRoom 14 = .ok (.iastore, 1) := by decide +kernel
theorem dX0_setRoom_15 : decode cX0_setRoom 15 = .ok (.return_, 1) := by decide +kernel
set_option maxRecDepth 20000 in
theorem ggX0_setWhisper_X0_has : GoodIn wsX0_setWhisper wsX0_has := goodIn_r _ [6, 7, 8, 9, 10, 11, 12, 13, 14] (by decide +kernel) (by decide +kernel)
set_option maxRecDepth 20000 in
theorem gX0_setWhisper_X0_has : GoodIn wsX0_setWhisper (wsV RX0 35 RX0 yX0_has wsX0_has) := goodIn_app (goodIn_of _ (by decide +kernel)) ggX0_setWhisper_X0_has
theorem dX0_setWhisper_0 : decode cX0_setWhisper 0 = .ok (.aload_n 0, 1) := by decide +kernel
theorem dX0_setWhisper_1 : decode cX0_setWhisper 1 = .ok (.iload_n 1, 1) := by decide +kernel
theorem dX0_setWhisper_2 : decode cX0_setWhisper 2 = .ok (.invokevirtual 35, 3) := by decide +kernel
theorem dX0_setWhisper_5 : decode cX0_setWhisper 5 = .ok (.ifCond .eq 10, 3) := by decide +kernel
theorem dX0_setWhisper_8 : decode cX0_setWhisper 8 = .ok (.aload_n 0, 1) := by decide +kernel
theorem dX0_setWhisper_9 : decode cX0_setWhisper 9 = .ok (.getfield 15, 3) := by decide +kernel
theorem dX0_setWhisper_12 : decode cX0_setWhisper 12 = .ok (.iload_n 1, 1) := by decide +kernel
theorem dX0_setWhisper_13 : decode cX0_setWhisper 13 = .ok (.iload_n 2, 1) := by decide +kernel
theorem dX0_setWhisper_14 : decode cX0_setWhisper 14 = .ok (.iastore, 1) := by decide +kernel
theorem dX0_setWhisper_15 : decode cX0_setWhisper 15 = .ok (.return_, 1) := by decide +kernel
set_option maxRecDepth 20000 in
theorem ggX0_sendOff_X0_has : GoodIn wsX0_sendOff wsX0_has := goodIn_r _ [7, 8, 9, 10, 11, 12, 13, 14, 15] (by decide +kernel) (by decide +kernel)
set_option maxRecDepth 20000 in
theorem gX0_sendOff_X0_has : GoodIn wsX0_sendOff (wsV RX0 35 RX0 yX0_has wsX0_has) := goodIn_app (goodIn_of _ (by decide +kernel)) ggX0_sendOff_X0_has
theorem dX0_sendOff_0 : decode cX0_sendOff 0 = .ok (.aload_n 0, 1) := by decide +kernel
theorem dX0_sendOff_1 : decode cX0_sendOff 1 = .ok (.iload_n 1, 1) := by decide +kernel
theorem dX0_sendOff_2 : decode cX0_sendOff 2 = .ok (.invokevirtual 35, 3) := by decide +kernel
theorem dX0_sendOff_5 : decode cX0_sendOff 5 = .ok (.ifCond .eq 17, 3) := by decide +kernel
theorem dX0_sendOff_8 : decode cX0_sendOff 8 = .ok (.aload_n 0, 1) := by decide +kernel
theorem dX0_sendOff_9 : decode cX0_sendOff 9 = .ok (.getfield 28, 3) := by decide +kernel
theorem dX0_sendOff_12 : decode cX0_sendOff 12 = .ok (.iload_n 1, 1) := by decide +kernel
theorem dX0_sendOff_13 : decode cX0_sendOff 13 = .ok (.iconst 0, 1) := by decide +kernel
theorem dX0_sendOff_14 : decode cX0_sendOff 14 = .ok (.bastore, 1) := by decide +kernel
theorem dX0_sendOff_15 : decode cX0_sendOff 15 = .ok (.aload_n 0, 1) := by decide +kernel
theorem dX0_sendOff_16 : decode cX0_sendOff 16 = .ok (.getfield 24, 3) := by decide +kernel
theorem dX0_sendOff_19 : decode cX0_sendOff 19 = .ok (.iload_n 1, 1) := by decide +kernel
theorem dX0_sendOff_20 : decode cX0_sendOff 20 = .ok (.iconst 0, 1) := by decide +kernel
theorem dX0_sendOff_21 : decode cX0_sendOff 21 = .ok (.bastore, 1) := by decide +kernel
theorem dX0_sendOff_22 : decode cX0_sendOff 22 = .ok (.return_, 1) := by decide +kernel
set_option maxRecDepth 20000 in
theorem ggX0_addSeen_X0_has : GoodIn wsX0_addSeen wsX0_has := goodIn_r _ [6, 7, 8, 9, 10, 11, 12, 13, 14] (by decide +kernel) (by decide +kernel)
set_option maxRecDepth 20000 in
theorem gX0_addSeen_X0_has : GoodIn wsX0_addSeen (wsV RX0 35 RX0 yX0_has wsX0_has) := goodIn_app (goodIn_of _ (by decide +kernel)) ggX0_addSeen_X0_has
theorem dX0_addSeen_0 : decode cX0_addSeen 0 = .ok (.aload_n 0, 1) := by decide +kernel
theorem dX0_addSeen_1 : decode cX0_addSeen 1 = .ok (.iload_n 1, 1) := by decide +kernel
theorem dX0_addSeen_2 : decode cX0_addSeen 2 = .ok (.invokevirtual 35, 3) := by decide +kernel
theorem dX0_addSeen_5 : decode cX0_addSeen 5 = .ok (.ifCond .eq 13, 3) := by decide +kernel
theorem dX0_addSeen_8 : decode cX0_addSeen 8 = .ok (.aload_n 0, 1) := by decide +kernel
theorem dX0_addSeen_9 : decode cX0_addSeen 9 = .ok (.getfield 21, 3) := by decide +kernel
theorem dX0_addSeen_12 : decode cX0_addSeen 12 = .ok (.iload_n 1, 1) := by decide +kernel
theorem dX0_addSeen_13 : decode cX0_addSeen 13 = .ok (.dup2, 1) := by decide +kernel
theorem dX0_addSeen_14 : decode cX0_addSeen 14 = .ok (.iaload, 1) := by decide +kernel
theorem dX0_addSeen_15 : decode cX0_addSeen 15 = .ok (.iload_n 2, 1) := by decide +kernel
theorem dX0_addSeen_16 : decode cX0_addSeen 16 = .ok (.iadd, 1) := by decide +kernel
theorem dX0_addSeen_17 : decode cX0_addSeen 17 = .ok (.iastore, 1) := by decide +kernel
theorem dX0_addSeen_18 : decode cX0_addSeen 18 = .ok (.return_, 1) := by decide +kernel
set_option maxRecDepth 20000 in
theorem ggX0_addTaken_X0_has : GoodIn wsX0_addTaken wsX0_has := goodIn_r _ [6, 7, 8, 9, 10, 11, 12, 13, 14] (by decide +kernel) (by decide +kernel)
set_option maxRecDepth 20000 in
theorem gX0_addTaken_X0_has : GoodIn wsX0_addTaken (wsV RX0 35 RX0 yX0_has wsX0_has) := goodIn_app (goodIn_of _ (by decide +kernel)) ggX0_addTaken_X0_has
theorem dX0_addTaken_0 : decode cX0_addTaken 0 = .ok (.aload_n 0, 1) := by decide +kernel
theorem dX0_addTaken_1 : decode cX0_addTaken 1 = .ok (.iload_n 1, 1) := by decide +kernel
theorem dX0_addTaken_2 : decode cX0_addTaken 2 = .ok (.invokevirtual 35, 3) := by decide +kernel
theorem dX0_addTaken_5 : decode cX0_addTaken 5 = .ok (.ifCond .eq 13, 3) := by decide +kernel
theorem dX0_addTaken_8 : decode cX0_addTaken 8 = .ok (.aload_n 0, 1) := by decide +kernel
theorem dX0_addTaken_9 : decode cX0_addTaken 9 = .ok (.getfield 18, 3) := by decide +kernel
theorem dX0_addTaken_12 : decode cX0_addTaken 12 = .ok (.iload_n 1, 1) := by decide +kernel
theorem dX0_addTaken_13 : decode cX0_addTaken 13 = .ok (.dup2, 1) := by decide +kernel
theorem dX0_addTaken_14 : decode cX0_addTaken 14 = .ok (.iaload, 1) := by decide +kernel
theorem dX0_addTaken_15 : decode cX0_addTaken 15 = .ok (.iload_n 2, 1) := by decide +kernel
theorem dX0_addTaken_16 : decode cX0_addTaken 16 = .ok (.iadd, 1) := by decide +kernel
theorem dX0_addTaken_17 : decode cX0_addTaken 17 = .ok (.iastore, 1) := by decide +kernel
theorem dX0_addTaken_18 : decode cX0_addTaken 18 = .ok (.return_, 1) := by decide +kernel
set_option maxRecDepth 20000 in
theorem ggX0_tell_X0_roomOf : GoodIn wsX0_tell wsX0_roomOf := goodIn_r _ [5, 6, 7, 8, 9, 4, 10, 11, 37, 38, 39, 40, 41, 42, 43] (by decide +kernel) (by decide +kernel)
set_option maxRecDepth 20000 in
theorem gX0_tell_X0_roomOf : GoodIn wsX0_tell (wsV RX0 39 RX0 yX0_roomOf wsX0_roomOf) := goodIn_app (goodIn_of _ (by decide +kernel)) ggX0_tell_X0_roomOf
set_option maxRecDepth 20000 in
theorem ggX0_tell_X0_whisperOf : GoodIn wsX0_tell wsX0_whisperOf := goodIn_r _ [15, 16, 7, 8, 9, 4, 10, 11, 37, 38, 39, 40, 41, 42, 43] (by decide +kernel) (by decide +kernel)
set_option maxRecDepth 20000 in
theorem gX0_tell_X0_whisperOf : GoodIn wsX0_tell (wsV RX0 43 RX0 yX0_whisperOf wsX0_whisperOf) := goodIn_app (goodIn_of _ (by decide +kernel)) ggX0_tell_X0_whisperOf
set_option maxRecDepth 20000 in
theorem ggX0_tell_X0_hasJar : GoodIn wsX0_tell wsX0_hasJar := goodIn_r _ [20, 21, 7, 8, 9, 4, 10, 11, 37, 38, 39, 40, 41, 42, 43] (by decide +kernel) (by decide +kernel)
set_option maxRecDepth 20000 in
theorem gX0_tell_X0_hasJar : GoodIn wsX0_tell (wsV RX0 46 RX0 yX0_hasJar wsX0_hasJar) := goodIn_app (goodIn_of _ (by decide +kernel)) ggX0_tell_X0_hasJar
set_option maxRecDepth 20000 in
theorem ggX0_tell_X0_tookOf : GoodIn wsX0_tell wsX0_tookOf := goodIn_r _ [25, 26, 7, 8, 9, 4, 10, 11, 37, 38, 39, 40, 41, 42, 43] (by decide +kernel) (by decide +kernel)
set_option maxRecDepth 20000 in
theorem gX0_tell_X0_tookOf : GoodIn wsX0_tell (wsV RX0 49 RX0 yX0_tookOf wsX0_tookOf) := goodIn_app (goodIn_of _ (by decide +kernel)) ggX0_tell_X0_tookOf
set_option maxRecDepth 20000 in
theorem ggX0_tell_X0_sawOf : GoodIn wsX0_tell wsX0_sawOf := goodIn_r _ [30, 31, 7, 8, 9, 4, 10, 11, 37, 38, 39, 40, 41, 42, 43] (by decide +kernel) (by decide +kernel)
set_option maxRecDepth 20000 in
theorem gX0_tell_X0_sawOf : GoodIn wsX0_tell (wsV RX0 52 RX0 yX0_sawOf wsX0_sawOf) := goodIn_app (goodIn_of _ (by decide +kernel)) ggX0_tell_X0_sawOf
set_option maxRecDepth 20000 in
theorem ggX0_tell_X0_isStaying : GoodIn wsX0_tell wsX0_isStaying := goodIn_r _ [35, 36, 7, 8, 9, 4, 10, 11, 37, 38, 39, 40, 41, 42, 43] (by decide +kernel) (by decide +kernel)
set_option maxRecDepth 20000 in
theorem gX0_tell_X0_isStaying : GoodIn wsX0_tell (wsV RX0 55 RX0 yX0_isStaying wsX0_isStaying) := goodIn_app (goodIn_of _ (by decide +kernel)) ggX0_tell_X0_isStaying
theorem dX0_tell_0 : decode cX0_tell 0 = .ok (.iload_n 2, 1) := by decide +kernel
theorem dX0_tell_1 : decode cX0_tell 1 = .ok (.tableswitch 73 0 4 #[35, 41, 47, 61, 67], 35) := by decide +kernel
theorem dX0_tell_36 : decode cX0_tell 36 = .ok (.aload_n 0, 1) := by decide +kernel
theorem dX0_tell_37 : decode cX0_tell 37 = .ok (.iload_n 1, 1) := by decide +kernel
theorem dX0_tell_38 : decode cX0_tell 38 = .ok (.invokevirtual 39, 3) := by decide +kernel
theorem dX0_tell_41 : decode cX0_tell 41 = .ok (.ireturn, 1) := by decide +kernel
theorem dX0_tell_42 : decode cX0_tell 42 = .ok (.aload_n 0, 1) := by decide +kernel
theorem dX0_tell_43 : decode cX0_tell 43 = .ok (.iload_n 1, 1) := by decide +kernel
theorem dX0_tell_44 : decode cX0_tell 44 = .ok (.invokevirtual 43, 3) := by decide +kernel
theorem dX0_tell_47 : decode cX0_tell 47 = .ok (.ireturn, 1) := by decide +kernel
theorem dX0_tell_48 : decode cX0_tell 48 = .ok (.aload_n 0, 1) := by decide +kernel
theorem dX0_tell_49 : decode cX0_tell 49 = .ok (.iload_n 1, 1) := by decide +kernel
theorem dX0_tell_50 : decode cX0_tell 50 = .ok (.invokevirtual 46, 3) := by decide +kernel
theorem dX0_tell_53 : decode cX0_tell 53 = .ok (.ifCond .eq 7, 3) := by decide +kernel
theorem dX0_tell_56 : decode cX0_tell 56 = .ok (.iconst 1, 1) := by decide +kernel
theorem dX0_tell_57 : decode cX0_tell 57 = .ok (.goto 4, 3) := by decide +kernel
theorem dX0_tell_60 : decode cX0_tell 60 = .ok (.iconst 0, 1) := by decide +kernel
theorem dX0_tell_61 : decode cX0_tell 61 = .ok (.ireturn, 1) := by decide +kernel
theorem dX0_tell_62 : decode cX0_tell 62 = .ok (.aload_n 0, 1) := by decide +kernel
theorem dX0_tell_63 : decode cX0_tell 63 = .ok (.iload_n 1, 1) := by decide +kernel
theorem dX0_tell_64 : decode cX0_tell 64 = .ok (.invokevirtual 49, 3) := by decide +kernel
theorem dX0_tell_67 : decode cX0_tell 67 = .ok (.ireturn, 1) := by decide +kernel
theorem dX0_tell_68 : decode cX0_tell 68 = .ok (.aload_n 0, 1) := by decide +kernel
theorem dX0_tell_69 : decode cX0_tell 69 = .ok (.iload_n 1, 1) := by decide +kernel
theorem dX0_tell_70 : decode cX0_tell 70 = .ok (.invokevirtual 52, 3) := by decide +kernel
theorem dX0_tell_73 : decode cX0_tell 73 = .ok (.ireturn, 1) := by decide +kernel
theorem dX0_tell_74 : decode cX0_tell 74 = .ok (.aload_n 0, 1) := by decide +kernel
theorem dX0_tell_75 : decode cX0_tell 75 = .ok (.iload_n 1, 1) := by decide +kernel
theorem dX0_tell_76 : decode cX0_tell 76 = .ok (.invokevirtual 55, 3) := by decide +kernel
theorem dX0_tell_79 : decode cX0_tell 79 = .ok (.ifCond .eq 7, 3) := by decide +kernel
theorem dX0_tell_82 : decode cX0_tell 82 = .ok (.iconst 0, 1) := by decide +kernel
theorem dX0_tell_83 : decode cX0_tell 83 = .ok (.goto 4, 3) := by decide +kernel
theorem dX0_tell_86 : decode cX0_tell 86 = .ok (.iconst 1, 1) := by decide +kernel
theorem dX0_tell_87 : decode cX0_tell 87 = .ok (.ireturn, 1) := by decide +kernel
set_option maxRecDepth 20000 in
theorem ggX0_stayingInAll_X4_countTrue : GoodIn wsX0_stayingInAll wsX4_countTrue := goodIn_r _ [4] (by decide +kernel) (by decide +kernel)
set_option maxRecDepth 20000 in
theorem gX0_stayingInAll_X4_countTrue_n58 : GoodIn wsX0_stayingInAll (wsX4_countTrue) := ggX0_stayingInAll_X4_countTrue
theorem dX0_stayingInAll_0 : decode cX0_stayingInAll 0 = .ok (.aload_n 0, 1) := by decide +kernel
theorem dX0_stayingInAll_1 : decode cX0_stayingInAll 1 = .ok (.getfield 28, 3) := by decide +kernel
theorem dX0_stayingInAll_4 : decode cX0_stayingInAll 4 = .ok (.invokestatic 58, 3) := by decide +kernel
theorem dX0_stayingInAll_7 : decode cX0_stayingInAll 7 = .ok (.ireturn, 1) := by decide +kernel
set_option maxRecDepth 20000 in
theorem ggX0_jarsInAll_X4_countTrue : GoodIn wsX0_jarsInAll wsX4_countTrue := goodIn_r _ [4] (by decide +kernel) (by decide +kernel)
set_option maxRecDepth 20000 in
theorem gX0_jarsInAll_X4_countTrue_n58 : GoodIn wsX0_jarsInAll (wsX4_countTrue) := ggX0_jarsInAll_X4_countTrue
theorem dX0_jarsInAll_0 : decode cX0_jarsInAll 0 = .ok (.aload_n 0, 1) := by decide +kernel
theorem dX0_jarsInAll_1 : decode cX0_jarsInAll 1 = .ok (.getfield 24, 3) := by decide +kernel
theorem dX0_jarsInAll_4 : decode cX0_jarsInAll 4 = .ok (.invokestatic 58, 3) := by decide +kernel
theorem dX0_jarsInAll_7 : decode cX0_jarsInAll 7 = .ok (.ireturn, 1) := by decide +kernel
set_option maxRecDepth 20000 in
theorem ggX0_tookInAll_X4_sum : GoodIn wsX0_tookInAll wsX4_sum := goodIn_r _ [4] (by decide +kernel) (by decide +kernel)
set_option maxRecDepth 20000 in
theorem gX0_tookInAll_X4_sum_n62 : GoodIn wsX0_tookInAll (wsX4_sum) := ggX0_tookInAll_X4_sum
theorem dX0_tookInAll_0 : decode cX0_tookInAll 0 = .ok (.aload_n 0, 1) := by decide +kernel
theorem dX0_tookInAll_1 : decode cX0_tookInAll 1 = .ok (.getfield 18, 3) := by decide +kernel
theorem dX0_tookInAll_4 : decode cX0_tookInAll 4 = .ok (.invokestatic 62, 3) := by decide +kernel
theorem dX0_tookInAll_7 : decode cX0_tookInAll 7 = .ok (.ireturn, 1) := by decide +kernel
set_option maxRecDepth 20000 in
theorem ggX0_sawInAll_X4_sum : GoodIn wsX0_sawInAll wsX4_sum := goodIn_r _ [4] (by decide +kernel) (by decide +kernel)
set_option maxRecDepth 20000 in
theorem gX0_sawInAll_X4_sum_n62 : GoodIn wsX0_sawInAll (wsX4_sum) := ggX0_sawInAll_X4_sum
theorem dX0_sawInAll_0 : decode cX0_sawInAll 0 = .ok (.aload_n 0, 1) := by decide +kernel
theorem dX0_sawInAll_1 : decode cX0_sawInAll 1 = .ok (.getfield 21, 3) := by decide +kernel
theorem dX0_sawInAll_4 : decode cX0_sawInAll 4 = .ok (.invokestatic 62, 3) := by decide +kernel
theorem dX0_sawInAll_7 : decode cX0_sawInAll 7 = .ok (.ireturn, 1) := by decide +kernel
theorem dX0_stayingIn_0 : decode cX0_stayingIn 0 = .ok (.iconst 0, 1) := by decide +kernel
theorem dX0_stayingIn_1 : decode cX0_stayingIn 1 = .ok (.istore_n 2, 1) := by decide +kernel
theorem dX0_stayingIn_2 : decode cX0_stayingIn 2 = .ok (.iconst 0, 1) := by decide +kernel
theorem dX0_stayingIn_3 : decode cX0_stayingIn 3 = .ok (.istore_n 3, 1) := by decide +kernel
theorem dX0_stayingIn_4 : decode cX0_stayingIn 4 = .ok (.iload_n 3, 1) := by decide +kernel
theorem dX0_stayingIn_5 : decode cX0_stayingIn 5 = .ok (.bipush 12, 2) := by decide +kernel
theorem dX0_stayingIn_7 : decode cX0_stayingIn 7 = .ok (.if_icmp .ge 31, 3) := by decide +kernel
theorem dX0_stayingIn_10 : decode cX0_stayingIn 10 = .ok (.aload_n 0, 1) := by decide +kernel
theorem dX0_stayingIn_11 : decode cX0_stayingIn 11 = .ok (.getfield 28, 3) := by decide +kernel
theorem dX0_stayingIn_14 : decode cX0_stayingIn 14 = .ok (.iload_n 3, 1) := by decide +kernel
theorem dX0_stayingIn_15 : decode cX0_stayingIn 15 = .ok (.baload, 1) := by decide +kernel
theorem dX0_stayingIn_16 : decode cX0_stayingIn 16 = .ok (.ifCond .eq 16, 3) := by decide +kernel
theorem dX0_stayingIn_19 : decode cX0_stayingIn 19 = .ok (.aload_n 0, 1) := by decide +kernel
theorem dX0_stayingIn_20 : decode cX0_stayingIn 20 = .ok (.getfield 9, 3) := by decide +kernel
theorem dX0_stayingIn_23 : decode cX0_stayingIn 23 = .ok (.iload_n 3, 1) := by decide +kernel
theorem dX0_stayingIn_24 : decode cX0_stayingIn 24 = .ok (.iaload, 1) := by decide +kernel
theorem dX0_stayingIn_25 : decode cX0_stayingIn 25 = .ok (.iload_n 1, 1) := by decide +kernel
theorem dX0_stayingIn_26 : decode cX0_stayingIn 26 = .ok (.if_icmp .ne 6, 3) := by decide +kernel
theorem dX0_stayingIn_29 : decode cX0_stayingIn 29 = .ok (.iinc 2 1, 3) := by decide +kernel
theorem dX0_stayingIn_32 : decode cX0_stayingIn 32 = .ok (.iinc 3 1, 3) := by decide +kernel
theorem dX0_stayingIn_35 : decode cX0_stayingIn 35 = .ok (.goto (-31), 3) := by decide +kernel
theorem dX0_stayingIn_38 : decode cX0_stayingIn 38 = .ok (.iload_n 2, 1) := by decide +kernel
theorem dX0_stayingIn_39 : decode cX0_stayingIn 39 = .ok (.ireturn, 1) := by decide +kernel
theorem dX0_whispersIn_0 : decode cX0_whispersIn 0 = .ok (.iconst 0, 1) := by decide +kernel
theorem dX0_whispersIn_1 : decode cX0_whispersIn 1 = .ok (.istore_n 2, 1) := by decide +kernel
theorem dX0_whispersIn_2 : decode cX0_whispersIn 2 = .ok (.iconst 0, 1) := by decide +kernel
theorem dX0_whispersIn_3 : decode cX0_whispersIn 3 = .ok (.istore_n 3, 1) := by decide +kernel
theorem dX0_whispersIn_4 : decode cX0_whispersIn 4 = .ok (.iload_n 3, 1) := by decide +kernel
theorem dX0_whispersIn_5 : decode cX0_whispersIn 5 = .ok (.bipush 12, 2) := by decide +kernel
theorem dX0_whispersIn_7 : decode cX0_whispersIn 7 = .ok (.if_icmp .ge 37, 3) := by decide +kernel
theorem dX0_whispersIn_10 : decode cX0_whispersIn 10 = .ok (.aload_n 0, 1) := by decide +kernel
theorem dX0_whispersIn_11 : decode cX0_whispersIn 11 = .ok (.getfield 28, 3) := by decide +kernel
theorem dX0_whispersIn_14 : decode cX0_whispersIn 14 = .ok (.iload_n 3, 1) := by decide +kernel
theorem dX0_whispersIn_15 : decode cX0_whispersIn 15 = .ok (.baload, 1) := by decide +kernel
theorem dX0_whispersIn_16 : decode cX0_whispersIn 16 = .ok (.ifCond .eq 22, 3) := by decide +kernel
theorem dX0_whispersIn_19 : decode cX0_whispersIn 19 = .ok (.aload_n 0, 1) := by decide +kernel
theorem dX0_whispersIn_20 : decode cX0_whispersIn 20 = .ok (.getfield 9, 3) := by decide +kernel
theorem dX0_whispersIn_23 : decode cX0_whispersIn 23 = .ok (.iload_n 3, 1) := by decide +kernel
theorem dX0_whispersIn_24 : decode cX0_whispersIn 24 = .ok (.iaload, 1) := by decide +kernel
theorem dX0_whispersIn_25 : decode cX0_whispersIn 25 = .ok (.iload_n 1, 1) := by decide +kernel
theorem dX0_whispersIn_26 : decode cX0_whispersIn 26 = .ok (.if_icmp .ne 12, 3) := by decide +kernel
theorem dX0_whispersIn_29 : decode cX0_whispersIn 29 = .ok (.iload_n 2, 1) := by decide +kernel
theorem dX0_whispersIn_30 : decode cX0_whispersIn 30 = .ok (.aload_n 0, 1) := by decide +kernel
theorem dX0_whispersIn_31 : decode cX0_whispersIn 31 = .ok (.getfield 15, 3) := by decide +kernel
theorem dX0_whispersIn_34 : decode cX0_whispersIn 34 = .ok (.iload_n 3, 1) := by decide +kernel
theorem dX0_whispersIn_35 : decode cX0_whispersIn 35 = .ok (.iaload, 1) := by decide +kernel
theorem dX0_whispersIn_36 : decode cX0_whispersIn 36 = .ok (.iadd, 1) := by decide +kernel
theorem dX0_whispersIn_37 : decode cX0_whispersIn 37 = .ok (.istore_n 2, 1) := by decide +kernel
theorem dX0_whispersIn_38 : decode cX0_whispersIn 38 = .ok (.iinc 3 1, 3) := by decide +kernel
theorem dX0_whispersIn_41 : decode cX0_whispersIn 41 = .ok (.goto (-37), 3) := by decide +kernel
theorem dX0_whispersIn_44 : decode cX0_whispersIn 44 = .ok (.iload_n 2, 1) := by decide +kernel
theorem dX0_whispersIn_45 : decode cX0_whispersIn 45 = .ok (.ireturn, 1) := by decide +kernel
theorem dX0_jarsIn_0 : decode cX0_jarsIn 0 = .ok (.iconst 0, 1) := by decide +kernel
theorem dX0_jarsIn_1 : decode cX0_jarsIn 1 = .ok (.istore_n 2, 1) := by decide +kernel
theorem dX0_jarsIn_2 : decode cX0_jarsIn 2 = .ok (.iconst 0, 1) := by decide +kernel
theorem dX0_jarsIn_3 : decode cX0_jarsIn 3 = .ok (.istore_n 3, 1) := by decide +kernel
theorem dX0_jarsIn_4 : decode cX0_jarsIn 4 = .ok (.iload_n 3, 1) := by decide +kernel
theorem dX0_jarsIn_5 : decode cX0_jarsIn 5 = .ok (.bipush 12, 2) := by decide +kernel
theorem dX0_jarsIn_7 : decode cX0_jarsIn 7 = .ok (.if_icmp .ge 31, 3) := by decide +kernel
theorem dX0_jarsIn_10 : decode cX0_jarsIn 10 = .ok (.aload_n 0, 1) := by decide +kernel
theorem dX0_jarsIn_11 : decode cX0_jarsIn 11 = .ok (.getfield 24, 3) := by decide +kernel
theorem dX0_jarsIn_14 : decode cX0_jarsIn 14 = .ok (.iload_n 3, 1) := by decide +kernel
theorem dX0_jarsIn_15 : decode cX0_jarsIn 15 = .ok (.baload, 1) := by decide +kernel
theorem dX0_jarsIn_16 : decode cX0_jarsIn 16 = .ok (.ifCond .eq 16, 3) := by decide +kernel
theorem dX0_jarsIn_19 : decode cX0_jarsIn 19 = .ok (.aload_n 0, 1) := by decide +kernel
theorem dX0_jarsIn_20 : decode cX0_jarsIn 20 = .ok (.getfield 9, 3) := by decide +kernel
theorem dX0_jarsIn_23 : decode cX0_jarsIn 23 = .ok (.iload_n 3, 1) := by decide +kernel
theorem dX0_jarsIn_24 : decode cX0_jarsIn 24 = .ok (.iaload, 1) := by decide +kernel
theorem dX0_jarsIn_25 : decode cX0_jarsIn 25 = .ok (.iload_n 1, 1) := by decide +kernel
theorem dX0_jarsIn_26 : decode cX0_jarsIn 26 = .ok (.if_icmp .ne 6, 3) := by decide +kernel
theorem dX0_jarsIn_29 : decode cX0_jarsIn 29 = .ok (.iinc 2 1, 3) := by decide +kernel
theorem dX0_jarsIn_32 : decode cX0_jarsIn 32 = .ok (.iinc 3 1, 3) := by decide +kernel
theorem dX0_jarsIn_35 : decode cX0_jarsIn 35 = .ok (.goto (-31), 3) := by decide +kernel
theorem dX0_jarsIn_38 : decode cX0_jarsIn 38 = .ok (.iload_n 2, 1) := by decide +kernel
theorem dX0_jarsIn_39 : decode cX0_jarsIn 39 = .ok (.ireturn, 1) := by decide +kernel
theorem dX0_dropJarsIn_0 : decode cX0_dropJarsIn 0 = .ok (.iconst 0, 1) := by decide +kernel
theorem dX0_dropJarsIn_1 : decode cX0_dropJarsIn 1 = .ok (.istore_n 2, 1) := by decide +kernel
theorem dX0_dropJarsIn_2 : decode cX0_dropJarsIn 2 = .ok (.iload_n 2, 1) := by decide +kernel
theorem dX0_dropJarsIn_3 : decode cX0_dropJarsIn 3 = .ok (.bipush 12, 2) := by decide +kernel
theorem dX0_dropJarsIn_5 : decode cX0_dropJarsIn 5 = .ok (.if_icmp .ge 26, 3) := by decide +kernel
theorem dX0_dropJarsIn_8 : decode cX0_dropJarsIn 8 = .ok (.aload_n 0, 1) := by decide +kernel
theorem dX0_dropJarsIn_9 : decode cX0_dropJarsIn 9 = .ok (.getfield 9, 3) := by decide +kernel
theorem dX0_dropJarsIn_12 : decode cX0_dropJarsIn 12 = .ok (.iload_n 2, 1) := by decide +kernel
theorem dX0_dropJarsIn_13 : decode cX0_dropJarsIn 13 = .ok (.iaload, 1) := by decide +kernel
theorem dX0_dropJarsIn_14 : decode cX0_dropJarsIn 14 = .ok (.iload_n 1, 1) := by decide +kernel
theorem dX0_dropJarsIn_15 : decode cX0_dropJarsIn 15 = .ok (.if_icmp .ne 10, 3) := by decide +kernel
theorem dX0_dropJarsIn_18 : decode cX0_dropJarsIn 18 = .ok (.aload_n 0, 1) := by decide +kernel
theorem dX0_dropJarsIn_19 : decode cX0_dropJarsIn 19 = .ok (.getfield 24, 3) := by decide +kernel
theorem dX0_dropJarsIn_22 : decode cX0_dropJarsIn 22 = .ok (.iload_n 2, 1) := by decide +kernel
theorem dX0_dropJarsIn_23 : decode cX0_dropJarsIn 23 = .ok (.iconst 0, 1) := by decide +kernel
theorem dX0_dropJarsIn_24 : decode cX0_dropJarsIn 24 = .ok (.bastore, 1) := by decide +kernel
theorem dX0_dropJarsIn_25 : decode cX0_dropJarsIn 25 = .ok (.iinc 2 1, 3) := by decide +kernel
theorem dX0_dropJarsIn_28 : decode cX0_dropJarsIn 28 = .ok (.goto (-26), 3) := by decide +kernel
theorem dX0_dropJarsIn_31 : decode cX0_dropJarsIn 31 = .ok (.return_, 1) := by decide +kernel
theorem dX0_copyFrom_0 : decode cX0_copyFrom 0 = .ok (.iconst 0, 1) := by decide +kernel
theorem dX0_copyFrom_1 : decode cX0_copyFrom 1 = .ok (.istore_n 2, 1) := by decide +kernel
theorem dX0_copyFrom_2 : decode cX0_copyFrom 2 = .ok (.iload_n 2, 1) := by decide +kernel
theorem dX0_copyFrom_3 : decode cX0_copyFrom 3 = .ok (.bipush 12, 2) := by decide +kernel
theorem dX0_copyFrom_5 : decode cX0_copyFrom 5 = .ok (.if_icmp .ge 81, 3) := by decide +kernel
theorem dX0_copyFrom_8 : decode cX0_copyFrom 8 = .ok (.aload_n 0, 1) := by decide +kernel
theorem dX0_copyFrom_9 : decode cX0_copyFrom 9 = .ok (.getfield 9, 3) := by decide +kernel
theorem dX0_copyFrom_12 : decode cX0_copyFrom 12 = .ok (.iload_n 2, 1) := by decide +kernel
theorem dX0_copyFrom_13 : decode cX0_copyFrom 13 = .ok (.aload_n 1, 1) := by decide +kernel
theorem dX0_copyFrom_14 : decode cX0_copyFrom 14 = .ok (.getfield 9, 3) := by decide +kernel
theorem dX0_copyFrom_17 : decode cX0_copyFrom 17 = .ok (.iload_n 2, 1) := by decide +kernel
theorem dX0_copyFrom_18 : decode cX0_copyFrom 18 = .ok (.iaload, 1) := by decide +kernel
theorem dX0_copyFrom_19 : decode cX0_copyFrom 19 = .ok (.iastore, 1) := by decide +kernel
theorem dX0_copyFrom_20 : decode cX0_copyFrom 20 = .ok (.aload_n 0, 1) := by decide +kernel
theorem dX0_copyFrom_21 : decode cX0_copyFrom 21 = .ok (.getfield 15, 3) := by decide +kernel
theorem dX0_copyFrom_24 : decode cX0_copyFrom 24 = .ok (.iload_n 2, 1) := by decide +kernel
theorem dX0_copyFrom_25 : decode cX0_copyFrom 25 = .ok (.aload_n 1, 1) := by decide +kernel
theorem dX0_copyFrom_26 : decode cX0_copyFrom 26 = .ok (.getfield 15, 3) := by decide +kernel
theorem dX0_copyFrom_29 : decode cX0_copyFrom 29 = .ok (.iload_n 2, 1) := by decide +kernel
theorem dX0_copyFrom_30 : decode cX0_copyFrom 30 = .ok (.iaload, 1) := by decide +kernel
theorem dX0_copyFrom_31 : decode cX0_copyFrom 31 = .ok (.iastore, 1) := by decide +kernel
theorem dX0_copyFrom_32 : decode cX0_copyFrom 32 = .ok (.aload_n 0, 1) := by decide +kernel
theorem dX0_copyFrom_33 : decode cX0_copyFrom 33 = .ok (.getfield 18, 3) := by decide +kernel
theorem dX0_copyFrom_36 : decode cX0_copyFrom 36 = .ok (.iload_n 2, 1) := by decide +kernel
theorem dX0_copyFrom_37 : decode cX0_copyFrom 37 = .ok (.aload_n 1, 1) := by decide +kernel
theorem dX0_copyFrom_38 : decode cX0_copyFrom 38 = .ok (.getfield 18, 3) := by decide +kernel
theorem dX0_copyFrom_41 : decode cX0_copyFrom 41 = .ok (.iload_n 2, 1) := by decide +kernel
theorem dX0_copyFrom_42 : decode cX0_copyFrom 42 = .ok (.iaload, 1) := by decide +kernel
theorem dX0_copyFrom_43 : decode cX0_copyFrom 43 = .ok (.iastore, 1) := by decide +kernel
theorem dX0_copyFrom_44 : decode cX0_copyFrom 44 = .ok (.aload_n 0, 1) := by decide +kernel
theorem dX0_copyFrom_45 : decode cX0_copyFrom 45 = .ok (.getfield 21, 3) := by decide +kernel
theorem dX0_copyFrom_48 : decode cX0_copyFrom 48 = .ok (.iload_n 2, 1) := by decide +kernel
theorem dX0_copyFrom_49 : decode cX0_copyFrom 49 = .ok (.aload_n 1, 1) := by decide +kernel
theorem dX0_copyFrom_50 : decode cX0_copyFrom 50 = .ok (.getfield 21, 3) := by decide +kernel
theorem dX0_copyFrom_53 : decode cX0_copyFrom 53 = .ok (.iload_n 2, 1) := by decide +kernel
theorem dX0_copyFrom_54 : decode cX0_copyFrom 54 = .ok (.iaload, 1) := by decide +kernel
theorem dX0_copyFrom_55 : decode cX0_copyFrom 55 = .ok (.iastore, 1) := by decide +kernel
theorem dX0_copyFrom_56 : decode cX0_copyFrom 56 = .ok (.aload_n 0, 1) := by decide +kernel
theorem dX0_copyFrom_57 : decode cX0_copyFrom 57 = .ok (.getfield 24, 3) := by decide +kernel
theorem dX0_copyFrom_60 : decode cX0_copyFrom 60 = .ok (.iload_n 2, 1) := by decide +kernel
theorem dX0_copyFrom_61 : decode cX0_copyFrom 61 = .ok (.aload_n 1, 1) := by decide +kernel
theorem dX0_copyFrom_62 : decode cX0_copyFrom 62 = .ok (.getfield 24, 3) := by decide +kernel
theorem dX0_copyFrom_65 : decode cX0_copyFrom 65 = .ok (.iload_n 2, 1) := by decide +kernel
theorem dX0_copyFrom_66 : decode cX0_copyFrom 66 = .ok (.baload, 1) := by decide +kernel
theorem dX0_copyFrom_67 : decode cX0_copyFrom 67 = .ok (.bastore, 1) := by decide +kernel
theorem dX0_copyFrom_68 : decode cX0_copyFrom 68 = .ok (.aload_n 0, 1) := by decide +kernel
theorem dX0_copyFrom_69 : decode cX0_copyFrom 69 = .ok (.getfield 28, 3) := by decide +kernel
theorem dX0_copyFrom_72 : decode cX0_copyFrom 72 = .ok (.iload_n 2, 1) := by decide +kernel
theorem dX0_copyFrom_73 : decode cX0_copyFrom 73 = .ok (.aload_n 1, 1) := by decide +kernel
theorem dX0_copyFrom_74 : decode cX0_copyFrom 74 = .ok (.getfield 28, 3) := by decide +kernel
theorem dX0_copyFrom_77 : decode cX0_copyFrom 77 = .ok (.iload_n 2, 1) := by decide +kernel
theorem dX0_copyFrom_78 : decode cX0_copyFrom 78 = .ok (.baload, 1) := by decide +kernel
theorem dX0_copyFrom_79 : decode cX0_copyFrom 79 = .ok (.bastore, 1) := by decide +kernel
theorem dX0_copyFrom_80 : decode cX0_copyFrom 80 = .ok (.iinc 2 1, 3) := by decide +kernel
theorem dX0_copyFrom_83 : decode cX0_copyFrom 83 = .ok (.goto (-81), 3) := by decide +kernel
theorem dX0_copyFrom_86 : decode cX0_copyFrom 86 = .ok (.aload_n 0, 1) := by decide +kernel
theorem dX0_copyFrom_87 : decode cX0_copyFrom 87 = .ok (.aload_n 1, 1) := by decide +kernel
theorem dX0_copyFrom_88 : decode cX0_copyFrom 88 = .ok (.getfield 31, 3) := by decide +kernel
theorem dX0_copyFrom_91 : decode cX0_copyFrom 91 = .ok (.putfield 31, 3) := by decide +kernel
theorem dX0_copyFrom_94 : decode cX0_copyFrom 94 = .ok (.return_, 1) := by decide +kernel
theorem dX1_init_0 : decode cX1_init 0 = .ok (.aload_n 0, 1) := by decide +kernel
theorem dX1_init_1 : decode cX1_init 1 = .ok (.invokespecial 3, 3) := by decide +kernel
theorem dX1_init_4 : decode cX1_init 4 = .ok (.aload_n 0, 1) := by decide +kernel
theorem dX1_init_5 : decode cX1_init 5 = .ok (.bipush 50, 2) := by decide +kernel
theorem dX1_init_7 : decode cX1_init 7 = .ok (.newarray .int, 2) := by decide +kernel
theorem dX1_init_9 : decode cX1_init 9 = .ok (.putfield 9, 3) := by decide +kernel
theorem dX1_init_12 : decode cX1_init 12 = .ok (.return_, 1) := by decide +kernel
theorem dX1_isInside_0 : decode cX1_isInside 0 = .ok (.iload_n 0, 1) := by decide +kernel
theorem dX1_isInside_1 : decode cX1_isInside 1 = .ok (.ifCond .lt 22, 3) := by decide +kernel
theorem dX1_isInside_4 : decode cX1_isInside 4 = .ok (.iload_n 0, 1) := by decide +kernel
theorem dX1_isInside_5 : decode cX1_isInside 5 = .ok (.bipush 10, 2) := by decide +kernel
theorem dX1_isInside_7 : decode cX1_isInside 7 = .ok (.if_icmp .ge 16, 3) := by decide +kernel
theorem dX1_isInside_10 : decode cX1_isInside 10 = .ok (.iload_n 1, 1) := by decide +kernel
theorem dX1_isInside_11 : decode cX1_isInside 11 = .ok (.ifCond .lt 12, 3) := by decide +kernel
theorem dX1_isInside_14 : decode cX1_isInside 14 = .ok (.iload_n 1, 1) := by decide +kernel
theorem dX1_isInside_15 : decode cX1_isInside 15 = .ok (.iconst 5, 1) := by decide +kernel
theorem dX1_isInside_16 : decode cX1_isInside 16 = .ok (.if_icmp .ge 7, 3) := by decide +kernel
theorem dX1_isInside_19 : decode cX1_isInside 19 = .ok (.iconst 1, 1) := by decide +kernel
theorem dX1_isInside_20 : decode cX1_isInside 20 = .ok (.goto 4, 3) := by decide +kernel
theorem dX1_isInside_23 : decode cX1_isInside 23 = .ok (.iconst 0, 1) := by decide +kernel
theorem dX1_isInside_24 : decode cX1_isInside 24 = .ok (.ireturn, 1) := by decide +kernel
set_option maxRecDepth 20000 in
theorem ggX1_at_X1_isInside : GoodIn wsX1_at wsX1_isInside := goodIn_r _ [5] (by decide +kernel) (by decide +kernel)
set_option maxRecDepth 20000 in
theorem gX1_at_X1_isInside : GoodIn wsX1_at (va_wsS RX1 15 yX1_isInside wsX1_isInside) := goodIn_app (goodIn_of _ (by decide +kernel)) ggX1_at_X1_isInside
theorem dX1_at_0 : decode cX1_at 0 = .ok (.iload_n 1, 1) := by decide +kernel
theorem dX1_at_1 : decode cX1_at 1 = .ok (.iload_n 2, 1) := by decide +kernel
theorem dX1_at_2 : decode cX1_at 2 = .ok (.invokestatic 15, 3) := by decide +kernel
theorem dX1_at_5 : decode cX1_at 5 = .ok (.ifCond .eq 17, 3) := by decide +kernel
theorem dX1_at_8 : decode cX1_at 8 = .ok (.aload_n 0, 1) := by decide +kernel
theorem dX1_at_9 : decode cX1_at 9 = .ok (.getfield 9, 3) := by decide +kernel
theorem dX1_at_12 : decode cX1_at 12 = .ok (.bipush 10, 2) := by decide +kernel
theorem dX1_at_14 : decode cX1_at 14 = .ok (.iload_n 2, 1) := by decide +kernel
theorem dX1_at_15 : decode cX1_at 15 = .ok (.imul, 1) := by decide +kernel
theorem dX1_at_16 : decode cX1_at 16 = .ok (.iload_n 1, 1) := by decide +kernel
theorem dX1_at_17 : decode cX1_at 17 = .ok (.iadd, 1) := by decide +kernel
theorem dX1_at_18 : decode cX1_at 18 = .ok (.iaload, 1) := by decide +kernel
theorem dX1_at_19 : decode cX1_at 19 = .ok (.goto 4, 3) := by decide +kernel
theorem dX1_at_22 : decode cX1_at 22 = .ok (.iconst 0, 1) := by decide +kernel
theorem dX1_at_23 : decode cX1_at 23 = .ok (.ireturn, 1) := by decide +kernel
set_option maxRecDepth 20000 in
theorem ggX1_put_X1_isInside : GoodIn wsX1_put wsX1_isInside := goodIn_r _ [9] (by decide +kernel) (by decide +kernel)
set_option maxRecDepth 20000 in
theorem gX1_put_X1_isInside : GoodIn wsX1_put (va_wsS RX1 15 yX1_isInside wsX1_isInside) := goodIn_app (goodIn_of _ (by decide +kernel)) ggX1_put_X1_isInside
theorem dX1_put_0 : decode cX1_put 0 = .ok (.iload_n 1, 1) := by decide +kernel
theorem dX1_put_1 : decode cX1_put 1 = .ok (.iload_n 2, 1) := by decide +kernel
theorem dX1_put_2 : decode cX1_put 2 = .ok (.invokestatic 15, 3) := by decide +kernel
theorem dX1_put_5 : decode cX1_put 5 = .ok (.ifCond .eq 20, 3) := by decide +kernel
theorem dX1_put_8 : decode cX1_put 8 = .ok (.aload_n 0, 1) := by decide +kernel
theorem dX1_put_9 : decode cX1_put 9 = .ok (.getfield 9, 3) := by decide +kernel
theorem dX1_put_12 : decode cX1_put 12 = .ok (.bipush 10, 2) := by decide +kernel
theorem dX1_put_14 : decode cX1_put 14 = .ok (.iload_n 2, 1) := by decide +kernel
theorem dX1_put_15 : decode cX1_put 15 = .ok (.imul, 1) := by decide +kernel
theorem dX1_put_16 : decode cX1_put 16 = .ok (.iload_n 1, 1) := by decide +kernel
theorem dX1_put_17 : decode cX1_put 17 = .ok (.iadd, 1) := by decide +kernel
theorem dX1_put_18 : decode cX1_put 18 = .ok (.iload_n 3, 1) := by decide +kernel
theorem dX1_put_19 : decode cX1_put 19 = .ok (.bipush 40, 2) := by decide +kernel
theorem dX1_put_21 : decode cX1_put 21 = .ok (.invokestatic 19, 3) := by decide +kernel
theorem dX1_put_24 : decode cX1_put 24 = .ok (.iastore, 1) := by decide +kernel
theorem dX1_put_25 : decode cX1_put 25 = .ok (.return_, 1) := by decide +kernel
theorem dX1_copyFrom_0 : decode cX1_copyFrom 0 = .ok (.aload_n 1, 1) := by decide +kernel
theorem dX1_copyFrom_1 : decode cX1_copyFrom 1 = .ok (.getfield 9, 3) := by decide +kernel
theorem dX1_copyFrom_4 : decode cX1_copyFrom 4 = .ok (.iconst 0, 1) := by decide +kernel
theorem dX1_copyFrom_5 : decode cX1_copyFrom 5 = .ok (.aload_n 0, 1) := by decide +kernel
theorem dX1_copyFrom_6 : decode cX1_copyFrom 6 = .ok (.getfield 9, 3) := by decide +kernel
theorem dX1_copyFrom_9 : decode cX1_copyFrom 9 = .ok (.iconst 0, 1) := by decide +kernel
theorem dX1_copyFrom_10 : decode cX1_copyFrom 10 = .ok (.bipush 50, 2) := by decide +kernel
theorem dX1_copyFrom_12 : decode cX1_copyFrom 12 = .ok (.invokestatic 25, 3) := by decide +kernel
theorem dX1_copyFrom_15 : decode cX1_copyFrom 15 = .ok (.return_, 1) := by decide +kernel
set_option maxRecDepth 20000 in
theorem ggX1_all_X4_sum : GoodIn wsX1_all wsX4_sum := goodIn_r _ [4] (by decide +kernel) (by decide +kernel)
set_option maxRecDepth 20000 in
theorem gX1_all_X4_sum_n31 : GoodIn wsX1_all (wsX4_sum) := ggX1_all_X4_sum
theorem dX1_all_0 : decode cX1_all 0 = .ok (.aload_n 0, 1) := by decide +kernel
theorem dX1_all_1 : decode cX1_all 1 = .ok (.getfield 9, 3) := by decide +kernel
theorem dX1_all_4 : decode cX1_all 4 = .ok (.invokestatic 31, 3) := by decide +kernel
theorem dX1_all_7 : decode cX1_all 7 = .ok (.ireturn, 1) := by decide +kernel
set_option maxRecDepth 20000 in
theorem ggX1_inColumn_X1_at : GoodIn wsX1_inColumn wsX1_at := goodIn_r _ [5, 6, 7, 8, 4, 9, 10] (by decide +kernel) (by decide +kernel)
set_option maxRecDepth 20000 in
theorem gX1_inColumn_X1_at : GoodIn wsX1_inColumn (wsV RX1 35 RX1 yX1_at wsX1_at) := goodIn_app (goodIn_of _ (by decide +kernel)) ggX1_inColumn_X1_at
theorem dX1_inColumn_0 : decode cX1_inColumn 0 = .ok (.iconst 0, 1) := by decide +kernel
theorem dX1_inColumn_1 : decode cX1_inColumn 1 = .ok (.istore_n 2, 1) := by decide +kernel
theorem dX1_inColumn_2 : decode cX1_inColumn 2 = .ok (.iconst 0, 1) := by decide +kernel
theorem dX1_inColumn_3 : decode cX1_inColumn 3 = .ok (.istore_n 3, 1) := by decide +kernel
theorem dX1_inColumn_4 : decode cX1_inColumn 4 = .ok (.iload_n 3, 1) := by decide +kernel
theorem dX1_inColumn_5 : decode cX1_inColumn 5 = .ok (.iconst 5, 1) := by decide +kernel
theorem dX1_inColumn_6 : decode cX1_inColumn 6 = .ok (.if_icmp .ge 18, 3) := by decide +kernel
theorem dX1_inColumn_9 : decode cX1_inColumn 9 = .ok (.iload_n 2, 1) := by decide +kernel
theorem dX1_inColumn_10 : decode cX1_inColumn 10 = .ok (.aload_n 0, 1) := by decide +kernel
theorem dX1_inColumn_11 : decode cX1_inColumn 11 = .ok (.iload_n 1, 1) := by decide +kernel
theorem dX1_inColumn_12 : decode cX1_inColumn 12 = .ok (.iload_n 3, 1) := by decide +kernel
theorem dX1_inColumn_13 : decode cX1_inColumn 13 = .ok (.invokevirtual 35, 3) := by decide +kernel
theorem dX1_inColumn_16 : decode cX1_inColumn 16 = .ok (.iadd, 1) := by decide +kernel
theorem dX1_inColumn_17 : decode cX1_inColumn 17 = .ok (.istore_n 2, 1) := by decide +kernel
theorem dX1_inColumn_18 : decode cX1_inColumn 18 = .ok (.iinc 3 1, 3) := by decide +kernel
theorem dX1_inColumn_21 : decode cX1_inColumn 21 = .ok (.goto (-17), 3) := by decide +kernel
theorem dX1_inColumn_24 : decode cX1_inColumn 24 = .ok (.iload_n 2, 1) := by decide +kernel
theorem dX1_inColumn_25 : decode cX1_inColumn 25 = .ok (.ireturn, 1) := by decide +kernel
set_option maxRecDepth 20000 in
theorem ggX1_seenFrom_X1_inColumn : GoodIn wsX1_seenFrom wsX1_inColumn := goodIn_r _ [5, 6, 7, 8, 4, 9, 10, 11, 12, 13, 14] (by decide +kernel) (by decide +kernel)
set_option maxRecDepth 20000 in
theorem gX1_seenFrom_X1_inColumn : GoodIn wsX1_seenFrom (wsV RX1 38 RX1 yX1_inColumn wsX1_inColumn) := goodIn_app (goodIn_of _ (by decide +kernel)) ggX1_seenFrom_X1_inColumn
theorem dX1_seenFrom_0 : decode cX1_seenFrom 0 = .ok (.aload_n 0, 1) := by decide +kernel
theorem dX1_seenFrom_1 : decode cX1_seenFrom 1 = .ok (.iload_n 1, 1) := by decide +kernel
theorem dX1_seenFrom_2 : decode cX1_seenFrom 2 = .ok (.iconst 1, 1) := by decide +kernel
theorem dX1_seenFrom_3 : decode cX1_seenFrom 3 = .ok (.isub, 1) := by decide +kernel
theorem dX1_seenFrom_4 : decode cX1_seenFrom 4 = .ok (.invokevirtual 38, 3) := by decide +kernel
theorem dX1_seenFrom_7 : decode cX1_seenFrom 7 = .ok (.aload_n 0, 1) := by decide +kernel
theorem dX1_seenFrom_8 : decode cX1_seenFrom 8 = .ok (.iload_n 1, 1) := by decide +kernel
theorem dX1_seenFrom_9 : decode cX1_seenFrom 9 = .ok (.invokevirtual 38, 3) := by decide +kernel
theorem dX1_seenFrom_12 : decode cX1_seenFrom 12 = .ok (.iadd, 1) := by decide +kernel
theorem dX1_seenFrom_13 : decode cX1_seenFrom 13 = .ok (.aload_n 0, 1) := by decide +kernel
theorem dX1_seenFrom_14 : decode cX1_seenFrom 14 = .ok (.iload_n 1, 1) := by decide +kernel
theorem dX1_seenFrom_15 : decode cX1_seenFrom 15 = .ok (.iconst 1, 1) := by decide +kernel
theorem dX1_seenFrom_16 : decode cX1_seenFrom 16 = .ok (.iadd, 1) := by decide +kernel
theorem dX1_seenFrom_17 : decode cX1_seenFrom 17 = .ok (.invokevirtual 38, 3) := by decide +kernel
theorem dX1_seenFrom_20 : decode cX1_seenFrom 20 = .ok (.iadd, 1) := by decide +kernel
theorem dX1_seenFrom_21 : decode cX1_seenFrom 21 = .ok (.ireturn, 1) := by decide +kernel
set_option maxRecDepth 20000 in
theorem ggX1_driveAside_X1_at : GoodIn wsX1_driveAside wsX1_at := goodIn_r _ [5, 6, 7, 8, 4, 9, 18] (by decide +kernel) (by decide +kernel)
set_option maxRecDepth 20000 in
theorem gX1_driveAside_X1_at : GoodIn wsX1_driveAside (wsV RX1 35 RX1 yX1_at wsX1_at) := goodIn_app (goodIn_of _ (by decide +kernel)) ggX1_driveAside_X1_at
set_option maxRecDepth 20000 in
theorem ggX1_driveAside_X1_put : GoodIn wsX1_driveAside wsX1_put := goodIn_r _ [13, 6, 14, 15, 16, 17, 7, 8, 4, 9, 18] (by decide +kernel) (by decide +kernel)
set_option maxRecDepth 20000 in
theorem gX1_driveAside_X1_put : GoodIn wsX1_driveAside (wsV RX1 42 RX1 yX1_put wsX1_put) := goodIn_app (goodIn_of _ (by decide +kernel)) ggX1_driveAside_X1_put
theorem dX1_driveAside_0 : decode cX1_driveAside 0 = .ok (.iconst 0, 1) := by decide +kernel
theorem dX1_driveAside_1 : decode cX1_driveAside 1 = .ok (.istore_n 3, 1) := by decide +kernel
theorem dX1_driveAside_2 : decode cX1_driveAside 2 = .ok (.iload_n 3, 1) := by decide +kernel
theorem dX1_driveAside_3 : decode cX1_driveAside 3 = .ok (.iconst 5, 1) := by decide +kernel
theorem dX1_driveAside_4 : decode cX1_driveAside 4 = .ok (.if_icmp .ge 49, 3) := by decide +kernel
theorem dX1_driveAside_7 : decode cX1_driveAside 7 = .ok (.aload_n 0, 1) := by decide +kernel
theorem dX1_driveAside_8 : decode cX1_driveAside 8 = .ok (.iload_n 1, 1) := by decide +kernel
theorem dX1_driveAside_9 : decode cX1_driveAside 9 = .ok (.iload_n 3, 1) := by decide +kernel
theorem dX1_driveAside_10 : decode cX1_driveAside 10 = .ok (.invokevirtual 35, 3) := by decide +kernel
theorem dX1_driveAside_13 : decode cX1_driveAside 13 = .ok (.iconst 2, 1) := by decide +kernel
theorem dX1_driveAside_14 : decode cX1_driveAside 14 = .ok (.idiv, 1) := by decide +kernel
theorem dX1_driveAside_15 : decode cX1_driveAside 15 = .ok (.istore 4, 2) := by decide +kernel
theorem dX1_driveAside_17 : decode cX1_driveAside 17 = .ok (.aload_n 0, 1) := by decide +kernel
theorem dX1_driveAside_18 : decode cX1_driveAside 18 = .ok (.iload_n 1, 1) := by decide +kernel
theorem dX1_driveAside_19 : decode cX1_driveAside 19 = .ok (.iload_n 3, 1) := by decide +kernel
theorem dX1_driveAside_20 : decode cX1_driveAside 20 = .ok (.aload_n 0, 1) := by decide +kernel
theorem dX1_driveAside_21 : decode cX1_driveAside 21 = .ok (.iload_n 1, 1) := by decide +kernel
theorem dX1_driveAside_22 : decode cX1_driveAside 22 = .ok (.iload_n 3, 1) := by decide +kernel
theorem dX1_driveAside_23 : decode cX1_driveAside 23 = .ok (.invokevirtual 35, 3) := by decide +kernel
theorem dX1_driveAside_26 : decode cX1_driveAside 26 = .ok (.iload 4, 2) := by decide +kernel
theorem dX1_driveAside_28 : decode cX1_driveAside 28 = .ok (.isub, 1) := by decide +kernel
theorem dX1_driveAside_29 : decode cX1_driveAside 29 = .ok (.invokevirtual 42, 3) := by decide +kernel
theorem dX1_driveAside_32 : decode cX1_driveAside 32 = .ok (.aload_n 0, 1) := by decide +kernel
theorem dX1_driveAside_33 : decode cX1_driveAside 33 = .ok (.iload_n 2, 1) := by decide +kernel
theorem dX1_driveAside_34 : decode cX1_driveAside 34 = .ok (.iload_n 3, 1) := by decide +kernel
theorem dX1_driveAside_35 : decode cX1_driveAside 35 = .ok (.aload_n 0, 1) := by decide +kernel
theorem dX1_driveAside_36 : decode cX1_driveAside 36 = .ok (.iload_n 2, 1) := by decide +kernel
theorem dX1_driveAside_37 : decode cX1_driveAside 37 = .ok (.iload_n 3, 1) := by decide +kernel
theorem dX1_driveAside_38 : decode cX1_driveAside 38 = .ok (.invokevirtual 35, 3) := by decide +kernel
theorem dX1_driveAside_41 : decode cX1_driveAside 41 = .ok (.iload 4, 2) := by decide +kernel
theorem dX1_driveAside_43 : decode cX1_driveAside 43 = .ok (.iadd, 1) := by decide +kernel
theorem dX1_driveAside_44 : decode cX1_driveAside 44 = .ok (.invokevirtual 42, 3) := by decide +kernel
theorem dX1_driveAside_47 : decode cX1_driveAside 47 = .ok (.iinc 3 1, 3) := by decide +kernel
theorem dX1_driveAside_50 : decode cX1_driveAside 50 = .ok (.goto (-48), 3) := by decide +kernel
theorem dX1_driveAside_53 : decode cX1_driveAside 53 = .ok (.return_, 1) := by decide +kernel
set_option maxRecDepth 20000 in
theorem ggX1_driveDown_X1_at : GoodIn wsX1_driveDown wsX1_at := goodIn_r _ [9, 10, 11, 12, 8, 13, 18] (by decide +kernel) (by decide +kernel)
set_option maxRecDepth 20000 in
theorem gX1_driveDown_X1_at : GoodIn wsX1_driveDown (wsV RX1 35 RX1 yX1_at wsX1_at) := goodIn_app (goodIn_of _ (by decide +kernel)) ggX1_driveDown_X1_at
set_option maxRecDepth 20000 in
theorem ggX1_driveDown_X1_put : GoodIn wsX1_driveDown wsX1_put := goodIn_r _ [17, 10, 1, 2, 3, 4, 11, 12, 8, 13, 18] (by decide +kernel) (by decide +kernel)
set_option maxRecDepth 20000 in
theorem gX1_driveDown_X1_put : GoodIn wsX1_driveDown (wsV RX1 42 RX1 yX1_put wsX1_put) := goodIn_app (goodIn_of _ (by decide +kernel)) ggX1_driveDown_X1_put
theorem dX1_driveDown_0 : decode cX1_driveDown 0 = .ok (.iconst 3, 1) := by decide +kernel
theorem dX1_driveDown_1 : decode cX1_driveDown 1 = .ok (.istore_n 2, 1) := by decide +kernel
theorem dX1_driveDown_2 : decode cX1_driveDown 2 = .ok (.iload_n 2, 1) := by decide +kernel
theorem dX1_driveDown_3 : decode cX1_driveDown 3 = .ok (.ifCond .lt 62, 3) := by decide +kernel
theorem dX1_driveDown_6 : decode cX1_driveDown 6 = .ok (.aload_n 0, 1) := by decide +kernel
theorem dX1_driveDown_7 : decode cX1_driveDown 7 = .ok (.iload_n 1, 1) := by decide +kernel
theorem dX1_driveDown_8 : decode cX1_driveDown 8 = .ok (.iload_n 2, 1) := by decide +kernel
theorem dX1_driveDown_9 : decode cX1_driveDown 9 = .ok (.invokevirtual 35, 3) := by decide +kernel
theorem dX1_driveDown_12 : decode cX1_driveDown 12 = .ok (.bipush 40, 2) := by decide +kernel
theorem dX1_driveDown_14 : decode cX1_driveDown 14 = .ok (.aload_n 0, 1) := by decide +kernel
theorem dX1_driveDown_15 : decode cX1_driveDown 15 = .ok (.iload_n 1, 1) := by decide +kernel
theorem dX1_driveDown_16 : decode cX1_driveDown 16 = .ok (.iload_n 2, 1) := by decide +kernel
theorem dX1_driveDown_17 : decode cX1_driveDown 17 = .ok (.iconst 1, 1) := by decide +kernel
theorem dX1_driveDown_18 : decode cX1_driveDown 18 = .ok (.iadd, 1) := by decide +kernel
theorem dX1_driveDown_19 : decode cX1_driveDown 19 = .ok (.invokevirtual 35, 3) := by decide +kernel
theorem dX1_driveDown_22 : decode cX1_driveDown 22 = .ok (.isub, 1) := by decide +kernel
theorem dX1_driveDown_23 : decode cX1_driveDown 23 = .ok (.invokestatic 19, 3) := by decide +kernel
theorem dX1_driveDown_26 : decode cX1_driveDown 26 = .ok (.istore_n 3, 1) := by decide +kernel
theorem dX1_driveDown_27 : decode cX1_driveDown 27 = .ok (.aload_n 0, 1) := by decide +kernel
theorem dX1_driveDown_28 : decode cX1_driveDown 28 = .ok (.iload_n 1, 1) := by decide +kernel
theorem dX1_driveDown_29 : decode cX1_driveDown 29 = .ok (.iload_n 2, 1) := by decide +kernel
theorem dX1_driveDown_30 : decode cX1_driveDown 30 = .ok (.aload_n 0, 1) := by decide +kernel
theorem dX1_driveDown_31 : decode cX1_driveDown 31 = .ok (.iload_n 1, 1) := by decide +kernel
theorem dX1_driveDown_32 : decode cX1_driveDown 32 = .ok (.iload_n 2, 1) := by decide +kernel
theorem dX1_driveDown_33 : decode cX1_driveDown 33 = .ok (.invokevirtual 35, 3) := by decide +kernel
theorem dX1_driveDown_36 : decode cX1_driveDown 36 = .ok (.iload_n 3, 1) := by decide +kernel
theorem dX1_driveDown_37 : decode cX1_driveDown 37 = .ok (.isub, 1) := by decide +kernel
theorem dX1_driveDown_38 : decode cX1_driveDown 38 = .ok (.invokevirtual 42, 3) := by decide +kernel
theorem dX1_driveDown_41 : decode cX1_driveDown 41 = .ok (.aload_n 0, 1) := by decide +kernel
theorem dX1_driveDown_42 : decode cX1_driveDown 42 = .ok (.iload_n 1, 1) := by decide +kernel
theorem dX1_driveDown_43 : decode cX1_driveDown 43 = .ok (.iload_n 2, 1) := by decide +kernel
theorem dX1_driveDown_44 : decode cX1_driveDown 44 = .ok (.iconst 1, 1) := by decide +kernel
theorem dX1_driveDown_45 : decode cX1_driveDown 45 = .ok (.iadd, 1) := by decide +kernel
theorem dX1_driveDown_46 : decode cX1_driveDown 46 = .ok (.aload_n 0, 1) := by decide +kernel
theorem dX1_driveDown_47 : decode cX1_driveDown 47 = .ok (.iload_n 1, 1) := by decide +kernel
theorem dX1_driveDown_48 : decode cX1_driveDown 48 = .ok (.iload_n 2, 1) := by decide +kernel
theorem dX1_driveDown_49 : decode cX1_driveDown 49 = .ok (.iconst 1, 1) := by decide +kernel
theorem dX1_driveDown_50 : decode cX1_driveDown 50 = .ok (.iadd, 1) := by decide +kernel
theorem dX1_driveDown_51 : decode cX1_driveDown 51 = .ok (.invokevirtual 35, 3) := by decide +kernel
