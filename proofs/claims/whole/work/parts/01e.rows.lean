set_option maxRecDepth 20000 in
theorem ggX2_tellCount_X0_stayingInAll : GoodIn wsX2_tellCount wsX0_stayingInAll := goodIn_r _ [36, 37, 30, 17, 31, 66, 67, 68, 69, 70, 71, 72] (by decide +kernel) (by decide +kernel)
set_option maxRecDepth 20000 in
theorem gX2_tellCount_X0_stayingInAll : GoodIn wsX2_tellCount (wsV RX2 83 RX0 yX0_stayingInAll wsX0_stayingInAll) := goodIn_app (goodIn_of _ (by decide +kernel)) ggX2_tellCount_X0_stayingInAll
set_option maxRecDepth 20000 in
theorem ggX2_tellCount_X0_jarsInAll : GoodIn wsX2_tellCount wsX0_jarsInAll := goodIn_r _ [41, 42, 30, 17, 31, 66, 67, 68, 69, 70, 71, 72] (by decide +kernel) (by decide +kernel)
set_option maxRecDepth 20000 in
theorem gX2_tellCount_X0_jarsInAll : GoodIn wsX2_tellCount (wsV RX2 86 RX0 yX0_jarsInAll wsX0_jarsInAll) := goodIn_app (goodIn_of _ (by decide +kernel)) ggX2_tellCount_X0_jarsInAll
set_option maxRecDepth 20000 in
theorem ggX2_tellCount_X2_litColumns : GoodIn wsX2_tellCount wsX2_litColumns := goodIn_r _ [46, 3, 47, 48, 49, 22, 50, 29, 51, 52, 53, 54, 55, 56, 57, 58, 59, 60, 61, 63, 64, 65] (by decide +kernel) (by decide +kernel)
set_option maxRecDepth 20000 in
theorem gX2_tellCount_X2_litColumns : GoodIn wsX2_tellCount (wsV RX2 89 RX2 yX2_litColumns wsX2_litColumns) := goodIn_app (goodIn_of _ (by decide +kernel)) ggX2_tellCount_X2_litColumns
theorem dX2_tellCount_0 : decode cX2_tellCount 0 = .ok (.iload_n 1, 1) := by decide +kernel
theorem dX2_tellCount_1 : decode cX2_tellCount 1 = .ok (.tableswitch 105 0 7 #[47, 52, 60, 68, 76, 84, 92, 100], 47) := by decide +kernel
theorem dX2_tellCount_48 : decode cX2_tellCount 48 = .ok (.aload_n 0, 1) := by decide +kernel
theorem dX2_tellCount_49 : decode cX2_tellCount 49 = .ok (.getfield 46, 3) := by decide +kernel
theorem dX2_tellCount_52 : decode cX2_tellCount 52 = .ok (.ireturn, 1) := by decide +kernel
theorem dX2_tellCount_53 : decode cX2_tellCount 53 = .ok (.aload_n 0, 1) := by decide +kernel
theorem dX2_tellCount_54 : decode cX2_tellCount 54 = .ok (.getfield 46, 3) := by decide +kernel
theorem dX2_tellCount_57 : decode cX2_tellCount 57 = .ok (.invokestatic 70, 3) := by decide +kernel
theorem dX2_tellCount_60 : decode cX2_tellCount 60 = .ok (.ireturn, 1) := by decide +kernel
theorem dX2_tellCount_61 : decode cX2_tellCount 61 = .ok (.aload_n 0, 1) := by decide +kernel
theorem dX2_tellCount_62 : decode cX2_tellCount 62 = .ok (.getfield 12, 3) := by decide +kernel
theorem dX2_tellCount_65 : decode cX2_tellCount 65 = .ok (.invokevirtual 73, 3) := by decide +kernel
theorem dX2_tellCount_68 : decode cX2_tellCount 68 = .ok (.ireturn, 1) := by decide +kernel
theorem dX2_tellCount_69 : decode cX2_tellCount 69 = .ok (.aload_n 0, 1) := by decide +kernel
theorem dX2_tellCount_70 : decode cX2_tellCount 70 = .ok (.getfield 21, 3) := by decide +kernel
theorem dX2_tellCount_73 : decode cX2_tellCount 73 = .ok (.invokevirtual 77, 3) := by decide +kernel
theorem dX2_tellCount_76 : decode cX2_tellCount 76 = .ok (.ireturn, 1) := by decide +kernel
theorem dX2_tellCount_77 : decode cX2_tellCount 77 = .ok (.aload_n 0, 1) := by decide +kernel
theorem dX2_tellCount_78 : decode cX2_tellCount 78 = .ok (.getfield 21, 3) := by decide +kernel
theorem dX2_tellCount_81 : decode cX2_tellCount 81 = .ok (.invokevirtual 80, 3) := by decide +kernel
theorem dX2_tellCount_84 : decode cX2_tellCount 84 = .ok (.ireturn, 1) := by decide +kernel
theorem dX2_tellCount_85 : decode cX2_tellCount 85 = .ok (.aload_n 0, 1) := by decide +kernel
theorem dX2_tellCount_86 : decode cX2_tellCount 86 = .ok (.getfield 28, 3) := by decide +kernel
theorem dX2_tellCount_89 : decode cX2_tellCount 89 = .ok (.invokevirtual 83, 3) := by decide +kernel
theorem dX2_tellCount_92 : decode cX2_tellCount 92 = .ok (.ireturn, 1) := by decide +kernel
theorem dX2_tellCount_93 : decode cX2_tellCount 93 = .ok (.aload_n 0, 1) := by decide +kernel
theorem dX2_tellCount_94 : decode cX2_tellCount 94 = .ok (.getfield 28, 3) := by decide +kernel
theorem dX2_tellCount_97 : decode cX2_tellCount 97 = .ok (.invokevirtual 86, 3) := by decide +kernel
theorem dX2_tellCount_100 : decode cX2_tellCount 100 = .ok (.ireturn, 1) := by decide +kernel
theorem dX2_tellCount_101 : decode cX2_tellCount 101 = .ok (.aload_n 0, 1) := by decide +kernel
theorem dX2_tellCount_102 : decode cX2_tellCount 102 = .ok (.getfield 50, 3) := by decide +kernel
theorem dX2_tellCount_105 : decode cX2_tellCount 105 = .ok (.ireturn, 1) := by decide +kernel
theorem dX2_tellCount_106 : decode cX2_tellCount 106 = .ok (.aload_n 0, 1) := by decide +kernel
theorem dX2_tellCount_107 : decode cX2_tellCount 107 = .ok (.invokevirtual 89, 3) := by decide +kernel
theorem dX2_tellCount_110 : decode cX2_tellCount 110 = .ok (.ireturn, 1) := by decide +kernel
set_option maxRecDepth 20000 in
theorem ggX2_litColumns_X3_shineOn : GoodIn wsX2_litColumns wsX3_shineOn := goodIn_r _ [6, 7, 8, 9, 10, 11, 12, 19, 20, 21] (by decide +kernel) (by decide +kernel)
set_option maxRecDepth 20000 in
theorem gX2_litColumns_X3_shineOn : GoodIn wsX2_litColumns (wsV RX2 92 RX3 yX3_shineOn wsX3_shineOn) := goodIn_app (goodIn_of _ (by decide +kernel)) ggX2_litColumns_X3_shineOn
theorem dX2_litColumns_0 : decode cX2_litColumns 0 = .ok (.iconst 0, 1) := by decide +kernel
theorem dX2_litColumns_1 : decode cX2_litColumns 1 = .ok (.istore_n 1, 1) := by decide +kernel
theorem dX2_litColumns_2 : decode cX2_litColumns 2 = .ok (.iconst 0, 1) := by decide +kernel
theorem dX2_litColumns_3 : decode cX2_litColumns 3 = .ok (.istore_n 2, 1) := by decide +kernel
theorem dX2_litColumns_4 : decode cX2_litColumns 4 = .ok (.iload_n 2, 1) := by decide +kernel
theorem dX2_litColumns_5 : decode cX2_litColumns 5 = .ok (.bipush 10, 2) := by decide +kernel
theorem dX2_litColumns_7 : decode cX2_litColumns 7 = .ok (.if_icmp .ge 23, 3) := by decide +kernel
theorem dX2_litColumns_10 : decode cX2_litColumns 10 = .ok (.aload_n 0, 1) := by decide +kernel
theorem dX2_litColumns_11 : decode cX2_litColumns 11 = .ok (.getfield 21, 3) := by decide +kernel
theorem dX2_litColumns_14 : decode cX2_litColumns 14 = .ok (.iload_n 2, 1) := by decide +kernel
theorem dX2_litColumns_15 : decode cX2_litColumns 15 = .ok (.invokevirtual 92, 3) := by decide +kernel
theorem dX2_litColumns_18 : decode cX2_litColumns 18 = .ok (.ifCond .eq 6, 3) := by decide +kernel
theorem dX2_litColumns_21 : decode cX2_litColumns 21 = .ok (.iinc 1 1, 3) := by decide +kernel
theorem dX2_litColumns_24 : decode cX2_litColumns 24 = .ok (.iinc 2 1, 3) := by decide +kernel
theorem dX2_litColumns_27 : decode cX2_litColumns 27 = .ok (.goto (-23), 3) := by decide +kernel
theorem dX2_litColumns_30 : decode cX2_litColumns 30 = .ok (.iload_n 1, 1) := by decide +kernel
theorem dX2_litColumns_31 : decode cX2_litColumns 31 = .ok (.ireturn, 1) := by decide +kernel
set_option maxRecDepth 20000 in
theorem ggX2_lookAtLamps_X3_shineOn : GoodIn wsX2_lookAtLamps wsX3_shineOn := goodIn_r _ [7, 8, 9, 10, 11, 12, 13, 20, 21, 22] (by decide +kernel) (by decide +kernel)
set_option maxRecDepth 20000 in
theorem gX2_lookAtLamps_X3_shineOn : GoodIn wsX2_lookAtLamps (wsV RX2 92 RX3 yX3_shineOn wsX3_shineOn) := goodIn_app (goodIn_of _ (by decide +kernel)) ggX2_lookAtLamps_X3_shineOn
theorem dX2_lookAtLamps_0 : decode cX2_lookAtLamps 0 = .ok (.iconst 0, 1) := by decide +kernel
theorem dX2_lookAtLamps_1 : decode cX2_lookAtLamps 1 = .ok (.istore_n 1, 1) := by decide +kernel
theorem dX2_lookAtLamps_2 : decode cX2_lookAtLamps 2 = .ok (.iload_n 1, 1) := by decide +kernel
theorem dX2_lookAtLamps_3 : decode cX2_lookAtLamps 3 = .ok (.bipush 10, 2) := by decide +kernel
theorem dX2_lookAtLamps_5 : decode cX2_lookAtLamps 5 = .ok (.if_icmp .ge 23, 3) := by decide +kernel
theorem dX2_lookAtLamps_8 : decode cX2_lookAtLamps 8 = .ok (.aload_n 0, 1) := by decide +kernel
theorem dX2_lookAtLamps_9 : decode cX2_lookAtLamps 9 = .ok (.getfield 32, 3) := by decide +kernel
theorem dX2_lookAtLamps_12 : decode cX2_lookAtLamps 12 = .ok (.iload_n 1, 1) := by decide +kernel
theorem dX2_lookAtLamps_13 : decode cX2_lookAtLamps 13 = .ok (.aload_n 0, 1) := by decide +kernel
theorem dX2_lookAtLamps_14 : decode cX2_lookAtLamps 14 = .ok (.getfield 21, 3) := by decide +kernel
theorem dX2_lookAtLamps_17 : decode cX2_lookAtLamps 17 = .ok (.iload_n 1, 1) := by decide +kernel
theorem dX2_lookAtLamps_18 : decode cX2_lookAtLamps 18 = .ok (.invokevirtual 92, 3) := by decide +kernel
theorem dX2_lookAtLamps_21 : decode cX2_lookAtLamps 21 = .ok (.bastore, 1) := by decide +kernel
theorem dX2_lookAtLamps_22 : decode cX2_lookAtLamps 22 = .ok (.iinc 1 1, 3) := by decide +kernel
theorem dX2_lookAtLamps_25 : decode cX2_lookAtLamps 25 = .ok (.goto (-23), 3) := by decide +kernel
theorem dX2_lookAtLamps_28 : decode cX2_lookAtLamps 28 = .ok (.return_, 1) := by decide +kernel
set_option maxRecDepth 20000 in
theorem ggX2_goThrough_X2_lookAtLamps : GoodIn wsX2_goThrough wsX2_lookAtLamps := goodIn_r _ [6, 7, 8, 9, 10, 11, 12, 13, 14, 15, 16, 17, 18, 19, 155, 156, 157, 158, 159, 160, 161, 162, 163] (by decide +kernel) (by decide +kernel)
set_option maxRecDepth 20000 in
theorem gX2_goThrough_X2_lookAtLamps : GoodIn wsX2_goThrough (wsV RX2 95 RX2 yX2_lookAtLamps wsX2_lookAtLamps) := goodIn_app (goodIn_of _ (by decide +kernel)) ggX2_goThrough_X2_lookAtLamps
set_option maxRecDepth 20000 in
theorem ggX2_goThrough_X2_driveByLamps : GoodIn wsX2_goThrough wsX2_driveByLamps := goodIn_r _ [23, 7, 24, 25, 26, 27, 5, 28, 29, 30, 31, 32, 33, 34, 35, 36, 37, 38, 39, 40, 41, 42, 43, 44, 45, 46, 47, 18, 48, 155, 156, 157, 158, 159, 160, 164] (by decide +kernel) (by decide +kernel)
set_option maxRecDepth 20000 in
theorem gX2_goThrough_X2_driveByLamps : GoodIn wsX2_goThrough (wsV RX2 98 RX2 yX2_driveByLamps wsX2_driveByLamps) := goodIn_app (goodIn_of _ (by decide +kernel)) ggX2_goThrough_X2_driveByLamps
set_option maxRecDepth 20000 in
theorem ggX2_goThrough_X2_driveByWhispers : GoodIn wsX2_goThrough wsX2_driveByWhispers := goodIn_r _ [52, 53, 24, 8, 54, 55, 56, 57, 58, 59, 60, 61, 62, 63, 64, 12, 65, 15, 66, 67, 68, 69, 70, 71, 72, 73, 32, 74, 46, 47, 18, 48, 34, 35, 36, 37, 38, 39, 40, 41, 42, 43, 44, 45, 155, 156, 157, 158, 159, 160, 165, 166, 167, 168, 169, 170, 171, 161, 162, 163, 164] (by decide +kernel) (by decide +kernel)
set_option maxRecDepth 20000 in
theorem gX2_goThrough_X2_driveByWhispers : GoodIn wsX2_goThrough (wsV RX2 101 RX2 yX2_driveByWhispers wsX2_driveByWhispers) := goodIn_app (goodIn_of _ (by decide +kernel)) ggX2_goThrough_X2_driveByWhispers
set_option maxRecDepth 20000 in
theorem ggX2_goThrough_X2_lookOut : GoodIn wsX2_goThrough wsX2_lookOut := goodIn_r _ [78, 1, 53, 8, 24, 79, 80, 5, 81, 82, 83, 84, 57, 85, 60, 86, 87, 88, 89, 90, 91, 92, 93, 94, 59, 95, 96, 97, 12, 98, 14, 66, 67, 68, 69, 70, 62, 63, 64, 65, 15, 99, 100, 101, 32, 102, 103, 104, 105, 106, 34, 35, 36, 37, 38, 39, 40, 41, 107, 108, 109, 110, 111, 155, 156, 157, 158, 159, 160, 165, 166, 167, 168, 169, 170, 171, 161, 162, 163, 164] (by decide +kernel) (by decide +kernel)
set_option maxRecDepth 20000 in
theorem gX2_goThrough_X2_lookOut : GoodIn wsX2_goThrough (wsV RX2 104 RX2 yX2_lookOut wsX2_lookOut) := goodIn_app (goodIn_of _ (by decide +kernel)) ggX2_goThrough_X2_lookOut
set_option maxRecDepth 20000 in
theorem ggX2_goThrough_X2_fillJars : GoodIn wsX2_goThrough wsX2_fillJars := goodIn_r _ [115, 53, 8, 24, 116, 117, 118, 57, 119, 120, 86, 87, 88, 89, 90, 82, 83, 84, 85, 60, 62, 63, 64, 12, 65, 15, 66, 67, 68, 69, 70, 121, 122, 123, 32, 124, 46, 47, 18, 48, 34, 35, 36, 37, 38, 39, 40, 41, 42, 43, 44, 45, 125, 126, 127, 128, 129, 155, 156, 157, 158, 159, 160, 165, 166, 167, 168, 169, 170, 171, 161, 162, 163, 164] (by decide +kernel) (by decide +kernel)
set_option maxRecDepth 20000 in
theorem gX2_goThrough_X2_fillJars : GoodIn wsX2_goThrough (wsV RX2 107 RX2 yX2_fillJars wsX2_fillJars) := goodIn_app (goodIn_of _ (by decide +kernel)) ggX2_goThrough_X2_fillJars
set_option maxRecDepth 20000 in
theorem ggX2_goThrough_X2_searchJars : GoodIn wsX2_goThrough wsX2_searchJars := goodIn_r _ [133, 8, 1, 134, 53, 135, 136, 137, 12, 138, 70, 139, 140, 141, 57, 142, 120, 60, 143, 144, 145, 146, 155, 156, 157, 158, 159, 160, 161, 162, 163, 165, 166, 167, 168, 169, 170, 171] (by decide +kernel) (by decide +kernel)
set_option maxRecDepth 20000 in
theorem gX2_goThrough_X2_searchJars : GoodIn wsX2_goThrough (wsV RX2 110 RX2 yX2_searchJars wsX2_searchJars) := goodIn_app (goodIn_of _ (by decide +kernel)) ggX2_goThrough_X2_searchJars
set_option maxRecDepth 20000 in
theorem ggX2_goThrough_X2_growInTheDark : GoodIn wsX2_goThrough wsX2_growInTheDark := goodIn_r _ [150, 24, 25, 26, 27, 5, 28, 7, 151, 152, 153, 32, 154, 34, 35, 36, 37, 38, 39, 40, 41, 42, 43, 44, 45, 46, 47, 18, 48, 155, 156, 157, 158, 159, 160, 164] (by decide +kernel) (by decide +kernel)
set_option maxRecDepth 20000 in
theorem gX2_goThrough_X2_growInTheDark : GoodIn wsX2_goThrough (wsV RX2 113 RX2 yX2_growInTheDark wsX2_growInTheDark) := goodIn_app (goodIn_of _ (by decide +kernel)) ggX2_goThrough_X2_growInTheDark
theorem dX2_goThrough_0 : decode cX2_goThrough 0 = .ok (.iconst 0, 1) := by decide +kernel
theorem dX2_goThrough_1 : decode cX2_goThrough 1 = .ok (.istore_n 2, 1) := by decide +kernel
theorem dX2_goThrough_2 : decode cX2_goThrough 2 = .ok (.aload_n 0, 1) := by decide +kernel
theorem dX2_goThrough_3 : decode cX2_goThrough 3 = .ok (.invokevirtual 95, 3) := by decide +kernel
theorem dX2_goThrough_6 : decode cX2_goThrough 6 = .ok (.iconst 0, 1) := by decide +kernel
theorem dX2_goThrough_7 : decode cX2_goThrough 7 = .ok (.istore_n 3, 1) := by decide +kernel
theorem dX2_goThrough_8 : decode cX2_goThrough 8 = .ok (.iload_n 3, 1) := by decide +kernel
theorem dX2_goThrough_9 : decode cX2_goThrough 9 = .ok (.iload_n 1, 1) := by decide +kernel
theorem dX2_goThrough_10 : decode cX2_goThrough 10 = .ok (.if_icmp .ge 46, 3) := by decide +kernel
theorem dX2_goThrough_13 : decode cX2_goThrough 13 = .ok (.aload_n 0, 1) := by decide +kernel
theorem dX2_goThrough_14 : decode cX2_goThrough 14 = .ok (.invokevirtual 98, 3) := by decide +kernel
theorem dX2_goThrough_17 : decode cX2_goThrough 17 = .ok (.aload_n 0, 1) := by decide +kernel
theorem dX2_goThrough_18 : decode cX2_goThrough 18 = .ok (.invokevirtual 101, 3) := by decide +kernel
theorem dX2_goThrough_21 : decode cX2_goThrough 21 = .ok (.iload_n 2, 1) := by decide +kernel
theorem dX2_goThrough_22 : decode cX2_goThrough 22 = .ok (.aload_n 0, 1) := by decide +kernel
theorem dX2_goThrough_23 : decode cX2_goThrough 23 = .ok (.invokevirtual 104, 3) := by decide +kernel
theorem dX2_goThrough_26 : decode cX2_goThrough 26 = .ok (.iadd, 1) := by decide +kernel
theorem dX2_goThrough_27 : decode cX2_goThrough 27 = .ok (.istore_n 2, 1) := by decide +kernel
theorem dX2_goThrough_28 : decode cX2_goThrough 28 = .ok (.aload_n 0, 1) := by decide +kernel
theorem dX2_goThrough_29 : decode cX2_goThrough 29 = .ok (.invokevirtual 107, 3) := by decide +kernel
theorem dX2_goThrough_32 : decode cX2_goThrough 32 = .ok (.aload_n 0, 1) := by decide +kernel
theorem dX2_goThrough_33 : decode cX2_goThrough 33 = .ok (.invokevirtual 110, 3) := by decide +kernel
theorem dX2_goThrough_36 : decode cX2_goThrough 36 = .ok (.aload_n 0, 1) := by decide +kernel
theorem dX2_goThrough_37 : decode cX2_goThrough 37 = .ok (.invokevirtual 113, 3) := by decide +kernel
theorem dX2_goThrough_40 : decode cX2_goThrough 40 = .ok (.aload_n 0, 1) := by decide +kernel
theorem dX2_goThrough_41 : decode cX2_goThrough 41 = .ok (.dup, 1) := by decide +kernel
theorem dX2_goThrough_42 : decode cX2_goThrough 42 = .ok (.getfield 46, 3) := by decide +kernel
theorem dX2_goThrough_45 : decode cX2_goThrough 45 = .ok (.iconst 1, 1) := by decide +kernel
theorem dX2_goThrough_46 : decode cX2_goThrough 46 = .ok (.iadd, 1) := by decide +kernel
theorem dX2_goThrough_47 : decode cX2_goThrough 47 = .ok (.putfield 46, 3) := by decide +kernel
theorem dX2_goThrough_50 : decode cX2_goThrough 50 = .ok (.iinc 3 1, 3) := by decide +kernel
theorem dX2_goThrough_53 : decode cX2_goThrough 53 = .ok (.goto (-45), 3) := by decide +kernel
theorem dX2_goThrough_56 : decode cX2_goThrough 56 = .ok (.iload_n 2, 1) := by decide +kernel
theorem dX2_goThrough_57 : decode cX2_goThrough 57 = .ok (.ireturn, 1) := by decide +kernel
set_option maxRecDepth 20000 in
theorem ggX2_driveByLamps_X2_isDarkColumn : GoodIn wsX2_driveByLamps wsX2_isDarkColumn := goodIn_r _ [7, 1, 29, 30, 31, 32, 33, 34] (by decide +kernel) (by decide +kernel)
set_option maxRecDepth 20000 in
theorem gX2_driveByLamps_X2_isDarkColumn : GoodIn wsX2_driveByLamps (wsV RX2 116 RX2 yX2_isDarkColumn wsX2_isDarkColumn) := goodIn_app (goodIn_of _ (by decide +kernel)) ggX2_driveByLamps_X2_isDarkColumn
set_option maxRecDepth 20000 in
theorem ggX2_driveByLamps_X1_driveAside : GoodIn wsX2_driveByLamps wsX1_driveAside := goodIn_r _ [12, 13, 14, 15, 11, 16, 17, 18, 19, 20, 21, 22, 23, 24, 25, 26, 27, 28, 35] (by decide +kernel) (by decide +kernel)
set_option maxRecDepth 20000 in
theorem gX2_driveByLamps_X1_driveAside : GoodIn wsX2_driveByLamps (wsV RX2 119 RX1 yX1_driveAside wsX1_driveAside) := goodIn_app (goodIn_of _ (by decide +kernel)) ggX2_driveByLamps_X1_driveAside
theorem dX2_driveByLamps_0 : decode cX2_driveByLamps 0 = .ok (.iconst 0, 1) := by decide +kernel
theorem dX2_driveByLamps_1 : decode cX2_driveByLamps 1 = .ok (.istore_n 1, 1) := by decide +kernel
theorem dX2_driveByLamps_2 : decode cX2_driveByLamps 2 = .ok (.iload_n 1, 1) := by decide +kernel
theorem dX2_driveByLamps_3 : decode cX2_driveByLamps 3 = .ok (.bipush 10, 2) := by decide +kernel
theorem dX2_driveByLamps_5 : decode cX2_driveByLamps 5 = .ok (.if_icmp .ge 72, 3) := by decide +kernel
theorem dX2_driveByLamps_8 : decode cX2_driveByLamps 8 = .ok (.aload_n 0, 1) := by decide +kernel
theorem dX2_driveByLamps_9 : decode cX2_driveByLamps 9 = .ok (.getfield 32, 3) := by decide +kernel
theorem dX2_driveByLamps_12 : decode cX2_driveByLamps 12 = .ok (.iload_n 1, 1) := by decide +kernel
theorem dX2_driveByLamps_13 : decode cX2_driveByLamps 13 = .ok (.baload, 1) := by decide +kernel
theorem dX2_driveByLamps_14 : decode cX2_driveByLamps 14 = .ok (.ifCond .eq 27, 3) := by decide +kernel
theorem dX2_driveByLamps_17 : decode cX2_driveByLamps 17 = .ok (.aload_n 0, 1) := by decide +kernel
theorem dX2_driveByLamps_18 : decode cX2_driveByLamps 18 = .ok (.iload_n 1, 1) := by decide +kernel
theorem dX2_driveByLamps_19 : decode cX2_driveByLamps 19 = .ok (.iconst 1, 1) := by decide +kernel
theorem dX2_driveByLamps_20 : decode cX2_driveByLamps 20 = .ok (.isub, 1) := by decide +kernel
theorem dX2_driveByLamps_21 : decode cX2_driveByLamps 21 = .ok (.invokevirtual 116, 3) := by decide +kernel
theorem dX2_driveByLamps_24 : decode cX2_driveByLamps 24 = .ok (.ifCond .eq 17, 3) := by decide +kernel
theorem dX2_driveByLamps_27 : decode cX2_driveByLamps 27 = .ok (.aload_n 0, 1) := by decide +kernel
theorem dX2_driveByLamps_28 : decode cX2_driveByLamps 28 = .ok (.getfield 12, 3) := by decide +kernel
theorem dX2_driveByLamps_31 : decode cX2_driveByLamps 31 = .ok (.iload_n 1, 1) := by decide +kernel
theorem dX2_driveByLamps_32 : decode cX2_driveByLamps 32 = .ok (.iload_n 1, 1) := by decide +kernel
theorem dX2_driveByLamps_33 : decode cX2_driveByLamps 33 = .ok (.iconst 1, 1) := by decide +kernel
theorem dX2_driveByLamps_34 : decode cX2_driveByLamps 34 = .ok (.isub, 1) := by decide +kernel
theorem dX2_driveByLamps_35 : decode cX2_driveByLamps 35 = .ok (.invokevirtual 119, 3) := by decide +kernel
theorem dX2_driveByLamps_38 : decode cX2_driveByLamps 38 = .ok (.goto 33, 3) := by decide +kernel
theorem dX2_driveByLamps_41 : decode cX2_driveByLamps 41 = .ok (.aload_n 0, 1) := by decide +kernel
theorem dX2_driveByLamps_42 : decode cX2_driveByLamps 42 = .ok (.getfield 32, 3) := by decide +kernel
theorem dX2_driveByLamps_45 : decode cX2_driveByLamps 45 = .ok (.iload_n 1, 1) := by decide +kernel
theorem dX2_driveByLamps_46 : decode cX2_driveByLamps 46 = .ok (.baload, 1) := by decide +kernel
theorem dX2_driveByLamps_47 : decode cX2_driveByLamps 47 = .ok (.ifCond .eq 24, 3) := by decide +kernel
theorem dX2_driveByLamps_50 : decode cX2_driveByLamps 50 = .ok (.aload_n 0, 1) := by decide +kernel
theorem dX2_driveByLamps_51 : decode cX2_driveByLamps 51 = .ok (.iload_n 1, 1) := by decide +kernel
theorem dX2_driveByLamps_52 : decode cX2_driveByLamps 52 = .ok (.iconst 1, 1) := by decide +kernel
theorem dX2_driveByLamps_53 : decode cX2_driveByLamps 53 = .ok (.iadd, 1) := by decide +kernel
theorem dX2_driveByLamps_54 : decode cX2_driveByLamps 54 = .ok (.invokevirtual 116, 3) := by decide +kernel
theorem dX2_driveByLamps_57 : decode cX2_driveByLamps 57 = .ok (.ifCond .eq 14, 3) := by decide +kernel
theorem dX2_driveByLamps_60 : decode cX2_driveByLamps 60 = .ok (.aload_n 0, 1) := by decide +kernel
theorem dX2_driveByLamps_61 : decode cX2_driveByLamps 61 = .ok (.getfield 12, 3) := by decide +kernel
theorem dX2_driveByLamps_64 : decode cX2_driveByLamps 64 = .ok (.iload_n 1, 1) := by decide +kernel
theorem dX2_driveByLamps_65 : decode cX2_driveByLamps 65 = .ok (.iload_n 1, 1) := by decide +kernel
theorem dX2_driveByLamps_66 : decode cX2_driveByLamps 66 = .ok (.iconst 1, 1) := by decide +kernel
theorem dX2_driveByLamps_67 : decode cX2_driveByLamps 67 = .ok (.iadd, 1) := by decide +kernel
theorem dX2_driveByLamps_68 : decode cX2_driveByLamps 68 = .ok (.invokevirtual 119, 3) := by decide +kernel
theorem dX2_driveByLamps_71 : decode cX2_driveByLamps 71 = .ok (.iinc 1 1, 3) := by decide +kernel
theorem dX2_driveByLamps_74 : decode cX2_driveByLamps 74 = .ok (.goto (-72), 3) := by decide +kernel
theorem dX2_driveByLamps_77 : decode cX2_driveByLamps 77 = .ok (.return_, 1) := by decide +kernel
theorem dX2_isDarkColumn_0 : decode cX2_isDarkColumn 0 = .ok (.iload_n 1, 1) := by decide +kernel
theorem dX2_isDarkColumn_1 : decode cX2_isDarkColumn 1 = .ok (.ifCond .lt 22, 3) := by decide +kernel
theorem dX2_isDarkColumn_4 : decode cX2_isDarkColumn 4 = .ok (.iload_n 1, 1) := by decide +kernel
theorem dX2_isDarkColumn_5 : decode cX2_isDarkColumn 5 = .ok (.bipush 10, 2) := by decide +kernel
theorem dX2_isDarkColumn_7 : decode cX2_isDarkColumn 7 = .ok (.if_icmp .ge 16, 3) := by decide +kernel
theorem dX2_isDarkColumn_10 : decode cX2_isDarkColumn 10 = .ok (.aload_n 0, 1) := by decide +kernel
theorem dX2_isDarkColumn_11 : decode cX2_isDarkColumn 11 = .ok (.getfield 32, 3) := by decide +kernel
theorem dX2_isDarkColumn_14 : decode cX2_isDarkColumn 14 = .ok (.iload_n 1, 1) := by decide +kernel
theorem dX2_isDarkColumn_15 : decode cX2_isDarkColumn 15 = .ok (.baload, 1) := by decide +kernel
theorem dX2_isDarkColumn_16 : decode cX2_isDarkColumn 16 = .ok (.ifCond .ne 7, 3) := by decide +kernel
theorem dX2_isDarkColumn_19 : decode cX2_isDarkColumn 19 = .ok (.iconst 1, 1) := by decide +kernel
theorem dX2_isDarkColumn_20 : decode cX2_isDarkColumn 20 = .ok (.goto 4, 3) := by decide +kernel
theorem dX2_isDarkColumn_23 : decode cX2_isDarkColumn 23 = .ok (.iconst 0, 1) := by decide +kernel
theorem dX2_isDarkColumn_24 : decode cX2_isDarkColumn 24 = .ok (.ireturn, 1) := by decide +kernel
set_option maxRecDepth 20000 in
theorem ggX2_driveByWhispers_X0_whispersIn : GoodIn wsX2_driveByWhispers wsX0_whispersIn := goodIn_r _ [8, 9, 10, 11, 50, 51, 52, 53, 54, 55, 56] (by decide +kernel) (by decide +kernel)
set_option maxRecDepth 20000 in
theorem gX2_driveByWhispers_X0_whispersIn : GoodIn wsX2_driveByWhispers (wsV RX2 64 RX0 yX0_whispersIn wsX0_whispersIn) := goodIn_app (goodIn_of _ (by decide +kernel)) ggX2_driveByWhispers_X0_whispersIn
set_option maxRecDepth 20000 in
theorem ggX2_driveByWhispers_X3_windowOf : GoodIn wsX2_driveByWhispers wsX3_windowOf := goodIn_r _ [16, 17, 18, 19, 20, 15, 21, 22, 57, 58, 59] (by decide +kernel) (by decide +kernel)
set_option maxRecDepth 20000 in
theorem gX2_driveByWhispers_X3_windowOf : GoodIn wsX2_driveByWhispers (wsV RX2 53 RX3 yX3_windowOf wsX3_windowOf) := goodIn_app (goodIn_of _ (by decide +kernel)) ggX2_driveByWhispers_X3_windowOf
set_option maxRecDepth 20000 in
theorem ggX2_driveByWhispers_X1_driveDown : GoodIn wsX2_driveByWhispers wsX1_driveDown := goodIn_r _ [27, 28, 29, 30, 31, 32, 33, 34, 26, 35, 36, 37, 38, 39, 40, 41, 42, 43, 60] (by decide +kernel) (by decide +kernel)
set_option maxRecDepth 20000 in
theorem gX2_driveByWhispers_X1_driveDown : GoodIn wsX2_driveByWhispers (wsV RX2 123 RX1 yX1_driveDown wsX1_driveDown) := goodIn_app (goodIn_of _ (by decide +kernel)) ggX2_driveByWhispers_X1_driveDown
theorem dX2_driveByWhispers_0 : decode cX2_driveByWhispers 0 = .ok (.iconst 0, 1) := by decide +kernel
theorem dX2_driveByWhispers_1 : decode cX2_driveByWhispers 1 = .ok (.istore_n 1, 1) := by decide +kernel
theorem dX2_driveByWhispers_2 : decode cX2_driveByWhispers 2 = .ok (.iload_n 1, 1) := by decide +kernel
theorem dX2_driveByWhispers_3 : decode cX2_driveByWhispers 3 = .ok (.bipush 6, 2) := by decide +kernel
theorem dX2_driveByWhispers_5 : decode cX2_driveByWhispers 5 = .ok (.if_icmp .ge 37, 3) := by decide +kernel
theorem dX2_driveByWhispers_8 : decode cX2_driveByWhispers 8 = .ok (.aload_n 0, 1) := by decide +kernel
theorem dX2_driveByWhispers_9 : decode cX2_driveByWhispers 9 = .ok (.getfield 28, 3) := by decide +kernel
theorem dX2_driveByWhispers_12 : decode cX2_driveByWhispers 12 = .ok (.iload_n 1, 1) := by decide +kernel
theorem dX2_driveByWhispers_13 : decode cX2_driveByWhispers 13 = .ok (.invokevirtual 64, 3) := by decide +kernel
theorem dX2_driveByWhispers_16 : decode cX2_driveByWhispers 16 = .ok (.bipush 9, 2) := by decide +kernel
theorem dX2_driveByWhispers_18 : decode cX2_driveByWhispers 18 = .ok (.if_icmp .le 18, 3) := by decide +kernel
theorem dX2_driveByWhispers_21 : decode cX2_driveByWhispers 21 = .ok (.aload_n 0, 1) := by decide +kernel
theorem dX2_driveByWhispers_22 : decode cX2_driveByWhispers 22 = .ok (.getfield 12, 3) := by decide +kernel
theorem dX2_driveByWhispers_25 : decode cX2_driveByWhispers 25 = .ok (.aload_n 0, 1) := by decide +kernel
theorem dX2_driveByWhispers_26 : decode cX2_driveByWhispers 26 = .ok (.getfield 21, 3) := by decide +kernel
theorem dX2_driveByWhispers_29 : decode cX2_driveByWhispers 29 = .ok (.iload_n 1, 1) := by decide +kernel
theorem dX2_driveByWhispers_30 : decode cX2_driveByWhispers 30 = .ok (.invokevirtual 53, 3) := by decide +kernel
theorem dX2_driveByWhispers_33 : decode cX2_driveByWhispers 33 = .ok (.invokevirtual 123, 3) := by decide +kernel
theorem dX2_driveByWhispers_36 : decode cX2_driveByWhispers 36 = .ok (.iinc 1 1, 3) := by decide +kernel
theorem dX2_driveByWhispers_39 : decode cX2_driveByWhispers 39 = .ok (.goto (-37), 3) := by decide +kernel
theorem dX2_driveByWhispers_42 : decode cX2_driveByWhispers 42 = .ok (.return_, 1) := by decide +kernel
set_option maxRecDepth 20000 in
theorem ggX2_lookOut_X2_moonLight : GoodIn wsX2_lookOut wsX2_moonLight := goodIn_r _ [8] (by decide +kernel) (by decide +kernel)
set_option maxRecDepth 20000 in
theorem gX2_lookOut_X2_moonLight : GoodIn wsX2_lookOut (va_wsS RX2 70 yX2_moonLight wsX2_moonLight) := goodIn_app (goodIn_of _ (by decide +kernel)) ggX2_lookOut_X2_moonLight
set_option maxRecDepth 20000 in
theorem ggX2_lookOut_X0_roomOf : GoodIn wsX2_lookOut wsX0_roomOf := goodIn_r _ [13, 14, 15, 16, 17, 12, 18, 19, 69, 70, 71, 72, 73, 74, 75] (by decide +kernel) (by decide +kernel)
set_option maxRecDepth 20000 in
theorem gX2_lookOut_X0_roomOf : GoodIn wsX2_lookOut (wsV RX2 127 RX0 yX0_roomOf wsX0_roomOf) := goodIn_app (goodIn_of _ (by decide +kernel)) ggX2_lookOut_X0_roomOf
set_option maxRecDepth 20000 in
theorem ggX2_lookOut_X0_isStaying : GoodIn wsX2_lookOut wsX0_isStaying := goodIn_r _ [23, 24, 15, 16, 17, 12, 18, 19, 69, 70, 71, 72, 73, 74, 75] (by decide +kernel) (by decide +kernel)
set_option maxRecDepth 20000 in
theorem gX2_lookOut_X0_isStaying : GoodIn wsX2_lookOut (wsV RX2 130 RX0 yX0_isStaying wsX0_isStaying) := goodIn_app (goodIn_of _ (by decide +kernel)) ggX2_lookOut_X0_isStaying
set_option maxRecDepth 20000 in
theorem ggX2_lookOut_X3_isBurning : GoodIn wsX2_lookOut wsX3_isBurning := goodIn_r _ [29, 30, 31, 32, 33, 28, 34, 35, 76, 77, 78] (by decide +kernel) (by decide +kernel)
set_option maxRecDepth 20000 in
theorem gX2_lookOut_X3_isBurning : GoodIn wsX2_lookOut (wsV RX2 57 RX3 yX3_isBurning wsX3_isBurning) := goodIn_app (goodIn_of _ (by decide +kernel)) ggX2_lookOut_X3_isBurning
set_option maxRecDepth 20000 in
theorem ggX2_lookOut_X3_windowOf : GoodIn wsX2_lookOut wsX3_windowOf := goodIn_r _ [39, 40, 31, 32, 33, 28, 34, 35, 76, 77, 78] (by decide +kernel) (by decide +kernel)
set_option maxRecDepth 20000 in
theorem gX2_lookOut_X3_windowOf : GoodIn wsX2_lookOut (wsV RX2 53 RX3 yX3_windowOf wsX3_windowOf) := goodIn_app (goodIn_of _ (by decide +kernel)) ggX2_lookOut_X3_windowOf
set_option maxRecDepth 20000 in
theorem ggX2_lookOut_X1_seenFrom : GoodIn wsX2_lookOut wsX1_seenFrom := goodIn_r _ [45, 46, 47, 48, 44, 49, 50, 51, 52, 53, 54, 55, 56, 57, 79] (by decide +kernel) (by decide +kernel)
set_option maxRecDepth 20000 in
theorem gX2_lookOut_X1_seenFrom : GoodIn wsX2_lookOut (wsV RX2 133 RX1 yX1_seenFrom wsX1_seenFrom) := goodIn_app (goodIn_of _ (by decide +kernel)) ggX2_lookOut_X1_seenFrom
set_option maxRecDepth 20000 in
theorem ggX2_lookOut_X0_addSeen : GoodIn wsX2_lookOut wsX0_addSeen := goodIn_r _ [61, 62, 15, 16, 17, 12, 18, 19, 69, 70, 71, 72, 73, 74, 75] (by decide +kernel) (by decide +kernel)
set_option maxRecDepth 20000 in
theorem gX2_lookOut_X0_addSeen : GoodIn wsX2_lookOut (wsV RX2 136 RX0 yX0_addSeen wsX0_addSeen) := goodIn_app (goodIn_of _ (by decide +kernel)) ggX2_lookOut_X0_addSeen
theorem dX2_lookOut_0 : decode cX2_lookOut 0 = .ok (.aload_n 0, 1) := by decide +kernel
theorem dX2_lookOut_1 : decode cX2_lookOut 1 = .ok (.getfield 46, 3) := by decide +kernel
theorem dX2_lookOut_4 : decode cX2_lookOut 4 = .ok (.invokestatic 70, 3) := by decide +kernel
theorem dX2_lookOut_7 : decode cX2_lookOut 7 = .ok (.istore_n 1, 1) := by decide +kernel
theorem dX2_lookOut_8 : decode cX2_lookOut 8 = .ok (.iconst 0, 1) := by decide +kernel
theorem dX2_lookOut_9 : decode cX2_lookOut 9 = .ok (.istore_n 2, 1) := by decide +kernel
theorem dX2_lookOut_10 : decode cX2_lookOut 10 = .ok (.iconst 0, 1) := by decide +kernel
theorem dX2_lookOut_11 : decode cX2_lookOut 11 = .ok (.istore_n 3, 1) := by decide +kernel
theorem dX2_lookOut_12 : decode cX2_lookOut 12 = .ok (.iload_n 3, 1) := by decide +kernel
theorem dX2_lookOut_13 : decode cX2_lookOut 13 = .ok (.bipush 12, 2) := by decide +kernel
theorem dX2_lookOut_15 : decode cX2_lookOut 15 = .ok (.if_icmp .ge 84, 3) := by decide +kernel
theorem dX2_lookOut_18 : decode cX2_lookOut 18 = .ok (.iload_n 1, 1) := by decide +kernel
theorem dX2_lookOut_19 : decode cX2_lookOut 19 = .ok (.iconst 4, 1) := by decide +kernel
theorem dX2_lookOut_20 : decode cX2_lookOut 20 = .ok (.if_icmp .ge 79, 3) := by decide +kernel
theorem dX2_lookOut_23 : decode cX2_lookOut 23 = .ok (.aload_n 0, 1) := by decide +kernel
theorem dX2_lookOut_24 : decode cX2_lookOut 24 = .ok (.getfield 28, 3) := by decide +kernel
theorem dX2_lookOut_27 : decode cX2_lookOut 27 = .ok (.iload_n 3, 1) := by decide +kernel
theorem dX2_lookOut_28 : decode cX2_lookOut 28 = .ok (.invokevirtual 127, 3) := by decide +kernel
theorem dX2_lookOut_31 : decode cX2_lookOut 31 = .ok (.istore 4, 2) := by decide +kernel
theorem dX2_lookOut_33 : decode cX2_lookOut 33 = .ok (.aload_n 0, 1) := by decide +kernel
theorem dX2_lookOut_34 : decode cX2_lookOut 34 = .ok (.getfield 28, 3) := by decide +kernel
theorem dX2_lookOut_37 : decode cX2_lookOut 37 = .ok (.iload_n 3, 1) := by decide +kernel
theorem dX2_lookOut_38 : decode cX2_lookOut 38 = .ok (.invokevirtual 130, 3) := by decide +kernel
theorem dX2_lookOut_41 : decode cX2_lookOut 41 = .ok (.ifCond .eq 52, 3) := by decide +kernel
theorem dX2_lookOut_44 : decode cX2_lookOut 44 = .ok (.aload_n 0, 1) := by decide +kernel
theorem dX2_lookOut_45 : decode cX2_lookOut 45 = .ok (.getfield 21, 3) := by decide +kernel
theorem dX2_lookOut_48 : decode cX2_lookOut 48 = .ok (.iload 4, 2) := by decide +kernel
theorem dX2_lookOut_50 : decode cX2_lookOut 50 = .ok (.invokevirtual 57, 3) := by decide +kernel
theorem dX2_lookOut_53 : decode cX2_lookOut 53 = .ok (.ifCond .ne 40, 3) := by decide +kernel
theorem dX2_lookOut_56 : decode cX2_lookOut 56 = .ok (.aload_n 0, 1) := by decide +kernel
theorem dX2_lookOut_57 : decode cX2_lookOut 57 = .ok (.getfield 12, 3) := by decide +kernel
theorem dX2_lookOut_60 : decode cX2_lookOut 60 = .ok (.aload_n 0, 1) := by decide +kernel
theorem dX2_lookOut_61 : decode cX2_lookOut 61 = .ok (.getfield 21, 3) := by decide +kernel
theorem dX2_lookOut_64 : decode cX2_lookOut 64 = .ok (.iload 4, 2) := by decide +kernel
theorem dX2_lookOut_66 : decode cX2_lookOut 66 = .ok (.invokevirtual 53, 3) := by decide +kernel
theorem dX2_lookOut_69 : decode cX2_lookOut 69 = .ok (.invokevirtual 133, 3) := by decide +kernel
theorem dX2_lookOut_72 : decode cX2_lookOut 72 = .ok (.iload_n 1, 1) := by decide +kernel
theorem dX2_lookOut_73 : decode cX2_lookOut 73 = .ok (.iconst 1, 1) := by decide +kernel
theorem dX2_lookOut_74 : decode cX2_lookOut 74 = .ok (.iadd, 1) := by decide +kernel
theorem dX2_lookOut_75 : decode cX2_lookOut 75 = .ok (.idiv, 1) := by decide +kernel
theorem dX2_lookOut_76 : decode cX2_lookOut 76 = .ok (.istore 5, 2) := by decide +kernel
theorem dX2_lookOut_78 : decode cX2_lookOut 78 = .ok (.aload_n 0, 1) := by decide +kernel
theorem dX2_lookOut_79 : decode cX2_lookOut 79 = .ok (.getfield 28, 3) := by decide +kernel
theorem dX2_lookOut_82 : decode cX2_lookOut 82 = .ok (.iload_n 3, 1) := by decide +kernel
theorem dX2_lookOut_83 : decode cX2_lookOut 83 = .ok (.iload 5, 2) := by decide +kernel
theorem dX2_lookOut_85 : decode cX2_lookOut 85 = .ok (.invokevirtual 136, 3) := by decide +kernel
theorem dX2_lookOut_88 : decode cX2_lookOut 88 = .ok (.iload_n 2, 1) := by decide +kernel
theorem dX2_lookOut_89 : decode cX2_lookOut 89 = .ok (.iload 5, 2) := by decide +kernel
theorem dX2_lookOut_91 : decode cX2_lookOut 91 = .ok (.iadd, 1) := by decide +kernel
theorem dX2_lookOut_92 : decode cX2_lookOut 92 = .ok (.istore_n 2, 1) := by decide +kernel
theorem dX2_lookOut_93 : decode cX2_lookOut 93 = .ok (.iinc 3 1, 3) := by decide +kernel
theorem dX2_lookOut_96 : decode cX2_lookOut 96 = .ok (.goto (-84), 3) := by decide +kernel
theorem dX2_lookOut_99 : decode cX2_lookOut 99 = .ok (.iload_n 2, 1) := by decide +kernel
theorem dX2_lookOut_100 : decode cX2_lookOut 100 = .ok (.ireturn, 1) := by decide +kernel
set_option maxRecDepth 20000 in
theorem ggX2_fillJars_X0_hasJar : GoodIn wsX2_fillJars wsX0_hasJar := goodIn_r _ [8, 9, 10, 11, 12, 7, 13, 14, 63, 64, 65, 66, 67, 68, 69] (by decide +kernel) (by decide +kernel)
set_option maxRecDepth 20000 in
theorem gX2_fillJars_X0_hasJar : GoodIn wsX2_fillJars (wsV RX2 139 RX0 yX0_hasJar wsX0_hasJar) := goodIn_app (goodIn_of _ (by decide +kernel)) ggX2_fillJars_X0_hasJar
set_option maxRecDepth 20000 in
theorem ggX2_fillJars_X0_roomOf : GoodIn wsX2_fillJars wsX0_roomOf := goodIn_r _ [18, 19, 10, 11, 12, 7, 13, 14, 63, 64, 65, 66, 67, 68, 69] (by decide +kernel) (by decide +kernel)
set_option maxRecDepth 20000 in
theorem gX2_fillJars_X0_roomOf : GoodIn wsX2_fillJars (wsV RX2 127 RX0 yX0_roomOf wsX0_roomOf) := goodIn_app (goodIn_of _ (by decide +kernel)) ggX2_fillJars_X0_roomOf
set_option maxRecDepth 20000 in
theorem ggX2_fillJars_X3_windowOf : GoodIn wsX2_fillJars wsX3_windowOf := goodIn_r _ [24, 25, 26, 27, 28, 23, 29, 30, 70, 71, 72] (by decide +kernel) (by decide +kernel)
set_option maxRecDepth 20000 in
theorem gX2_fillJars_X3_windowOf : GoodIn wsX2_fillJars (wsV RX2 53 RX3 yX3_windowOf wsX3_windowOf) := goodIn_app (goodIn_of _ (by decide +kernel)) ggX2_fillJars_X3_windowOf
set_option maxRecDepth 20000 in
theorem ggX2_fillJars_X1_takeUppermost : GoodIn wsX2_fillJars wsX1_takeUppermost := goodIn_r _ [35, 36, 37, 38, 39, 40, 41, 42, 34, 43, 44, 45, 46, 47, 48, 49, 50, 51, 73] (by decide +kernel) (by decide +kernel)
set_option maxRecDepth 20000 in
theorem gX2_fillJars_X1_takeUppermost : GoodIn wsX2_fillJars (wsV RX2 142 RX1 yX1_takeUppermost wsX1_takeUppermost) := goodIn_app (goodIn_of _ (by decide +kernel)) ggX2_fillJars_X1_takeUppermost
set_option maxRecDepth 20000 in
theorem ggX2_fillJars_X0_addTaken : GoodIn wsX2_fillJars wsX0_addTaken := goodIn_r _ [55, 56, 10, 11, 12, 7, 13, 14, 63, 64, 65, 66, 67, 68, 69] (by decide +kernel) (by decide +kernel)
set_option maxRecDepth 20000 in
theorem gX2_fillJars_X0_addTaken : GoodIn wsX2_fillJars (wsV RX2 146 RX0 yX0_addTaken wsX0_addTaken) := goodIn_app (goodIn_of _ (by decide +kernel)) ggX2_fillJars_X0_addTaken
theorem dX2_fillJars_0 : decode cX2_fillJars 0 = .ok (.iconst 0, 1) := by decide +kernel
theorem dX2_fillJars_1 : decode cX2_fillJars 1 = .ok (.istore_n 1, 1) := by decide +kernel
theorem dX2_fillJars_2 : decode cX2_fillJars 2 = .ok (.iload_n 1, 1) := by decide +kernel
theorem dX2_fillJars_3 : decode cX2_fillJars 3 = .ok (.bipush 12, 2) := by decide +kernel
theorem dX2_fillJars_5 : decode cX2_fillJars 5 = .ok (.if_icmp .ge 53, 3) := by decide +kernel
theorem dX2_fillJars_8 : decode cX2_fillJars 8 = .ok (.aload_n 0, 1) := by decide +kernel
theorem dX2_fillJars_9 : decode cX2_fillJars 9 = .ok (.getfield 28, 3) := by decide +kernel
theorem dX2_fillJars_12 : decode cX2_fillJars 12 = .ok (.iload_n 1, 1) := by decide +kernel
theorem dX2_fillJars_13 : decode cX2_fillJars 13 = .ok (.invokevirtual 139, 3) := by decide +kernel
theorem dX2_fillJars_16 : decode cX2_fillJars 16 = .ok (.ifCond .eq 36, 3) := by decide +kernel
theorem dX2_fillJars_19 : decode cX2_fillJars 19 = .ok (.aload_n 0, 1) := by decide +kernel
theorem dX2_fillJars_20 : decode cX2_fillJars 20 = .ok (.getfield 21, 3) := by decide +kernel
theorem dX2_fillJars_23 : decode cX2_fillJars 23 = .ok (.aload_n 0, 1) := by decide +kernel
theorem dX2_fillJars_24 : decode cX2_fillJars 24 = .ok (.getfield 28, 3) := by decide +kernel
theorem dX2_fillJars_27 : decode cX2_fillJars 27 = .ok (.iload_n 1, 1) := by decide +kernel
theorem dX2_fillJars_28 : decode cX2_fillJars 28 = .ok (.invokevirtual 127, 3) := by decide +kernel
theorem dX2_fillJars_31 : decode cX2_fillJars 31 = .ok (.invokevirtual 53, 3) := by decide +kernel
theorem dX2_fillJars_34 : decode cX2_fillJars 34 = .ok (.istore_n 2, 1) := by decide +kernel
theorem dX2_fillJars_35 : decode cX2_fillJars 35 = .ok (.aload_n 0, 1) := by decide +kernel
theorem dX2_fillJars_36 : decode cX2_fillJars 36 = .ok (.getfield 28, 3) := by decide +kernel
theorem dX2_fillJars_39 : decode cX2_fillJars 39 = .ok (.iload_n 1, 1) := by decide +kernel
theorem dX2_fillJars_40 : decode cX2_fillJars 40 = .ok (.aload_n 0, 1) := by decide +kernel
theorem dX2_fillJars_41 : decode cX2_fillJars 41 = .ok (.getfield 12, 3) := by decide +kernel
theorem dX2_fillJars_44 : decode cX2_fillJars 44 = .ok (.iload_n 2, 1) := by decide +kernel
theorem dX2_fillJars_45 : decode cX2_fillJars 45 = .ok (.iconst 3, 1) := by decide +kernel
theorem dX2_fillJars_46 : decode cX2_fillJars 46 = .ok (.invokevirtual 142, 3) := by decide +kernel
theorem dX2_fillJars_49 : decode cX2_fillJars 49 = .ok (.invokevirtual 146, 3) := by decide +kernel
theorem dX2_fillJars_52 : decode cX2_fillJars 52 = .ok (.iinc 1 1, 3) := by decide +kernel
theorem dX2_fillJars_55 : decode cX2_fillJars 55 = .ok (.goto (-53), 3) := by decide +kernel
theorem dX2_fillJars_58 : decode cX2_fillJars 58 = .ok (.return_, 1) := by decide +kernel
set_option maxRecDepth 20000 in
theorem ggX2_searchJars_X3_many : GoodIn wsX2_searchJars wsX3_many := goodIn_r _ [9, 10, 28, 29, 30] (by decide +kernel) (by decide +kernel)
set_option maxRecDepth 20000 in
theorem gX2_searchJars_X3_many : GoodIn wsX2_searchJars (wsV RX2 77 RX3 yX3_many wsX3_many) := goodIn_app (goodIn_of _ (by decide +kernel)) ggX2_searchJars_X3_many
set_option maxRecDepth 20000 in
theorem ggX2_searchJars_X0_jarsIn : GoodIn wsX2_searchJars wsX0_jarsIn := goodIn_r _ [15, 16, 17, 31, 32, 33, 34, 35, 36, 37] (by decide +kernel) (by decide +kernel)
set_option maxRecDepth 20000 in
theorem gX2_searchJars_X0_jarsIn : GoodIn wsX2_searchJars (wsV RX2 67 RX0 yX0_jarsIn wsX0_jarsIn) := goodIn_app (goodIn_of _ (by decide +kernel)) ggX2_searchJars_X0_jarsIn
set_option maxRecDepth 20000 in
theorem ggX2_searchJars_X0_dropJarsIn : GoodIn wsX2_searchJars wsX0_dropJarsIn := goodIn_r _ [21, 17, 16, 31, 32, 33, 34, 35, 36, 37] (by decide +kernel) (by decide +kernel)
set_option maxRecDepth 20000 in
theorem gX2_searchJars_X0_dropJarsIn : GoodIn wsX2_searchJars (wsV RX2 149 RX0 yX0_dropJarsIn wsX0_dropJarsIn) := goodIn_app (goodIn_of _ (by decide +kernel)) ggX2_searchJars_X0_dropJarsIn
theorem dX2_searchJars_0 : decode cX2_searchJars 0 = .ok (.aload_n 0, 1) := by decide +kernel
theorem dX2_searchJars_1 : decode cX2_searchJars 1 = .ok (.getfield 21, 3) := by decide +kernel
theorem dX2_searchJars_4 : decode cX2_searchJars 4 = .ok (.invokevirtual 77, 3) := by decide +kernel
theorem dX2_searchJars_7 : decode cX2_searchJars 7 = .ok (.ifCond .le 41, 3) := by decide +kernel
theorem dX2_searchJars_10 : decode cX2_searchJars 10 = .ok (.aload_n 0, 1) := by decide +kernel
theorem dX2_searchJars_11 : decode cX2_searchJars 11 = .ok (.getfield 46, 3) := by decide +kernel
theorem dX2_searchJars_14 : decode cX2_searchJars 14 = .ok (.aload_n 0, 1) := by decide +kernel
theorem dX2_searchJars_15 : decode cX2_searchJars 15 = .ok (.getfield 21, 3) := by decide +kernel
theorem dX2_searchJars_18 : decode cX2_searchJars 18 = .ok (.invokevirtual 77, 3) := by decide +kernel
theorem dX2_searchJars_21 : decode cX2_searchJars 21 = .ok (.irem, 1) := by decide +kernel
theorem dX2_searchJars_22 : decode cX2_searchJars 22 = .ok (.istore_n 1, 1) := by decide +kernel
theorem dX2_searchJars_23 : decode cX2_searchJars 23 = .ok (.aload_n 0, 1) := by decide +kernel
theorem dX2_searchJars_24 : decode cX2_searchJars 24 = .ok (.dup, 1) := by decide +kernel
theorem dX2_searchJars_25 : decode cX2_searchJars 25 = .ok (.getfield 50, 3) := by decide +kernel
theorem dX2_searchJars_28 : decode cX2_searchJars 28 = .ok (.aload_n 0, 1) := by decide +kernel
theorem dX2_searchJars_29 : decode cX2_searchJars 29 = .ok (.getfield 28, 3) := by decide +kernel
theorem dX2_searchJars_32 : decode cX2_searchJars 32 = .ok (.iload_n 1, 1) := by decide +kernel
theorem dX2_searchJars_33 : decode cX2_searchJars 33 = .ok (.invokevirtual 67, 3) := by decide +kernel
theorem dX2_searchJars_36 : decode cX2_searchJars 36 = .ok (.iadd, 1) := by decide +kernel
theorem dX2_searchJars_37 : decode cX2_searchJars 37 = .ok (.putfield 50, 3) := by decide +kernel
theorem dX2_searchJars_40 : decode cX2_searchJars 40 = .ok (.aload_n 0, 1) := by decide +kernel
theorem dX2_searchJars_41 : decode cX2_searchJars 41 = .ok (.getfield 28, 3) := by decide +kernel
theorem dX2_searchJars_44 : decode cX2_searchJars 44 = .ok (.iload_n 1, 1) := by decide +kernel
theorem dX2_searchJars_45 : decode cX2_searchJars 45 = .ok (.invokevirtual 149, 3) := by decide +kernel
theorem dX2_searchJars_48 : decode cX2_searchJars 48 = .ok (.return_, 1) := by decide +kernel
set_option maxRecDepth 20000 in
theorem ggX2_growInTheDark_X2_isDarkColumn : GoodIn wsX2_growInTheDark wsX2_isDarkColumn := goodIn_r _ [6, 7, 29, 30, 31, 32, 33, 34] (by decide +kernel) (by decide +kernel)
set_option maxRecDepth 20000 in
theorem gX2_growInTheDark_X2_isDarkColumn : GoodIn wsX2_growInTheDark (wsV RX2 116 RX2 yX2_isDarkColumn wsX2_isDarkColumn) := goodIn_app (goodIn_of _ (by decide +kernel)) ggX2_growInTheDark_X2_isDarkColumn
set_option maxRecDepth 20000 in
theorem ggX2_growInTheDark_X1_grow : GoodIn wsX2_growInTheDark wsX1_grow := goodIn_r _ [12, 13, 14, 15, 11, 16, 17, 18, 19, 20, 21, 22, 23, 24, 25, 26, 27, 28, 35] (by decide +kernel) (by decide +kernel)
set_option maxRecDepth 20000 in
theorem gX2_growInTheDark_X1_grow : GoodIn wsX2_growInTheDark (wsV RX2 152 RX1 yX1_grow wsX1_grow) := goodIn_app (goodIn_of _ (by decide +kernel)) ggX2_growInTheDark_X1_grow
theorem dX2_growInTheDark_0 : decode cX2_growInTheDark 0 = .ok (.iconst 0, 1) := by decide +kernel
theorem dX2_growInTheDark_1 : decode cX2_growInTheDark 1 = .ok (.istore_n 1, 1) := by decide +kernel
theorem dX2_growInTheDark_2 : decode cX2_growInTheDark 2 = .ok (.iload_n 1, 1) := by decide +kernel
theorem dX2_growInTheDark_3 : decode cX2_growInTheDark 3 = .ok (.bipush 10, 2) := by decide +kernel
theorem dX2_growInTheDark_5 : decode cX2_growInTheDark 5 = .ok (.if_icmp .ge 25, 3) := by decide +kernel
theorem dX2_growInTheDark_8 : decode cX2_growInTheDark 8 = .ok (.aload_n 0, 1) := by decide +kernel
theorem dX2_growInTheDark_9 : decode cX2_growInTheDark 9 = .ok (.iload_n 1, 1) := by decide +kernel
theorem dX2_growInTheDark_10 : decode cX2_growInTheDark 10 = .ok (.invokevirtual 116, 3) := by decide +kernel
theorem dX2_growInTheDark_13 : decode cX2_growInTheDark 13 = .ok (.ifCond .eq 11, 3) := by decide +kernel
theorem dX2_growInTheDark_16 : decode cX2_growInTheDark 16 = .ok (.aload_n 0, 1) := by decide +kernel
theorem dX2_growInTheDark_17 : decode cX2_growInTheDark 17 = .ok (.getfield 12, 3) := by decide +kernel
theorem dX2_growInTheDark_20 : decode cX2_growInTheDark 20 = .ok (.iload_n 1, 1) := by decide +kernel
theorem dX2_growInTheDark_21 : decode cX2_growInTheDark 21 = .ok (.invokevirtual 152, 3) := by decide +kernel
theorem dX2_growInTheDark_24 : decode cX2_growInTheDark 24 = .ok (.iinc 1 1, 3) := by decide +kernel
theorem dX2_growInTheDark_27 : decode cX2_growInTheDark 27 = .ok (.goto (-25), 3) := by decide +kernel
theorem dX2_growInTheDark_30 : decode cX2_growInTheDark 30 = .ok (.return_, 1) := by decide +kernel
theorem dX3_init_0 : decode cX3_init 0 = .ok (.aload_n 0, 1) := by decide +kernel
theorem dX3_init_1 : decode cX3_init 1 = .ok (.invokespecial 3, 3) := by decide +kernel
theorem dX3_init_4 : decode cX3_init 4 = .ok (.aload_n 0, 1) := by decide +kernel
theorem dX3_init_5 : decode cX3_init 5 = .ok (.bipush 6, 2) := by decide +kernel
theorem dX3_init_7 : decode cX3_init 7 = .ok (.newarray .int, 2) := by decide +kernel
theorem dX3_init_9 : decode cX3_init 9 = .ok (.putfield 9, 3) := by decide +kernel
theorem dX3_init_12 : decode cX3_init 12 = .ok (.aload_n 0, 1) := by decide +kernel
theorem dX3_init_13 : decode cX3_init 13 = .ok (.bipush 6, 2) := by decide +kernel
theorem dX3_init_15 : decode cX3_init 15 = .ok (.newarray .boolean, 2) := by decide +kernel
theorem dX3_init_17 : decode cX3_init 17 = .ok (.putfield 15, 3) := by decide +kernel
theorem dX3_init_20 : decode cX3_init 20 = .ok (.return_, 1) := by decide +kernel
theorem dX3_many_0 : decode cX3_many 0 = .ok (.aload_n 0, 1) := by decide +kernel
theorem dX3_many_1 : decode cX3_many 1 = .ok (.getfield 19, 3) := by decide +kernel
theorem dX3_many_4 : decode cX3_many 4 = .ok (.ireturn, 1) := by decide +kernel
theorem dX3_isFull_0 : decode cX3_isFull 0 = .ok (.aload_n 0, 1) := by decide +kernel
theorem dX3_isFull_1 : decode cX3_isFull 1 = .ok (.getfield 19, 3) := by decide +kernel
theorem dX3_isFull_4 : decode cX3_isFull 4 = .ok (.bipush 6, 2) := by decide +kernel
theorem dX3_isFull_6 : decode cX3_isFull 6 = .ok (.if_icmp .lt 7, 3) := by decide +kernel
theorem dX3_isFull_9 : decode cX3_isFull 9 = .ok (.iconst 1, 1) := by decide +kernel
theorem dX3_isFull_10 : decode cX3_isFull 10 = .ok (.goto 4, 3) := by decide +kernel
theorem dX3_isFull_13 : decode cX3_isFull 13 = .ok (.iconst 0, 1) := by decide +kernel
theorem dX3_isFull_14 : decode cX3_isFull 14 = .ok (.ireturn, 1) := by decide +kernel
theorem dX3_has_0 : decode cX3_has 0 = .ok (.iload_n 1, 1) := by decide +kernel
theorem dX3_has_1 : decode cX3_has 1 = .ok (.ifCond .lt 21, 3) := by decide +kernel
theorem dX3_has_4 : decode cX3_has 4 = .ok (.iload_n 1, 1) := by decide +kernel
theorem dX3_has_5 : decode cX3_has 5 = .ok (.aload_n 0, 1) := by decide +kernel
theorem dX3_has_6 : decode cX3_has 6 = .ok (.getfield 19, 3) := by decide +kernel
theorem dX3_has_9 : decode cX3_has 9 = .ok (.if_icmp .ge 13, 3) := by decide +kernel
theorem dX3_has_12 : decode cX3_has 12 = .ok (.iload_n 1, 1) := by decide +kernel
theorem dX3_has_13 : decode cX3_has 13 = .ok (.bipush 6, 2) := by decide +kernel
theorem dX3_has_15 : decode cX3_has 15 = .ok (.if_icmp .ge 7, 3) := by decide +kernel
theorem dX3_has_18 : decode cX3_has 18 = .ok (.iconst 1, 1) := by decide +kernel
theorem dX3_has_19 : decode cX3_has 19 = .ok (.goto 4, 3) := by decide +kernel
theorem dX3_has_22 : decode cX3_has 22 = .ok (.iconst 0, 1) := by decide +kernel
theorem dX3_has_23 : decode cX3_has 23 = .ok (.ireturn, 1) := by decide +kernel
theorem dX3_add_0 : decode cX3_add 0 = .ok (.aload_n 0, 1) := by decide +kernel
theorem dX3_add_1 : decode cX3_add 1 = .ok (.getfield 19, 3) := by decide +kernel
theorem dX3_add_4 : decode cX3_add 4 = .ok (.istore_n 2, 1) := by decide +kernel
theorem dX3_add_5 : decode cX3_add 5 = .ok (.iload_n 2, 1) := by decide +kernel
theorem dX3_add_6 : decode cX3_add 6 = .ok (.ifCond .lt 30, 3) := by decide +kernel
theorem dX3_add_9 : decode cX3_add 9 = .ok (.iload_n 2, 1) := by decide +kernel
theorem dX3_add_10 : decode cX3_add 10 = .ok (.bipush 6, 2) := by decide +kernel
theorem dX3_add_12 : decode cX3_add 12 = .ok (.if_icmp .ge 24, 3) := by decide +kernel
theorem dX3_add_15 : decode cX3_add 15 = .ok (.aload_n 0, 1) := by decide +kernel
theorem dX3_add_16 : decode cX3_add 16 = .ok (.getfield 9, 3) := by decide +kernel
theorem dX3_add_19 : decode cX3_add 19 = .ok (.iload_n 2, 1) := by decide +kernel
theorem dX3_add_20 : decode cX3_add 20 = .ok (.iload_n 1, 1) := by decide +kernel
theorem dX3_add_21 : decode cX3_add 21 = .ok (.iastore, 1) := by decide +kernel
theorem dX3_add_22 : decode cX3_add 22 = .ok (.aload_n 0, 1) := by decide +kernel
theorem dX3_add_23 : decode cX3_add 23 = .ok (.getfield 15, 3) := by decide +kernel
theorem dX3_add_26 : decode cX3_add 26 = .ok (.iload_n 2, 1) := by decide +kernel
theorem dX3_add_27 : decode cX3_add 27 = .ok (.iconst 1, 1) := by decide +kernel
theorem dX3_add_28 : decode cX3_add 28 = .ok (.bastore, 1) := by decide +kernel
theorem dX3_add_29 : decode cX3_add 29 = .ok (.aload_n 0, 1) := by decide +kernel
theorem dX3_add_30 : decode cX3_add 30 = .ok (.iload_n 2, 1) := by decide +kernel
theorem dX3_add_31 : decode cX3_add 31 = .ok (.iconst 1, 1) := by decide +kernel
theorem dX3_add_32 : decode cX3_add 32 = .ok (.iadd, 1) := by decide +kernel
theorem dX3_add_33 : decode cX3_add 33 = .ok (.putfield 19, 3) := by decide +kernel
theorem dX3_add_36 : decode cX3_add 36 = .ok (.iload_n 2, 1) := by decide +kernel
theorem dX3_add_37 : decode cX3_add 37 = .ok (.ireturn, 1) := by decide +kernel
set_option maxRecDepth 20000 in
theorem ggX3_windowOf_X3_has : GoodIn wsX3_windowOf wsX3_has := goodIn_r _ [6, 7, 8, 9, 10] (by decide +kernel) (by decide +kernel)
set_option maxRecDepth 20000 in
theorem gX3_windowOf_X3_has : GoodIn wsX3_windowOf (wsV RX3 23 RX3 yX3_has wsX3_has) := goodIn_app (goodIn_of _ (by decide +kernel)) ggX3_windowOf_X3_has
theorem dX3_windowOf_0 : decode cX3_windowOf 0 = .ok (.aload_n 0, 1) := by decide +kernel
theorem dX3_windowOf_1 : decode cX3_windowOf 1 = .ok (.iload_n 1, 1) := by decide +kernel
theorem dX3_windowOf_2 : decode cX3_windowOf 2 = .ok (.invokevirtual 23, 3) := by decide +kernel
theorem dX3_windowOf_5 : decode cX3_windowOf 5 = .ok (.ifCond .eq 12, 3) := by decide +kernel
theorem dX3_windowOf_8 : decode cX3_windowOf 8 = .ok (.aload_n 0, 1) := by decide +kernel
theorem dX3_windowOf_9 : decode cX3_windowOf 9 = .ok (.getfield 9, 3) := by decide +kernel
theorem dX3_windowOf_12 : decode cX3_windowOf 12 = .ok (.iload_n 1, 1) := by decide +kernel
theorem dX3_windowOf_13 : decode cX3_windowOf 13 = .ok (.iaload, 1) := by decide +kernel
theorem dX3_windowOf_14 : decode cX3_windowOf 14 = .ok (.goto 4, 3) := by decide +kernel
theorem dX3_windowOf_17 : decode cX3_windowOf 17 = .ok (.iconst (-1), 1) := by decide +kernel
theorem dX3_windowOf_18 : decode cX3_windowOf 18 = .ok (.ireturn, 1) := by decide +kernel
set_option maxRecDepth 20000 in
theorem ggX3_isBurning_X3_has : GoodIn wsX3_isBurning wsX3_has := goodIn_r _ [6, 7, 8, 9, 10] (by decide +kernel) (by decide +kernel)
set_option maxRecDepth 20000 in
theorem gX3_isBurning_X3_has : GoodIn wsX3_isBurning (wsV RX3 23 RX3 yX3_has wsX3_has) := goodIn_app (goodIn_of _ (by decide +kernel)) ggX3_isBurning_X3_has
theorem dX3_isBurning_0 : decode cX3_isBurning 0 = .ok (.aload_n 0, 1) := by decide +kernel
theorem dX3_isBurning_1 : decode cX3_isBurning 1 = .ok (.iload_n 1, 1) := by decide +kernel
theorem dX3_isBurning_2 : decode cX3_isBurning 2 = .ok (.invokevirtual 23, 3) := by decide +kernel
theorem dX3_isBurning_5 : decode cX3_isBurning 5 = .ok (.ifCond .eq 16, 3) := by decide +kernel
theorem dX3_isBurning_8 : decode cX3_isBurning 8 = .ok (.aload_n 0, 1) := by decide +kernel
theorem dX3_isBurning_9 : decode cX3_isBurning 9 = .ok (.getfield 15, 3) := by decide +kernel
theorem dX3_isBurning_12 : decode cX3_isBurning 12 = .ok (.iload_n 1, 1) := by decide +kernel
theorem dX3_isBurning_13 : decode cX3_isBurning 13 = .ok (.baload, 1) := by decide +kernel
theorem dX3_isBurning_14 : decode cX3_isBurning 14 = .ok (.ifCond .eq 7, 3) := by decide +kernel
theorem dX3_isBurning_17 : decode cX3_isBurning 17 = .ok (.iconst 1, 1) := by decide +kernel
theorem dX3_isBurning_18 : decode cX3_isBurning 18 = .ok (.goto 4, 3) := by decide +kernel
theorem dX3_isBurning_21 : decode cX3_isBurning 21 = .ok (.iconst 0, 1) := by decide +kernel
theorem dX3_isBurning_22 : decode cX3_isBurning 22 = .ok (.ireturn, 1) := by decide +kernel
set_option maxRecDepth 20000 in
theorem ggX3_setBurning_X3_has : GoodIn wsX3_setBurning wsX3_has := goodIn_r _ [6, 7, 8, 9, 10] (by decide +kernel) (by decide +kernel)
set_option maxRecDepth 20000 in
theorem gX3_setBurning_X3_has : GoodIn wsX3_setBurning (wsV RX3 23 RX3 yX3_has wsX3_has) := goodIn_app (goodIn_of _ (by decide +kernel)) ggX3_setBurning_X3_has
theorem dX3_setBurning_0 : decode cX3_setBurning 0 = .ok (.aload_n 0, 1) := by decide +kernel
theorem dX3_setBurning_1 : decode cX3_setBurning 1 = .ok (.iload_n 1, 1) := by decide +kernel
theorem dX3_setBurning_2 : decode cX3_setBurning 2 = .ok (.invokevirtual 23, 3) := by decide +kernel
theorem dX3_setBurning_5 : decode cX3_setBurning 5 = .ok (.ifCond .eq 10, 3) := by decide +kernel
theorem dX3_setBurning_8 : decode cX3_setBurning 8 = .ok (.aload_n 0, 1) := by decide +kernel
theorem dX3_setBurning_9 : decode cX3_setBurning 9 = .ok (.getfield 15, 3) := by decide +kernel
theorem dX3_setBurning_12 : decode cX3_setBurning 12 = .ok (.iload_n 1, 1) := by decide +kernel
theorem dX3_setBurning_13 : decode cX3_setBurning 13 = .ok (.iload_n 2, 1) := by decide +kernel
theorem dX3_setBurning_14 : decode cX3_setBurning 14 = .ok (.bastore, 1) := by decide +kernel
theorem dX3_setBurning_15 : decode cX3_setBurning 15 = .ok (.return_, 1) := by decide +kernel
set_option maxRecDepth 20000 in
theorem ggX3_lampsBurning_X4_countTrue : GoodIn wsX3_lampsBurning wsX4_countTrue := goodIn_r _ [4] (by decide +kernel) (by decide +kernel)
set_option maxRecDepth 20000 in
theorem gX3_lampsBurning_X4_countTrue_n27 : GoodIn wsX3_lampsBurning (wsX4_countTrue) := ggX3_lampsBurning_X4_countTrue
theorem dX3_lampsBurning_0 : decode cX3_lampsBurning 0 = .ok (.aload_n 0, 1) := by decide +kernel
theorem dX3_lampsBurning_1 : decode cX3_lampsBurning 1 = .ok (.getfield 15, 3) := by decide +kernel
theorem dX3_lampsBurning_4 : decode cX3_lampsBurning 4 = .ok (.invokestatic 27, 3) := by decide +kernel
theorem dX3_lampsBurning_7 : decode cX3_lampsBurning 7 = .ok (.ireturn, 1) := by decide +kernel
theorem dX3_shineOn_0 : decode cX3_shineOn 0 = .ok (.iconst 0, 1) := by decide +kernel
theorem dX3_shineOn_1 : decode cX3_shineOn 1 = .ok (.istore_n 2, 1) := by decide +kernel
theorem dX3_shineOn_2 : decode cX3_shineOn 2 = .ok (.iload_n 2, 1) := by decide +kernel
theorem dX3_shineOn_3 : decode cX3_shineOn 3 = .ok (.bipush 6, 2) := by decide +kernel
theorem dX3_shineOn_5 : decode cX3_shineOn 5 = .ok (.if_icmp .ge 35, 3) := by decide +kernel
theorem dX3_shineOn_8 : decode cX3_shineOn 8 = .ok (.aload_n 0, 1) := by decide +kernel
theorem dX3_shineOn_9 : decode cX3_shineOn 9 = .ok (.getfield 15, 3) := by decide +kernel
theorem dX3_shineOn_12 : decode cX3_shineOn 12 = .ok (.iload_n 2, 1) := by decide +kernel
theorem dX3_shineOn_13 : decode cX3_shineOn 13 = .ok (.baload, 1) := by decide +kernel
theorem dX3_shineOn_14 : decode cX3_shineOn 14 = .ok (.ifCond .eq 20, 3) := by decide +kernel
theorem dX3_shineOn_17 : decode cX3_shineOn 17 = .ok (.aload_n 0, 1) := by decide +kernel
theorem dX3_shineOn_18 : decode cX3_shineOn 18 = .ok (.getfield 9, 3) := by decide +kernel
theorem dX3_shineOn_21 : decode cX3_shineOn 21 = .ok (.iload_n 2, 1) := by decide +kernel
theorem dX3_shineOn_22 : decode cX3_shineOn 22 = .ok (.iaload, 1) := by decide +kernel
theorem dX3_shineOn_23 : decode cX3_shineOn 23 = .ok (.iload_n 1, 1) := by decide +kernel
theorem dX3_shineOn_24 : decode cX3_shineOn 24 = .ok (.isub, 1) := by decide +kernel
theorem dX3_shineOn_25 : decode cX3_shineOn 25 = .ok (.invokestatic 31, 3) := by decide +kernel
theorem dX3_shineOn_28 : decode cX3_shineOn 28 = .ok (.iconst 1, 1) := by decide +kernel
theorem dX3_shineOn_29 : decode cX3_shineOn 29 = .ok (.if_icmp .gt 5, 3) := by decide +kernel
theorem dX3_shineOn_32 : decode cX3_shineOn 32 = .ok (.iconst 1, 1) := by decide +kernel
theorem dX3_shineOn_33 : decode cX3_shineOn 33 = .ok (.ireturn, 1) := by decide +kernel
theorem dX3_shineOn_34 : decode cX3_shineOn 34 = .ok (.iinc 2 1, 3) := by decide +kernel
theorem dX3_shineOn_37 : decode cX3_shineOn 37 = .ok (.goto (-35), 3) := by decide +kernel
theorem dX3_shineOn_40 : decode cX3_shineOn 40 = .ok (.iconst 0, 1) := by decide +kernel
theorem dX3_shineOn_41 : decode cX3_shineOn 41 = .ok (.ireturn, 1) := by decide +kernel
theorem dX3_copyFrom_0 : decode cX3_copyFrom 0 = .ok (.iconst 0, 1) := by decide +kernel
theorem dX3_copyFrom_1 : decode cX3_copyFrom 1 = .ok (.istore_n 2, 1) := by decide +kernel
theorem dX3_copyFrom_2 : decode cX3_copyFrom 2 = .ok (.iload_n 2, 1) := by decide +kernel
theorem dX3_copyFrom_3 : decode cX3_copyFrom 3 = .ok (.bipush 6, 2) := by decide +kernel
theorem dX3_copyFrom_5 : decode cX3_copyFrom 5 = .ok (.if_icmp .ge 33, 3) := by decide +kernel
theorem dX3_copyFrom_8 : decode cX3_copyFrom 8 = .ok (.aload_n 0, 1) := by decide +kernel
theorem dX3_copyFrom_9 : decode cX3_copyFrom 9 = .ok (.getfield 9, 3) := by decide +kernel
theorem dX3_copyFrom_12 : decode cX3_copyFrom 12 = .ok (.iload_n 2, 1) := by decide +kernel
theorem dX3_copyFrom_13 : decode cX3_copyFrom 13 = .ok (.aload_n 1, 1) := by decide +kernel
theorem dX3_copyFrom_14 : decode cX3_copyFrom 14 = .ok (.getfield 9, 3) := by decide +kernel
theorem dX3_copyFrom_17 : decode cX3_copyFrom 17 = .ok (.iload_n 2, 1) := by decide +kernel
theorem dX3_copyFrom_18 : decode cX3_copyFrom 18 = .ok (.iaload, 1) := by decide +kernel
theorem dX3_copyFrom_19 : decode cX3_copyFrom 19 = .ok (.iastore, 1) := by decide +kernel
theorem dX3_copyFrom_20 : decode cX3_copyFrom 20 = .ok (.aload_n 0, 1) := by decide +kernel
theorem dX3_copyFrom_21 : decode cX3_copyFrom 21 = .ok (.getfield 15, 3) := by decide +kernel
theorem dX3_copyFrom_24 : decode cX3_copyFrom 24 = .ok (.iload_n 2, 1) := by decide +kernel
theorem dX3_copyFrom_25 : decode cX3_copyFrom 25 = .ok (.aload_n 1, 1) := by decide +kernel
theorem dX3_copyFrom_26 : decode cX3_copyFrom 26 = .ok (.getfield 15, 3) := by decide +kernel
theorem dX3_copyFrom_29 : decode cX3_copyFrom 29 = .ok (.iload_n 2, 1) := by decide +kernel
theorem dX3_copyFrom_30 : decode cX3_copyFrom 30 = .ok (.baload, 1) := by decide +kernel
theorem dX3_copyFrom_31 : decode cX3_copyFrom 31 = .ok (.bastore, 1) := by decide +kernel
theorem dX3_copyFrom_32 : decode cX3_copyFrom 32 = .ok (.iinc 2 1, 3) := by decide +kernel
theorem dX3_copyFrom_35 : decode cX3_copyFrom 35 = .ok (.goto (-33), 3) := by decide +kernel
theorem dX3_copyFrom_38 : decode cX3_copyFrom 38 = .ok (.aload_n 0, 1) := by decide +kernel
theorem dX3_copyFrom_39 : decode cX3_copyFrom 39 = .ok (.aload_n 1, 1) := by decide +kernel
theorem dX3_copyFrom_40 : decode cX3_copyFrom 40 = .ok (.getfield 19, 3) := by decide +kernel
theorem dX3_copyFrom_43 : decode cX3_copyFrom 43 = .ok (.putfield 19, 3) := by decide +kernel
theorem dX3_copyFrom_46 : decode cX3_copyFrom 46 = .ok (.return_, 1) := by decide +kernel
set_option maxRecDepth 20000 in
theorem ggX4_init_X2_init : GoodIn wsX4_init wsX2_init := goodIn_r _ [10, 11, 2, 3, 12, 13, 14, 15, 16, 17, 18, 19, 20, 21, 22, 23, 24, 25, 26, 27, 28, 29, 30, 31, 32, 33, 34, 35, 36, 37, 38, 39, 40, 41, 42, 43, 44, 53, 45, 46, 47, 48, 49, 50, 54, 55, 56, 57, 58, 59, 60, 61, 62, 63] (by decide +kernel) (by decide +kernel)
set_option maxRecDepth 20000 in
theorem gX4_init_X2_init_n11 : GoodIn wsX4_init (wsX2_init) := ggX4_init_X2_init
theorem dX4_init_0 : decode cX4_init 0 = .ok (.aload_n 0, 1) := by decide +kernel
theorem dX4_init_1 : decode cX4_init 1 = .ok (.invokespecial 3, 3) := by decide +kernel
theorem dX4_init_4 : decode cX4_init 4 = .ok (.aload_n 0, 1) := by decide +kernel
theorem dX4_init_5 : decode cX4_init 5 = .ok (.new 9, 3) := by decide +kernel
theorem dX4_init_8 : decode cX4_init 8 = .ok (.dup, 1) := by decide +kernel
theorem dX4_init_9 : decode cX4_init 9 = .ok (.invokespecial 11, 3) := by decide +kernel
theorem dX4_init_12 : decode cX4_init 12 = .ok (.putfield 12, 3) := by decide +kernel
theorem dX4_init_15 : decode cX4_init 15 = .ok (.aload_n 0, 1) := by decide +kernel
theorem dX4_init_16 : decode cX4_init 16 = .ok (.new 9, 3) := by decide +kernel
theorem dX4_init_19 : decode cX4_init 19 = .ok (.dup, 1) := by decide +kernel
theorem dX4_init_20 : decode cX4_init 20 = .ok (.invokespecial 11, 3) := by decide +kernel
theorem dX4_init_23 : decode cX4_init 23 = .ok (.putfield 16, 3) := by decide +kernel
theorem dX4_init_26 : decode cX4_init 26 = .ok (.return_, 1) := by decide +kernel
set_option maxRecDepth 20000 in
theorem ggX4_swarm_X4_needIndex : GoodIn wsX4_swarm wsX4_needIndex := goodIn_ca (goodIn_r _ [5, 6, 7] (by decide +kernel) (by decide +kernel)) (goodIn_sub (fun _ h => List.mem_cons_of_mem _ (List.mem_append_left _ (List.mem_append_right _ h))) (by decide +kernel))
set_option maxRecDepth 20000 in
theorem gX4_swarm_X4_needIndex : GoodIn wsX4_swarm (va_wsS RX4 19 yX4_needIndex wsX4_needIndex) := goodIn_app (goodIn_of _ (by decide +kernel)) ggX4_swarm_X4_needIndex
set_option maxRecDepth 20000 in
theorem ggX4_swarm_X4_needArgument : GoodIn wsX4_swarm wsX4_needArgument := goodIn_ca (goodIn_r _ [10, 11, 12] (by decide +kernel) (by decide +kernel)) (goodIn_sub (fun _ h => List.mem_cons_of_mem _ (List.mem_append_right _ h)) (by decide +kernel))
set_option maxRecDepth 20000 in
theorem gX4_swarm_X4_needArgument : GoodIn wsX4_swarm (va_wsS RX4 23 yX4_needArgument wsX4_needArgument) := goodIn_app (goodIn_of _ (by decide +kernel)) ggX4_swarm_X4_needArgument
set_option maxRecDepth 20000 in
theorem ggX4_swarm_X1_at : GoodIn wsX4_swarm wsX1_at := goodIn_r _ [17, 18, 19, 20, 16, 21, 38] (by decide +kernel) (by decide +kernel)
set_option maxRecDepth 20000 in
theorem gX4_swarm_X1_at : GoodIn wsX4_swarm (wsV RX4 31 RX1 yX1_at wsX1_at) := goodIn_app (goodIn_of _ (by decide +kernel)) ggX4_swarm_X1_at
set_option maxRecDepth 20000 in
theorem ggX4_swarm_X1_put : GoodIn wsX4_swarm wsX1_put := goodIn_r _ [25, 18, 26, 27, 28, 29, 19, 20, 16, 21, 38] (by decide +kernel) (by decide +kernel)
set_option maxRecDepth 20000 in
theorem gX4_swarm_X1_put : GoodIn wsX4_swarm (wsV RX4 37 RX1 yX1_put wsX1_put) := goodIn_app (goodIn_of _ (by decide +kernel)) ggX4_swarm_X1_put
theorem dX4_swarm_0 : decode cX4_swarm 0 = .ok (.iload_n 1, 1) := by decide +kernel
theorem dX4_swarm_1 : decode cX4_swarm 1 = .ok (.bipush 9, 2) := by decide +kernel
theorem dX4_swarm_3 : decode cX4_swarm 3 = .ok (.invokestatic 19, 3) := by decide +kernel
theorem dX4_swarm_6 : decode cX4_swarm 6 = .ok (.iload_n 2, 1) := by decide +kernel
theorem dX4_swarm_7 : decode cX4_swarm 7 = .ok (.iconst 4, 1) := by decide +kernel
theorem dX4_swarm_8 : decode cX4_swarm 8 = .ok (.invokestatic 19, 3) := by decide +kernel
theorem dX4_swarm_11 : decode cX4_swarm 11 = .ok (.iload_n 3, 1) := by decide +kernel
theorem dX4_swarm_12 : decode cX4_swarm 12 = .ok (.iconst 0, 1) := by decide +kernel
theorem dX4_swarm_13 : decode cX4_swarm 13 = .ok (.bipush 40, 2) := by decide +kernel
theorem dX4_swarm_15 : decode cX4_swarm 15 = .ok (.invokestatic 23, 3) := by decide +kernel
theorem dX4_swarm_18 : decode cX4_swarm 18 = .ok (.aload_n 0, 1) := by decide +kernel
theorem dX4_swarm_19 : decode cX4_swarm 19 = .ok (.getfield 12, 3) := by decide +kernel
theorem dX4_swarm_22 : decode cX4_swarm 22 = .ok (.getfield 27, 3) := by decide +kernel
theorem dX4_swarm_25 : decode cX4_swarm 25 = .ok (.iload_n 1, 1) := by decide +kernel
theorem dX4_swarm_26 : decode cX4_swarm 26 = .ok (.iload_n 2, 1) := by decide +kernel
theorem dX4_swarm_27 : decode cX4_swarm 27 = .ok (.invokevirtual 31, 3) := by decide +kernel
theorem dX4_swarm_30 : decode cX4_swarm 30 = .ok (.istore 4, 2) := by decide +kernel
theorem dX4_swarm_32 : decode cX4_swarm 32 = .ok (.aload_n 0, 1) := by decide +kernel
theorem dX4_swarm_33 : decode cX4_swarm 33 = .ok (.getfield 12, 3) := by decide +kernel
theorem dX4_swarm_36 : decode cX4_swarm 36 = .ok (.getfield 27, 3) := by decide +kernel
theorem dX4_swarm_39 : decode cX4_swarm 39 = .ok (.iload_n 1, 1) := by decide +kernel
theorem dX4_swarm_40 : decode cX4_swarm 40 = .ok (.iload_n 2, 1) := by decide +kernel
theorem dX4_swarm_41 : decode cX4_swarm 41 = .ok (.iload_n 3, 1) := by decide +kernel
theorem dX4_swarm_42 : decode cX4_swarm 42 = .ok (.invokevirtual 37, 3) := by decide +kernel
theorem dX4_swarm_45 : decode cX4_swarm 45 = .ok (.iload 4, 2) := by decide +kernel
theorem dX4_swarm_47 : decode cX4_swarm 47 = .ok (.ireturn, 1) := by decide +kernel
set_option maxRecDepth 20000 in
theorem ggX4_cell_X4_needIndex : GoodIn wsX4_cell wsX4_needIndex := goodIn_ca (goodIn_r _ [5, 6, 7] (by decide +kernel) (by decide +kernel)) (goodIn_sub (fun _ h => List.mem_cons_of_mem _ (List.mem_append_right _ h)) (by decide +kernel))
set_option maxRecDepth 20000 in
theorem gX4_cell_X4_needIndex : GoodIn wsX4_cell (va_wsS RX4 19 yX4_needIndex wsX4_needIndex) := goodIn_app (goodIn_of _ (by decide +kernel)) ggX4_cell_X4_needIndex
set_option maxRecDepth 20000 in
theorem ggX4_cell_X1_at : GoodIn wsX4_cell wsX1_at := goodIn_r _ [12, 13, 14, 15, 11, 16, 25] (by decide +kernel) (by decide +kernel)
set_option maxRecDepth 20000 in
theorem gX4_cell_X1_at : GoodIn wsX4_cell (wsV RX4 31 RX1 yX1_at wsX1_at) := goodIn_app (goodIn_of _ (by decide +kernel)) ggX4_cell_X1_at
theorem dX4_cell_0 : decode cX4_cell 0 = .ok (.iload_n 1, 1) := by decide +kernel
theorem dX4_cell_1 : decode cX4_cell 1 = .ok (.bipush 9, 2) := by decide +kernel
theorem dX4_cell_3 : decode cX4_cell 3 = .ok (.invokestatic 19, 3) := by decide +kernel
theorem dX4_cell_6 : decode cX4_cell 6 = .ok (.iload_n 2, 1) := by decide +kernel
theorem dX4_cell_7 : decode cX4_cell 7 = .ok (.iconst 4, 1) := by decide +kernel
theorem dX4_cell_8 : decode cX4_cell 8 = .ok (.invokestatic 19, 3) := by decide +kernel
theorem dX4_cell_11 : decode cX4_cell 11 = .ok (.aload_n 0, 1) := by decide +kernel
theorem dX4_cell_12 : decode cX4_cell 12 = .ok (.getfield 12, 3) := by decide +kernel
theorem dX4_cell_15 : decode cX4_cell 15 = .ok (.getfield 27, 3) := by decide +kernel
theorem dX4_cell_18 : decode cX4_cell 18 = .ok (.iload_n 1, 1) := by decide +kernel
theorem dX4_cell_19 : decode cX4_cell 19 = .ok (.iload_n 2, 1) := by decide +kernel
theorem dX4_cell_20 : decode cX4_cell 20 = .ok (.invokevirtual 31, 3) := by decide +kernel
theorem dX4_cell_23 : decode cX4_cell 23 = .ok (.ireturn, 1) := by decide +kernel
set_option maxRecDepth 20000 in
theorem ggX4_open_X4_needArgument : GoodIn wsX4_open wsX4_needArgument := goodIn_ca (goodIn_r _ [7, 8, 9] (by decide +kernel) (by decide +kernel)) (goodIn_sub (fun _ h => List.mem_cons_of_mem _ (List.mem_append_right _ h)) (by decide +kernel))
set_option maxRecDepth 20000 in
theorem gX4_open_X4_needArgument : GoodIn wsX4_open (va_wsS RX4 23 yX4_needArgument wsX4_needArgument) := goodIn_app (goodIn_of _ (by decide +kernel)) ggX4_open_X4_needArgument
set_option maxRecDepth 20000 in
theorem ggX4_open_X3_isFull : GoodIn wsX4_open wsX3_isFull := goodIn_r _ [14, 15, 30, 31, 32] (by decide +kernel) (by decide +kernel)
set_option maxRecDepth 20000 in
theorem gX4_open_X3_isFull : GoodIn wsX4_open (wsV RX4 44 RX3 yX3_isFull wsX3_isFull) := goodIn_app (goodIn_of _ (by decide +kernel)) ggX4_open_X3_isFull
set_option maxRecDepth 20000 in
theorem ggX4_open_X3_add : GoodIn wsX4_open wsX3_add := goodIn_r _ [19, 15, 20, 21, 30, 31, 32] (by decide +kernel) (by decide +kernel)
set_option maxRecDepth 20000 in
theorem gX4_open_X3_add : GoodIn wsX4_open (wsV RX4 57 RX3 yX3_add wsX3_add) := goodIn_app (goodIn_of _ (by decide +kernel)) ggX4_open_X3_add
theorem dX4_open_0 : decode cX4_open 0 = .ok (.iload_n 1, 1) := by decide +kernel
theorem dX4_open_1 : decode cX4_open 1 = .ok (.iconst 0, 1) := by decide +kernel
theorem dX4_open_2 : decode cX4_open 2 = .ok (.bipush 9, 2) := by decide +kernel
theorem dX4_open_4 : decode cX4_open 4 = .ok (.invokestatic 23, 3) := by decide +kernel
theorem dX4_open_7 : decode cX4_open 7 = .ok (.aload_n 0, 1) := by decide +kernel
theorem dX4_open_8 : decode cX4_open 8 = .ok (.getfield 12, 3) := by decide +kernel
theorem dX4_open_11 : decode cX4_open 11 = .ok (.getfield 40, 3) := by decide +kernel
theorem dX4_open_14 : decode cX4_open 14 = .ok (.invokevirtual 44, 3) := by decide +kernel
theorem dX4_open_17 : decode cX4_open 17 = .ok (.ifCond .eq 13, 3) := by decide +kernel
theorem dX4_open_20 : decode cX4_open 20 = .ok (.new 50, 3) := by decide +kernel
theorem dX4_open_23 : decode cX4_open 23 = .ok (.dup, 1) := by decide +kernel
theorem dX4_open_24 : decode cX4_open 24 = .ok (.ldc 52, 2) := by decide +kernel
theorem dX4_open_26 : decode cX4_open 26 = .ok (.invokespecial 54, 3) := by decide +kernel
theorem dX4_open_29 : decode cX4_open 29 = .ok (.athrow, 1) := by decide +kernel
theorem dX4_open_30 : decode cX4_open 30 = .ok (.aload_n 0, 1) := by decide +kernel
theorem dX4_open_31 : decode cX4_open 31 = .ok (.getfield 12, 3) := by decide +kernel
theorem dX4_open_34 : decode cX4_open 34 = .ok (.getfield 40, 3) := by decide +kernel
theorem dX4_open_37 : decode cX4_open 37 = .ok (.iload_n 1, 1) := by decide +kernel
theorem dX4_open_38 : decode cX4_open 38 = .ok (.invokevirtual 57, 3) := by decide +kernel
theorem dX4_open_41 : decode cX4_open 41 = .ok (.ireturn, 1) := by decide +kernel
set_option maxRecDepth 20000 in
theorem ggX4_lamp_X4_needRoom : GoodIn wsX4_lamp wsX4_needRoom := goodIn_ca (goodIn_r _ [6, 7, 8, 1, 9, 10, 11, 12, 13, 14, 25, 26, 27, 28, 29, 30, 31, 32, 33, 34, 35] (by decide +kernel) (by decide +kernel)) (goodIn_sub (fun _ h => List.mem_cons_of_mem _ (List.mem_append_right _ h)) (by decide +kernel))
set_option maxRecDepth 20000 in
theorem gX4_lamp_X4_needRoom : GoodIn wsX4_lamp (wsV RX4 61 RX4 yX4_needRoom wsX4_needRoom) := goodIn_app (goodIn_of _ (by decide +kernel)) ggX4_lamp_X4_needRoom
set_option maxRecDepth 20000 in
theorem ggX4_lamp_X3_isBurning : GoodIn wsX4_lamp wsX3_isBurning := goodIn_r _ [18, 19, 20, 10, 11, 12, 13, 14, 33, 34, 35] (by decide +kernel) (by decide +kernel)
set_option maxRecDepth 20000 in
theorem gX4_lamp_X3_isBurning : GoodIn wsX4_lamp (wsV RX4 65 RX3 yX3_isBurning wsX3_isBurning) := goodIn_app (goodIn_of _ (by decide +kernel)) ggX4_lamp_X3_isBurning
set_option maxRecDepth 20000 in
theorem ggX4_lamp_X3_setBurning : GoodIn wsX4_lamp wsX3_setBurning := goodIn_r _ [24, 19, 20, 10, 11, 12, 13, 14, 33, 34, 35] (by decide +kernel) (by decide +kernel)
set_option maxRecDepth 20000 in
theorem gX4_lamp_X3_setBurning : GoodIn wsX4_lamp (wsV RX4 69 RX3 yX3_setBurning wsX3_setBurning) := goodIn_app (goodIn_of _ (by decide +kernel)) ggX4_lamp_X3_setBurning
theorem dX4_lamp_0 : decode cX4_lamp 0 = .ok (.aload_n 0, 1) := by decide +kernel
theorem dX4_lamp_1 : decode cX4_lamp 1 = .ok (.iload_n 1, 1) := by decide +kernel
theorem dX4_lamp_2 : decode cX4_lamp 2 = .ok (.invokevirtual 61, 3) := by decide +kernel
theorem dX4_lamp_5 : decode cX4_lamp 5 = .ok (.aload_n 0, 1) := by decide +kernel
theorem dX4_lamp_6 : decode cX4_lamp 6 = .ok (.getfield 12, 3) := by decide +kernel
theorem dX4_lamp_9 : decode cX4_lamp 9 = .ok (.getfield 40, 3) := by decide +kernel
theorem dX4_lamp_12 : decode cX4_lamp 12 = .ok (.iload_n 1, 1) := by decide +kernel
theorem dX4_lamp_13 : decode cX4_lamp 13 = .ok (.aload_n 0, 1) := by decide +kernel
theorem dX4_lamp_14 : decode cX4_lamp 14 = .ok (.getfield 12, 3) := by decide +kernel
theorem dX4_lamp_17 : decode cX4_lamp 17 = .ok (.getfield 40, 3) := by decide +kernel
theorem dX4_lamp_20 : decode cX4_lamp 20 = .ok (.iload_n 1, 1) := by decide +kernel
theorem dX4_lamp_21 : decode cX4_lamp 21 = .ok (.invokevirtual 65, 3) := by decide +kernel
theorem dX4_lamp_24 : decode cX4_lamp 24 = .ok (.ifCond .ne 7, 3) := by decide +kernel
theorem dX4_lamp_27 : decode cX4_lamp 27 = .ok (.iconst 1, 1) := by decide +kernel
theorem dX4_lamp_28 : decode cX4_lamp 28 = .ok (.goto 4, 3) := by decide +kernel
theorem dX4_lamp_31 : decode cX4_lamp 31 = .ok (.iconst 0, 1) := by decide +kernel
theorem dX4_lamp_32 : decode cX4_lamp 32 = .ok (.invokevirtual 69, 3) := by decide +kernel
theorem dX4_lamp_35 : decode cX4_lamp 35 = .ok (.aload_n 0, 1) := by decide +kernel
theorem dX4_lamp_36 : decode cX4_lamp 36 = .ok (.getfield 12, 3) := by decide +kernel
theorem dX4_lamp_39 : decode cX4_lamp 39 = .ok (.getfield 40, 3) := by decide +kernel
theorem dX4_lamp_42 : decode cX4_lamp 42 = .ok (.iload_n 1, 1) := by decide +kernel
theorem dX4_lamp_43 : decode cX4_lamp 43 = .ok (.invokevirtual 65, 3) := by decide +kernel
theorem dX4_lamp_46 : decode cX4_lamp 46 = .ok (.ireturn, 1) := by decide +kernel
set_option maxRecDepth 20000 in
theorem ggX4_room_X4_needRoom : GoodIn wsX4_room wsX4_needRoom := goodIn_ca (goodIn_r _ [6, 7, 8, 1, 9, 10, 11, 12, 13, 14, 53, 54, 55, 56, 57, 58, 59, 60, 61, 62, 63] (by decide +kernel) (by decide +kernel)) (goodIn_sub (fun _ h => List.mem_cons_of_mem _ (List.mem_append_right _ h)) (by decide +kernel))
set_option maxRecDepth 20000 in
theorem gX4_room_X4_needRoom : GoodIn wsX4_room (wsV RX4 61 RX4 yX4_needRoom wsX4_needRoom) := goodIn_app (goodIn_of _ (by decide +kernel)) ggX4_room_X4_needRoom
set_option maxRecDepth 20000 in
theorem ggX4_room_X4_needIndex : GoodIn wsX4_room wsX4_needIndex := goodIn_ca (goodIn_r _ [17, 7, 8] (by decide +kernel) (by decide +kernel)) (goodIn_sub (fun _ h => List.mem_cons_of_mem _ (List.mem_append_right _ h)) (by decide +kernel))
set_option maxRecDepth 20000 in
theorem gX4_room_X4_needIndex : GoodIn wsX4_room (va_wsS RX4 19 yX4_needIndex wsX4_needIndex) := goodIn_app (goodIn_of _ (by decide +kernel)) ggX4_room_X4_needIndex
set_option maxRecDepth 20000 in
theorem ggX4_room_X2_tellRoom : GoodIn wsX4_room wsX2_tellRoom := goodIn_r _ [22, 23, 24, 25, 26, 27, 12, 28, 29, 30, 10, 11, 13, 14, 31, 32, 33, 34, 35, 36, 37, 38, 39, 40, 41, 42, 43, 44, 45, 46, 47, 48, 49, 50, 51, 52, 55, 56, 57, 58, 59, 60, 61, 62, 63, 64, 65, 66, 67, 68, 69, 70] (by decide +kernel) (by decide +kernel)
set_option maxRecDepth 20000 in
theorem gX4_room_X2_tellRoom : GoodIn wsX4_room (wsV RX4 73 RX2 yX2_tellRoom wsX2_tellRoom) := goodIn_app (goodIn_of _ (by decide +kernel)) ggX4_room_X2_tellRoom
theorem dX4_room_0 : decode cX4_room 0 = .ok (.aload_n 0, 1) := by decide +kernel
theorem dX4_room_1 : decode cX4_room 1 = .ok (.iload_n 1, 1) := by decide +kernel
theorem dX4_room_2 : decode cX4_room 2 = .ok (.invokevirtual 61, 3) := by decide +kernel
theorem dX4_room_5 : decode cX4_room 5 = .ok (.iload_n 2, 1) := by decide +kernel
theorem dX4_room_6 : decode cX4_room 6 = .ok (.iconst 4, 1) := by decide +kernel
theorem dX4_room_7 : decode cX4_room 7 = .ok (.invokestatic 19, 3) := by decide +kernel
theorem dX4_room_10 : decode cX4_room 10 = .ok (.aload_n 0, 1) := by decide +kernel
theorem dX4_room_11 : decode cX4_room 11 = .ok (.getfield 12, 3) := by decide +kernel
theorem dX4_room_14 : decode cX4_room 14 = .ok (.iload_n 1, 1) := by decide +kernel
theorem dX4_room_15 : decode cX4_room 15 = .ok (.iload_n 2, 1) := by decide +kernel
theorem dX4_room_16 : decode cX4_room 16 = .ok (.invokevirtual 73, 3) := by decide +kernel
theorem dX4_room_19 : decode cX4_room 19 = .ok (.ireturn, 1) := by decide +kernel
set_option maxRecDepth 20000 in
theorem ggX4_isLit_X4_needIndex : GoodIn wsX4_isLit wsX4_needIndex := goodIn_ca (goodIn_r _ [5, 6, 7] (by decide +kernel) (by decide +kernel)) (goodIn_sub (fun _ h => List.mem_cons_of_mem _ (List.mem_append_right _ h)) (by decide +kernel))
set_option maxRecDepth 20000 in
theorem gX4_isLit_X4_needIndex : GoodIn wsX4_isLit (va_wsS RX4 19 yX4_needIndex wsX4_needIndex) := goodIn_app (goodIn_of _ (by decide +kernel)) ggX4_isLit_X4_needIndex
set_option maxRecDepth 20000 in
theorem ggX4_isLit_X3_shineOn : GoodIn wsX4_isLit wsX3_shineOn := goodIn_r _ [12, 13, 14, 15, 16, 17, 18, 27, 28, 29] (by decide +kernel) (by decide +kernel)
set_option maxRecDepth 20000 in
theorem gX4_isLit_X3_shineOn : GoodIn wsX4_isLit (wsV RX4 76 RX3 yX3_shineOn wsX3_shineOn) := goodIn_app (goodIn_of _ (by decide +kernel)) ggX4_isLit_X3_shineOn
theorem dX4_isLit_0 : decode cX4_isLit 0 = .ok (.iload_n 1, 1) := by decide +kernel
theorem dX4_isLit_1 : decode cX4_isLit 1 = .ok (.bipush 9, 2) := by decide +kernel
theorem dX4_isLit_3 : decode cX4_isLit 3 = .ok (.invokestatic 19, 3) := by decide +kernel
theorem dX4_isLit_6 : decode cX4_isLit 6 = .ok (.aload_n 0, 1) := by decide +kernel
theorem dX4_isLit_7 : decode cX4_isLit 7 = .ok (.getfield 12, 3) := by decide +kernel
theorem dX4_isLit_10 : decode cX4_isLit 10 = .ok (.getfield 40, 3) := by decide +kernel
theorem dX4_isLit_13 : decode cX4_isLit 13 = .ok (.iload_n 1, 1) := by decide +kernel
theorem dX4_isLit_14 : decode cX4_isLit 14 = .ok (.invokevirtual 76, 3) := by decide +kernel
theorem dX4_isLit_17 : decode cX4_isLit 17 = .ok (.ireturn, 1) := by decide +kernel
set_option maxRecDepth 20000 in
theorem ggX4_stay_X4_needRoom : GoodIn wsX4_stay wsX4_needRoom := goodIn_ca (goodIn_r _ [8, 9, 10, 3, 11, 12, 13, 14, 15, 16, 36, 37, 38, 39, 40, 41, 42, 43, 44, 45, 46] (by decide +kernel) (by decide +kernel)) (goodIn_sub (fun _ h => List.mem_cons_of_mem _ (List.mem_append_left _ (List.mem_append_right _ h))) (by decide +kernel))
set_option maxRecDepth 20000 in
theorem gX4_stay_X4_needRoom : GoodIn wsX4_stay (wsV RX4 61 RX4 yX4_needRoom wsX4_needRoom) := goodIn_app (goodIn_of _ (by decide +kernel)) ggX4_stay_X4_needRoom
set_option maxRecDepth 20000 in
theorem ggX4_stay_X4_needArgument : GoodIn wsX4_stay wsX4_needArgument := goodIn_ca (goodIn_r _ [19, 20, 21] (by decide +kernel) (by decide +kernel)) (goodIn_sub (fun _ h => List.mem_cons_of_mem _ (List.mem_append_right _ h)) (by decide +kernel))
set_option maxRecDepth 20000 in
theorem gX4_stay_X4_needArgument : GoodIn wsX4_stay (va_wsS RX4 23 yX4_needArgument wsX4_needArgument) := goodIn_app (goodIn_of _ (by decide +kernel)) ggX4_stay_X4_needArgument
set_option maxRecDepth 20000 in
theorem ggX4_stay_X0_isFull : GoodIn wsX4_stay wsX0_isFull := goodIn_r _ [26, 27, 47, 48, 49, 50, 51, 52, 53] (by decide +kernel) (by decide +kernel)
set_option maxRecDepth 20000 in
theorem gX4_stay_X0_isFull : GoodIn wsX4_stay (wsV RX4 83 RX0 yX0_isFull wsX0_isFull) := goodIn_app (goodIn_of _ (by decide +kernel)) ggX4_stay_X0_isFull
set_option maxRecDepth 20000 in
theorem ggX4_stay_X0_add : GoodIn wsX4_stay wsX0_add := goodIn_r _ [31, 27, 32, 33, 34, 35, 47, 48, 49, 50, 51, 52, 53] (by decide +kernel) (by decide +kernel)
set_option maxRecDepth 20000 in
theorem gX4_stay_X0_add : GoodIn wsX4_stay (wsV RX4 88 RX0 yX0_add wsX0_add) := goodIn_app (goodIn_of _ (by decide +kernel)) ggX4_stay_X0_add
theorem dX4_stay_0 : decode cX4_stay 0 = .ok (.aload_n 0, 1) := by decide +kernel
theorem dX4_stay_1 : decode cX4_stay 1 = .ok (.iload_n 1, 1) := by decide +kernel
theorem dX4_stay_2 : decode cX4_stay 2 = .ok (.invokevirtual 61, 3) := by decide +kernel
theorem dX4_stay_5 : decode cX4_stay 5 = .ok (.iload_n 2, 1) := by decide +kernel
theorem dX4_stay_6 : decode cX4_stay 6 = .ok (.iconst 0, 1) := by decide +kernel
theorem dX4_stay_7 : decode cX4_stay 7 = .ok (.bipush 9, 2) := by decide +kernel
theorem dX4_stay_9 : decode cX4_stay 9 = .ok (.invokestatic 23, 3) := by decide +kernel
theorem dX4_stay_12 : decode cX4_stay 12 = .ok (.aload_n 0, 1) := by decide +kernel
theorem dX4_stay_13 : decode cX4_stay 13 = .ok (.getfield 12, 3) := by decide +kernel
theorem dX4_stay_16 : decode cX4_stay 16 = .ok (.getfield 79, 3) := by decide +kernel
theorem dX4_stay_19 : decode cX4_stay 19 = .ok (.invokevirtual 83, 3) := by decide +kernel
theorem dX4_stay_22 : decode cX4_stay 22 = .ok (.ifCond .eq 13, 3) := by decide +kernel
theorem dX4_stay_25 : decode cX4_stay 25 = .ok (.new 50, 3) := by decide +kernel
theorem dX4_stay_28 : decode cX4_stay 28 = .ok (.dup, 1) := by decide +kernel
theorem dX4_stay_29 : decode cX4_stay 29 = .ok (.ldc 86, 2) := by decide +kernel
theorem dX4_stay_31 : decode cX4_stay 31 = .ok (.invokespecial 54, 3) := by decide +kernel
theorem dX4_stay_34 : decode cX4_stay 34 = .ok (.athrow, 1) := by decide +kernel
theorem dX4_stay_35 : decode cX4_stay 35 = .ok (.aload_n 0, 1) := by decide +kernel
theorem dX4_stay_36 : decode cX4_stay 36 = .ok (.getfield 12, 3) := by decide +kernel
theorem dX4_stay_39 : decode cX4_stay 39 = .ok (.getfield 79, 3) := by decide +kernel
theorem dX4_stay_42 : decode cX4_stay 42 = .ok (.iload_n 1, 1) := by decide +kernel
theorem dX4_stay_43 : decode cX4_stay 43 = .ok (.iload_n 2, 1) := by decide +kernel
theorem dX4_stay_44 : decode cX4_stay 44 = .ok (.iload_n 3, 1) := by decide +kernel
theorem dX4_stay_45 : decode cX4_stay 45 = .ok (.invokevirtual 88, 3) := by decide +kernel
theorem dX4_stay_48 : decode cX4_stay 48 = .ok (.ireturn, 1) := by decide +kernel
set_option maxRecDepth 20000 in
theorem ggX4_move_X4_needGuest : GoodIn wsX4_move wsX4_needGuest := goodIn_ca (goodIn_r _ [6, 7, 8, 1, 9, 10, 11, 12, 13, 14, 46, 47, 48, 49, 50, 51, 52, 53, 54, 55, 56, 57, 58, 59, 60] (by decide +kernel) (by decide +kernel)) (goodIn_sub (fun _ h => List.mem_cons_of_mem _ (List.mem_append_left _ (List.mem_append_right _ h))) (by decide +kernel))
set_option maxRecDepth 20000 in
theorem gX4_move_X4_needGuest : GoodIn wsX4_move (wsV RX4 91 RX4 yX4_needGuest wsX4_needGuest) := goodIn_app (goodIn_of _ (by decide +kernel)) ggX4_move_X4_needGuest
set_option maxRecDepth 20000 in
theorem ggX4_move_X4_needRoom : GoodIn wsX4_move wsX4_needRoom := goodIn_ca (goodIn_r _ [18, 7, 8, 1, 19, 20, 21, 22, 23, 24, 46, 47, 48, 49, 50, 51, 52, 53, 61, 62, 63] (by decide +kernel) (by decide +kernel)) (goodIn_sub (fun _ h => List.mem_cons_of_mem _ (List.mem_append_left _ (List.mem_append_right _ h))) (by decide +kernel))
set_option maxRecDepth 20000 in
theorem gX4_move_X4_needRoom : GoodIn wsX4_move (wsV RX4 61 RX4 yX4_needRoom wsX4_needRoom) := goodIn_app (goodIn_of _ (by decide +kernel)) ggX4_move_X4_needRoom
set_option maxRecDepth 20000 in
theorem ggX4_move_X4_needStaying : GoodIn wsX4_move wsX4_needStaying := goodIn_ca (goodIn_r _ [28, 29, 30, 1, 31, 32, 33, 12, 34, 35, 36, 10, 11, 13, 14, 46, 47, 48, 49, 50, 51, 52, 53, 54, 55, 56, 57, 58, 59, 60] (by decide +kernel) (by decide +kernel)) (goodIn_sub (fun _ h => List.mem_cons_of_mem _ (List.mem_append_right _ h)) (by decide +kernel))
set_option maxRecDepth 20000 in
theorem gX4_move_X4_needStaying : GoodIn wsX4_move (wsV RX4 94 RX4 yX4_needStaying wsX4_needStaying) := goodIn_app (goodIn_of _ (by decide +kernel)) ggX4_move_X4_needStaying
set_option maxRecDepth 20000 in
theorem ggX4_move_X0_roomOf : GoodIn wsX4_move wsX0_roomOf := goodIn_r _ [40, 41, 36, 10, 11, 12, 13, 14, 54, 55, 56, 57, 58, 59, 60] (by decide +kernel) (by decide +kernel)
set_option maxRecDepth 20000 in
theorem gX4_move_X0_roomOf : GoodIn wsX4_move (wsV RX4 97 RX0 yX0_roomOf wsX0_roomOf) := goodIn_app (goodIn_of _ (by decide +kernel)) ggX4_move_X0_roomOf
set_option maxRecDepth 20000 in
theorem ggX4_move_X0_setRoom : GoodIn wsX4_move wsX0_setRoom := goodIn_r _ [45, 41, 36, 10, 11, 12, 13, 14, 54, 55, 56, 57, 58, 59, 60] (by decide +kernel) (by decide +kernel)
set_option maxRecDepth 20000 in
theorem gX4_move_X0_setRoom : GoodIn wsX4_move (wsV RX4 100 RX0 yX0_setRoom wsX0_setRoom) := goodIn_app (goodIn_of _ (by decide +kernel)) ggX4_move_X0_setRoom
theorem dX4_move_0 : decode cX4_move 0 = .ok (.aload_n 0, 1) := by decide +kernel
theorem dX4_move_1 : decode cX4_move 1 = .ok (.iload_n 1, 1) := by decide +kernel
theorem dX4_move_2 : decode cX4_move 2 = .ok (.invokevirtual 91, 3) := by decide +kernel
theorem dX4_move_5 : decode cX4_move 5 = .ok (.aload_n 0, 1) := by decide +kernel
theorem dX4_move_6 : decode cX4_move 6 = .ok (.iload_n 2, 1) := by decide +kernel
theorem dX4_move_7 : decode cX4_move 7 = .ok (.invokevirtual 61, 3) := by decide +kernel
theorem dX4_move_10 : decode cX4_move 10 = .ok (.aload_n 0, 1) := by decide +kernel
theorem dX4_move_11 : decode cX4_move 11 = .ok (.iload_n 1, 1) := by decide +kernel
theorem dX4_move_12 : decode cX4_move 12 = .ok (.invokevirtual 94, 3) := by decide +kernel
theorem dX4_move_15 : decode cX4_move 15 = .ok (.aload_n 0, 1) := by decide +kernel
theorem dX4_move_16 : decode cX4_move 16 = .ok (.getfield 12, 3) := by decide +kernel
theorem dX4_move_19 : decode cX4_move 19 = .ok (.getfield 79, 3) := by decide +kernel
theorem dX4_move_22 : decode cX4_move 22 = .ok (.iload_n 1, 1) := by decide +kernel
theorem dX4_move_23 : decode cX4_move 23 = .ok (.invokevirtual 97, 3) := by decide +kernel
theorem dX4_move_26 : decode cX4_move 26 = .ok (.istore_n 3, 1) := by decide +kernel
theorem dX4_move_27 : decode cX4_move 27 = .ok (.aload_n 0, 1) := by decide +kernel
theorem dX4_move_28 : decode cX4_move 28 = .ok (.getfield 12, 3) := by decide +kernel
theorem dX4_move_31 : decode cX4_move 31 = .ok (.getfield 79, 3) := by decide +kernel
theorem dX4_move_34 : decode cX4_move 34 = .ok (.iload_n 1, 1) := by decide +kernel
theorem dX4_move_35 : decode cX4_move 35 = .ok (.iload_n 2, 1) := by decide +kernel
theorem dX4_move_36 : decode cX4_move 36 = .ok (.invokevirtual 100, 3) := by decide +kernel
theorem dX4_move_39 : decode cX4_move 39 = .ok (.iload_n 3, 1) := by decide +kernel
theorem dX4_move_40 : decode cX4_move 40 = .ok (.ireturn, 1) := by decide +kernel
set_option maxRecDepth 20000 in
theorem ggX4_leave_X4_needGuest : GoodIn wsX4_leave wsX4_needGuest := goodIn_ca (goodIn_r _ [6, 7, 8, 1, 9, 10, 11, 12, 13, 14, 37, 38, 39, 40, 41, 42, 43, 44, 45, 46, 47, 48, 49, 50, 51] (by decide +kernel) (by decide +kernel)) (goodIn_sub (fun _ h => List.mem_cons_of_mem _ (List.mem_append_left _ (List.mem_append_right _ h))) (by decide +kernel))
set_option maxRecDepth 20000 in
theorem gX4_leave_X4_needGuest : GoodIn wsX4_leave (wsV RX4 91 RX4 yX4_needGuest wsX4_needGuest) := goodIn_app (goodIn_of _ (by decide +kernel)) ggX4_leave_X4_needGuest
set_option maxRecDepth 20000 in
theorem ggX4_leave_X4_needStaying : GoodIn wsX4_leave wsX4_needStaying := goodIn_ca (goodIn_r _ [18, 19, 20, 1, 21, 22, 23, 12, 24, 25, 26, 10, 11, 13, 14, 37, 38, 39, 40, 41, 42, 43, 44, 45, 46, 47, 48, 49, 50, 51] (by decide +kernel) (by decide +kernel)) (goodIn_sub (fun _ h => List.mem_cons_of_mem _ (List.mem_append_right _ h)) (by decide +kernel))
set_option maxRecDepth 20000 in
theorem gX4_leave_X4_needStaying : GoodIn wsX4_leave (wsV RX4 94 RX4 yX4_needStaying wsX4_needStaying) := goodIn_app (goodIn_of _ (by decide +kernel)) ggX4_leave_X4_needStaying
set_option maxRecDepth 20000 in
theorem ggX4_leave_X0_sendOff : GoodIn wsX4_leave wsX0_sendOff := goodIn_r _ [30, 25, 31, 26, 10, 11, 12, 13, 14, 45, 46, 47, 48, 49, 50, 51] (by decide +kernel) (by decide +kernel)
set_option maxRecDepth 20000 in
theorem gX4_leave_X0_sendOff : GoodIn wsX4_leave (wsV RX4 103 RX0 yX0_sendOff wsX0_sendOff) := goodIn_app (goodIn_of _ (by decide +kernel)) ggX4_leave_X0_sendOff
set_option maxRecDepth 20000 in
theorem ggX4_leave_X0_sawOf : GoodIn wsX4_leave wsX0_sawOf := goodIn_r _ [35, 36, 26, 10, 11, 12, 13, 14, 45, 46, 47, 48, 49, 50, 51] (by decide +kernel) (by decide +kernel)
set_option maxRecDepth 20000 in
theorem gX4_leave_X0_sawOf : GoodIn wsX4_leave (wsV RX4 106 RX0 yX0_sawOf wsX0_sawOf) := goodIn_app (goodIn_of _ (by decide +kernel)) ggX4_leave_X0_sawOf
theorem dX4_leave_0 : decode cX4_leave 0 = .ok (.aload_n 0, 1) := by decide +kernel
theorem dX4_leave_1 : decode cX4_leave 1 = .ok (.iload_n 1, 1) := by decide +kernel
theorem dX4_leave_2 : decode cX4_leave 2 = .ok (.invokevirtual 91, 3) := by decide +kernel
theorem dX4_leave_5 : decode cX4_leave 5 = .ok (.aload_n 0, 1) := by decide +kernel
theorem dX4_leave_6 : decode cX4_leave 6 = .ok (.iload_n 1, 1) := by decide +kernel
theorem dX4_leave_7 : decode cX4_leave 7 = .ok (.invokevirtual 94, 3) := by decide +kernel
theorem dX4_leave_10 : decode cX4_leave 10 = .ok (.aload_n 0, 1) := by decide +kernel
theorem dX4_leave_11 : decode cX4_leave 11 = .ok (.getfield 12, 3) := by decide +kernel
theorem dX4_leave_14 : decode cX4_leave 14 = .ok (.getfield 79, 3) := by decide +kernel
theorem dX4_leave_17 : decode cX4_leave 17 = .ok (.iload_n 1, 1) := by decide +kernel
theorem dX4_leave_18 : decode cX4_leave 18 = .ok (.invokevirtual 103, 3) := by decide +kernel
theorem dX4_leave_21 : decode cX4_leave 21 = .ok (.aload_n 0, 1) := by decide +kernel
theorem dX4_leave_22 : decode cX4_leave 22 = .ok (.getfield 12, 3) := by decide +kernel
theorem dX4_leave_25 : decode cX4_leave 25 = .ok (.getfield 79, 3) := by decide +kernel
theorem dX4_leave_28 : decode cX4_leave 28 = .ok (.iload_n 1, 1) := by decide +kernel
theorem dX4_leave_29 : decode cX4_leave 29 = .ok (.invokevirtual 106, 3) := by decide +kernel
theorem dX4_leave_32 : decode cX4_leave 32 = .ok (.ireturn, 1) := by decide +kernel
set_option maxRecDepth 20000 in
theorem ggX4_hush_X4_needGuest : GoodIn wsX4_hush wsX4_needGuest := goodIn_ca (goodIn_r _ [6, 7, 8, 1, 9, 10, 11, 12, 13, 14, 30, 31, 32, 33, 34, 35, 36, 37, 38, 39, 40, 41, 42, 43, 44] (by decide +kernel) (by decide +kernel)) (goodIn_sub (fun _ h => List.mem_cons_of_mem _ (List.mem_append_left _ (List.mem_append_right _ h))) (by decide +kernel))
set_option maxRecDepth 20000 in
theorem gX4_hush_X4_needGuest : GoodIn wsX4_hush (wsV RX4 91 RX4 yX4_needGuest wsX4_needGuest) := goodIn_app (goodIn_of _ (by decide +kernel)) ggX4_hush_X4_needGuest
set_option maxRecDepth 20000 in
theorem ggX4_hush_X4_needArgument : GoodIn wsX4_hush wsX4_needArgument := goodIn_ca (goodIn_r _ [17, 18, 19] (by decide +kernel) (by decide +kernel)) (goodIn_sub (fun _ h => List.mem_cons_of_mem _ (List.mem_append_right _ h)) (by decide +kernel))
set_option maxRecDepth 20000 in
theorem gX4_hush_X4_needArgument : GoodIn wsX4_hush (va_wsS RX4 23 yX4_needArgument wsX4_needArgument) := goodIn_app (goodIn_of _ (by decide +kernel)) ggX4_hush_X4_needArgument
set_option maxRecDepth 20000 in
theorem ggX4_hush_X0_whisperOf : GoodIn wsX4_hush wsX0_whisperOf := goodIn_r _ [23, 24, 25, 10, 11, 12, 13, 14, 38, 39, 40, 41, 42, 43, 44] (by decide +kernel) (by decide +kernel)
set_option maxRecDepth 20000 in
theorem gX4_hush_X0_whisperOf : GoodIn wsX4_hush (wsV RX4 109 RX0 yX0_whisperOf wsX0_whisperOf) := goodIn_app (goodIn_of _ (by decide +kernel)) ggX4_hush_X0_whisperOf
set_option maxRecDepth 20000 in
theorem ggX4_hush_X0_setWhisper : GoodIn wsX4_hush wsX0_setWhisper := goodIn_r _ [29, 24, 25, 10, 11, 12, 13, 14, 38, 39, 40, 41, 42, 43, 44] (by decide +kernel) (by decide +kernel)
set_option maxRecDepth 20000 in
theorem gX4_hush_X0_setWhisper : GoodIn wsX4_hush (wsV RX4 112 RX0 yX0_setWhisper wsX0_setWhisper) := goodIn_app (goodIn_of _ (by decide +kernel)) ggX4_hush_X0_setWhisper
theorem dX4_hush_0 : decode cX4_hush 0 = .ok (.aload_n 0, 1) := by decide +kernel
theorem dX4_hush_1 : decode cX4_hush 1 = .ok (.iload_n 1, 1) := by decide +kernel
theorem dX4_hush_2 : decode cX4_hush 2 = .ok (.invokevirtual 91, 3) := by decide +kernel
theorem dX4_hush_5 : decode cX4_hush 5 = .ok (.iload_n 2, 1) := by decide +kernel
theorem dX4_hush_6 : decode cX4_hush 6 = .ok (.iconst 0, 1) := by decide +kernel
theorem dX4_hush_7 : decode cX4_hush 7 = .ok (.bipush 9, 2) := by decide +kernel
theorem dX4_hush_9 : decode cX4_hush 9 = .ok (.invokestatic 23, 3) := by decide +kernel
theorem dX4_hush_12 : decode cX4_hush 12 = .ok (.aload_n 0, 1) := by decide +kernel
theorem dX4_hush_13 : decode cX4_hush 13 = .ok (.getfield 12, 3) := by decide +kernel
theorem dX4_hush_16 : decode cX4_hush 16 = .ok (.getfield 79, 3) := by decide +kernel
theorem dX4_hush_19 : decode cX4_hush 19 = .ok (.iload_n 1, 1) := by decide +kernel
theorem dX4_hush_20 : decode cX4_hush 20 = .ok (.invokevirtual 109, 3) := by decide +kernel
theorem dX4_hush_23 : decode cX4_hush 23 = .ok (.istore_n 3, 1) := by decide +kernel
theorem dX4_hush_24 : decode cX4_hush 24 = .ok (.aload_n 0, 1) := by decide +kernel
theorem dX4_hush_25 : decode cX4_hush 25 = .ok (.getfield 12, 3) := by decide +kernel
theorem dX4_hush_28 : decode cX4_hush 28 = .ok (.getfield 79, 3) := by decide +kernel
theorem dX4_hush_31 : decode cX4_hush 31 = .ok (.iload_n 1, 1) := by decide +kernel
theorem dX4_hush_32 : decode cX4_hush 32 = .ok (.iload_n 2, 1) := by decide +kernel
theorem dX4_hush_33 : decode cX4_hush 33 = .ok (.invokevirtual 112, 3) := by decide +kernel
theorem dX4_hush_36 : decode cX4_hush 36 = .ok (.iload_n 3, 1) := by decide +kernel
theorem dX4_hush_37 : decode cX4_hush 37 = .ok (.ireturn, 1) := by decide +kernel
set_option maxRecDepth 20000 in
theorem ggX4_guest_X4_needGuest : GoodIn wsX4_guest wsX4_needGuest := goodIn_ca (goodIn_r _ [6, 7, 8, 1, 9, 10, 11, 12, 13, 14, 53, 54, 55, 56, 57, 58, 59, 60, 61, 62, 63, 64, 65, 66, 67] (by decide +kernel) (by decide +kernel)) (goodIn_sub (fun _ h => List.mem_cons_of_mem _ (List.mem_append_right _ h)) (by decide +kernel))
set_option maxRecDepth 20000 in
theorem gX4_guest_X4_needGuest : GoodIn wsX4_guest (wsV RX4 91 RX4 yX4_needGuest wsX4_needGuest) := goodIn_app (goodIn_of _ (by decide +kernel)) ggX4_guest_X4_needGuest
