theorem dX5_sum_11 : decode cX5_sum 11 = .ok (.iconst 0, 1) := by decide +kernel
theorem dX5_sum_12 : decode cX5_sum 12 = .ok (.istore 5, 2) := by decide +kernel
theorem dX5_sum_14 : decode cX5_sum 14 = .ok (.iload 5, 2) := by decide +kernel
theorem dX5_sum_16 : decode cX5_sum 16 = .ok (.iload 4, 2) := by decide +kernel
theorem dX5_sum_18 : decode cX5_sum 18 = .ok (.if_icmp .ge 22, 3) := by decide +kernel
theorem dX5_sum_21 : decode cX5_sum 21 = .ok (.aload_n 3, 1) := by decide +kernel
theorem dX5_sum_22 : decode cX5_sum 22 = .ok (.iload 5, 2) := by decide +kernel
theorem dX5_sum_24 : decode cX5_sum 24 = .ok (.aaload, 1) := by decide +kernel
theorem dX5_sum_25 : decode cX5_sum 25 = .ok (.astore 6, 2) := by decide +kernel
theorem dX5_sum_27 : decode cX5_sum 27 = .ok (.iload_n 2, 1) := by decide +kernel
theorem dX5_sum_28 : decode cX5_sum 28 = .ok (.aload 6, 2) := by decide +kernel
theorem dX5_sum_30 : decode cX5_sum 30 = .ok (.iload_n 1, 1) := by decide +kernel
theorem dX5_sum_31 : decode cX5_sum 31 = .ok (.iaload, 1) := by decide +kernel
theorem dX5_sum_32 : decode cX5_sum 32 = .ok (.iadd, 1) := by decide +kernel
theorem dX5_sum_33 : decode cX5_sum 33 = .ok (.istore_n 2, 1) := by decide +kernel
theorem dX5_sum_34 : decode cX5_sum 34 = .ok (.iinc 5 1, 3) := by decide +kernel
theorem dX5_sum_37 : decode cX5_sum 37 = .ok (.goto (-23), 3) := by decide +kernel
theorem dX5_sum_40 : decode cX5_sum 40 = .ok (.iload_n 2, 1) := by decide +kernel
theorem dX5_sum_41 : decode cX5_sum 41 = .ok (.ireturn, 1) := by decide +kernel
set_option maxRecDepth 20000 in
theorem ggX5_isSame_X5_lit : GoodIn wsX5_isSame wsX5_lit := goodIn_r _ [11, 2, 211, 212, 213, 214, 215] (by decide +kernel) (by decide +kernel)
set_option maxRecDepth 20000 in
theorem gX5_isSame_X5_lit : GoodIn wsX5_isSame (wsV RX5 39 RX5 yX5_lit wsX5_lit) := goodIn_app (goodIn_of _ (by decide +kernel)) ggX5_isSame_X5_lit
set_option maxRecDepth 20000 in
theorem ggX5_isSame_X4_isLit : GoodIn wsX5_isSame wsX4_isLit := goodIn_ca (goodIn_r _ [16, 17, 18, 19, 15, 20, 21, 22, 23, 24, 25, 26, 27, 28, 29, 30, 31, 32, 33, 216, 217, 218, 219, 220, 221, 222, 223, 224, 225, 226] (by decide +kernel) (by decide +kernel)) (goodIn_sub (fun _ h => List.mem_cons_of_mem _ (List.mem_append_right _ h)) (by decide +kernel))
set_option maxRecDepth 20000 in
theorem gX5_isSame_X4_isLit : GoodIn wsX5_isSame (wsV RX5 59 RX4 yX4_isLit wsX4_isLit) := goodIn_app (goodIn_of _ (by decide +kernel)) ggX5_isSame_X4_isLit
set_option maxRecDepth 20000 in
theorem ggX5_isSame_X4_cell : GoodIn wsX5_isSame wsX4_cell := goodIn_ca (goodIn_r _ [37, 17, 18, 19, 15, 20, 21, 22, 38, 39, 40, 41, 42, 43, 44, 45, 46, 216, 217, 218, 219, 220, 221, 222, 223, 227] (by decide +kernel) (by decide +kernel)) (goodIn_sub (fun _ h => List.mem_cons_of_mem _ (List.mem_append_right _ h)) (by decide +kernel))
set_option maxRecDepth 20000 in
theorem gX5_isSame_X4_cell : GoodIn wsX5_isSame (wsV RX5 64 RX4 yX4_cell wsX4_cell) := goodIn_app (goodIn_of _ (by decide +kernel)) ggX5_isSame_X4_cell
set_option maxRecDepth 20000 in
theorem ggX5_isSame_X5_whispers : GoodIn wsX5_isSame wsX5_whispers := goodIn_r _ [50, 4, 51, 52, 53, 10, 54, 211, 212, 213, 214, 215] (by decide +kernel) (by decide +kernel)
set_option maxRecDepth 20000 in
theorem gX5_isSame_X5_whispers : GoodIn wsX5_isSame (wsV RX5 43 RX5 yX5_whispers wsX5_whispers) := goodIn_app (goodIn_of _ (by decide +kernel)) ggX5_isSame_X5_whispers
set_option maxRecDepth 20000 in
theorem ggX5_isSame_X5_isIn : GoodIn wsX5_isSame wsX5_isIn := goodIn_r _ [54] (by decide +kernel) (by decide +kernel)
set_option maxRecDepth 20000 in
theorem gX5_isSame_X5_isIn : GoodIn wsX5_isSame (wsV RX5 35 RX5 yX5_isIn wsX5_isIn) := goodIn_app (goodIn_of _ (by decide +kernel)) ggX5_isSame_X5_isIn
set_option maxRecDepth 20000 in
theorem ggX5_isSame_X4_room : GoodIn wsX5_isSame wsX4_room := goodIn_ca (goodIn_r _ [58, 17, 59, 60, 61, 15, 62, 21, 22, 63, 64, 65, 26, 66, 67, 18, 19, 20, 68, 69, 70, 71, 72, 73, 74, 75, 76, 77, 78, 29, 79, 80, 81, 82, 83, 28, 84, 85, 86, 87, 88, 89, 90, 91, 92, 93, 94, 95, 96, 97, 98, 99, 100, 216, 217, 218, 219, 220, 221, 222, 223, 224, 225, 226, 228, 229, 230, 231, 232, 233, 234] (by decide +kernel) (by decide +kernel)) (goodIn_sub (fun _ h => List.mem_cons_of_mem _ (List.mem_append_right _ h)) (by decide +kernel))
set_option maxRecDepth 20000 in
theorem gX5_isSame_X4_room : GoodIn wsX5_isSame (wsV RX5 67 RX4 yX4_room wsX4_room) := goodIn_app (goodIn_of _ (by decide +kernel)) ggX5_isSame_X4_room
set_option maxRecDepth 20000 in
theorem ggX5_isSame_X4_guest : GoodIn wsX5_isSame wsX4_guest := goodIn_ca (goodIn_r _ [104, 17, 105, 106, 107, 15, 108, 21, 22, 109, 110, 111, 87, 112, 113, 18, 19, 20, 114, 115, 116, 117, 118, 119, 120, 121, 90, 122, 123, 124, 125, 126, 95, 127, 128, 129, 130, 100, 131, 132, 133, 134, 135, 136, 137, 138, 139, 140, 141, 142, 143, 144, 89, 216, 217, 218, 219, 220, 221, 222, 223, 228, 229, 230, 231, 232, 233, 234] (by decide +kernel) (by decide +kernel)) (goodIn_sub (fun _ h => List.mem_cons_of_mem _ (List.mem_append_right _ h)) (by decide +kernel))
set_option maxRecDepth 20000 in
theorem gX5_isSame_X4_guest : GoodIn wsX5_isSame (wsV RX5 70 RX4 yX4_guest wsX4_guest) := goodIn_app (goodIn_of _ (by decide +kernel)) ggX5_isSame_X4_guest
set_option maxRecDepth 20000 in
theorem ggX5_isSame_X5_moon : GoodIn wsX5_isSame wsX5_moon := goodIn_r _ [147, 3] (by decide +kernel) (by decide +kernel)
set_option maxRecDepth 20000 in
theorem gX5_isSame_X5_moon : GoodIn wsX5_isSame (va_wsS RX5 47 yX5_moon wsX5_moon) := goodIn_app (goodIn_of _ (by decide +kernel)) ggX5_isSame_X5_moon
set_option maxRecDepth 20000 in
theorem ggX5_isSame_X5_flies : GoodIn wsX5_isSame wsX5_flies := goodIn_r _ [151, 1, 211, 212, 213, 214, 215] (by decide +kernel) (by decide +kernel)
set_option maxRecDepth 20000 in
theorem gX5_isSame_X5_flies : GoodIn wsX5_isSame (wsV RX5 73 RX5 yX5_flies wsX5_flies) := goodIn_app (goodIn_of _ (by decide +kernel)) ggX5_isSame_X5_flies
set_option maxRecDepth 20000 in
theorem ggX5_isSame_X5_sum : GoodIn wsX5_isSame wsX5_sum := goodIn_r _ [155, 4, 211, 212, 213, 214, 215] (by decide +kernel) (by decide +kernel)
set_option maxRecDepth 20000 in
theorem gX5_isSame_X5_sum : GoodIn wsX5_isSame (wsV RX5 77 RX5 yX5_sum wsX5_sum) := goodIn_app (goodIn_of _ (by decide +kernel)) ggX5_isSame_X5_sum
set_option maxRecDepth 20000 in
theorem ggX5_isSame_X4_count : GoodIn wsX5_isSame wsX4_count := goodIn_ca (goodIn_r _ [159, 17, 18, 19, 15, 20, 21, 22, 160, 161, 162, 71, 163, 164, 165, 73, 74, 166, 167, 168, 169, 170, 171, 172, 41, 173, 43, 174, 175, 176, 177, 178, 26, 179, 67, 180, 181, 182, 183, 28, 184, 185, 186, 187, 188, 87, 189, 89, 190, 191, 192, 193, 100, 194, 195, 196, 197, 198, 24, 25, 27, 29, 30, 31, 32, 33, 216, 217, 218, 219, 220, 221, 222, 223, 227, 224, 225, 226, 228, 229, 230, 231, 232, 233, 234] (by decide +kernel) (by decide +kernel)) (goodIn_sub (fun _ h => List.mem_cons_of_mem _ (List.mem_append_right _ h)) (by decide +kernel))
set_option maxRecDepth 20000 in
theorem gX5_isSame_X4_count : GoodIn wsX5_isSame (wsV RX5 80 RX4 yX4_count wsX4_count) := goodIn_app (goodIn_of _ (by decide +kernel)) ggX5_isSame_X4_count
set_option maxRecDepth 20000 in
theorem ggX5_isSame_X4_mean : GoodIn wsX5_isSame wsX4_mean := goodIn_r _ [202, 17, 203, 204, 205, 87, 206, 113, 207, 208, 209, 210, 140, 174, 15, 175, 216, 217, 218, 219, 220, 221, 222, 223, 228, 229, 230, 231, 232, 233, 234] (by decide +kernel) (by decide +kernel)
set_option maxRecDepth 20000 in
theorem gX5_isSame_X4_mean : GoodIn wsX5_isSame (wsV RX5 83 RX4 yX4_mean wsX4_mean) := goodIn_app (goodIn_of _ (by decide +kernel)) ggX5_isSame_X4_mean
theorem dX5_isSame_0 : decode cX5_isSame 0 = .ok (.iconst 0, 1) := by decide +kernel
theorem dX5_isSame_1 : decode cX5_isSame 1 = .ok (.istore_n 2, 1) := by decide +kernel
theorem dX5_isSame_2 : decode cX5_isSame 2 = .ok (.iconst 0, 1) := by decide +kernel
theorem dX5_isSame_3 : decode cX5_isSame 3 = .ok (.istore_n 3, 1) := by decide +kernel
theorem dX5_isSame_4 : decode cX5_isSame 4 = .ok (.iload_n 3, 1) := by decide +kernel
theorem dX5_isSame_5 : decode cX5_isSame 5 = .ok (.bipush 10, 2) := by decide +kernel
theorem dX5_isSame_7 : decode cX5_isSame 7 = .ok (.if_icmp .ge 76, 3) := by decide +kernel
theorem dX5_isSame_10 : decode cX5_isSame 10 = .ok (.iload_n 2, 1) := by decide +kernel
theorem dX5_isSame_11 : decode cX5_isSame 11 = .ok (.aload_n 0, 1) := by decide +kernel
theorem dX5_isSame_12 : decode cX5_isSame 12 = .ok (.iload_n 3, 1) := by decide +kernel
theorem dX5_isSame_13 : decode cX5_isSame 13 = .ok (.invokevirtual 39, 3) := by decide +kernel
theorem dX5_isSame_16 : decode cX5_isSame 16 = .ok (.ifCond .eq 7, 3) := by decide +kernel
theorem dX5_isSame_19 : decode cX5_isSame 19 = .ok (.iconst 1, 1) := by decide +kernel
theorem dX5_isSame_20 : decode cX5_isSame 20 = .ok (.goto 4, 3) := by decide +kernel
theorem dX5_isSame_23 : decode cX5_isSame 23 = .ok (.iconst 0, 1) := by decide +kernel
theorem dX5_isSame_24 : decode cX5_isSame 24 = .ok (.iadd, 1) := by decide +kernel
theorem dX5_isSame_25 : decode cX5_isSame 25 = .ok (.istore_n 2, 1) := by decide +kernel
theorem dX5_isSame_26 : decode cX5_isSame 26 = .ok (.aload_n 1, 1) := by decide +kernel
theorem dX5_isSame_27 : decode cX5_isSame 27 = .ok (.iload_n 3, 1) := by decide +kernel
theorem dX5_isSame_28 : decode cX5_isSame 28 = .ok (.invokevirtual 59, 3) := by decide +kernel
theorem dX5_isSame_31 : decode cX5_isSame 31 = .ok (.aload_n 0, 1) := by decide +kernel
theorem dX5_isSame_32 : decode cX5_isSame 32 = .ok (.iload_n 3, 1) := by decide +kernel
theorem dX5_isSame_33 : decode cX5_isSame 33 = .ok (.invokevirtual 39, 3) := by decide +kernel
theorem dX5_isSame_36 : decode cX5_isSame 36 = .ok (.if_icmp .eq 5, 3) := by decide +kernel
theorem dX5_isSame_39 : decode cX5_isSame 39 = .ok (.iconst 0, 1) := by decide +kernel
theorem dX5_isSame_40 : decode cX5_isSame 40 = .ok (.ireturn, 1) := by decide +kernel
theorem dX5_isSame_41 : decode cX5_isSame 41 = .ok (.iconst 0, 1) := by decide +kernel
theorem dX5_isSame_42 : decode cX5_isSame 42 = .ok (.istore 4, 2) := by decide +kernel
theorem dX5_isSame_44 : decode cX5_isSame 44 = .ok (.iload 4, 2) := by decide +kernel
theorem dX5_isSame_46 : decode cX5_isSame 46 = .ok (.iconst 5, 1) := by decide +kernel
theorem dX5_isSame_47 : decode cX5_isSame 47 = .ok (.if_icmp .ge 30, 3) := by decide +kernel
theorem dX5_isSame_50 : decode cX5_isSame 50 = .ok (.aload_n 1, 1) := by decide +kernel
theorem dX5_isSame_51 : decode cX5_isSame 51 = .ok (.iload_n 3, 1) := by decide +kernel
theorem dX5_isSame_52 : decode cX5_isSame 52 = .ok (.iload 4, 2) := by decide +kernel
theorem dX5_isSame_54 : decode cX5_isSame 54 = .ok (.invokevirtual 64, 3) := by decide +kernel
theorem dX5_isSame_57 : decode cX5_isSame 57 = .ok (.aload_n 0, 1) := by decide +kernel
theorem dX5_isSame_58 : decode cX5_isSame 58 = .ok (.getfield 9, 3) := by decide +kernel
theorem dX5_isSame_61 : decode cX5_isSame 61 = .ok (.iload_n 3, 1) := by decide +kernel
theorem dX5_isSame_62 : decode cX5_isSame 62 = .ok (.aaload, 1) := by decide +kernel
theorem dX5_isSame_63 : decode cX5_isSame 63 = .ok (.iload 4, 2) := by decide +kernel
theorem dX5_isSame_65 : decode cX5_isSame 65 = .ok (.iaload, 1) := by decide +kernel
theorem dX5_isSame_66 : decode cX5_isSame 66 = .ok (.if_icmp .eq 5, 3) := by decide +kernel
theorem dX5_isSame_69 : decode cX5_isSame 69 = .ok (.iconst 0, 1) := by decide +kernel
theorem dX5_isSame_70 : decode cX5_isSame 70 = .ok (.ireturn, 1) := by decide +kernel
theorem dX5_isSame_71 : decode cX5_isSame 71 = .ok (.iinc 4 1, 3) := by decide +kernel
theorem dX5_isSame_74 : decode cX5_isSame 74 = .ok (.goto (-30), 3) := by decide +kernel
theorem dX5_isSame_77 : decode cX5_isSame 77 = .ok (.iinc 3 1, 3) := by decide +kernel
theorem dX5_isSame_80 : decode cX5_isSame 80 = .ok (.goto (-76), 3) := by decide +kernel
theorem dX5_isSame_83 : decode cX5_isSame 83 = .ok (.iconst 0, 1) := by decide +kernel
theorem dX5_isSame_84 : decode cX5_isSame 84 = .ok (.istore_n 3, 1) := by decide +kernel
theorem dX5_isSame_85 : decode cX5_isSame 85 = .ok (.iconst 0, 1) := by decide +kernel
theorem dX5_isSame_86 : decode cX5_isSame 86 = .ok (.istore 4, 2) := by decide +kernel
theorem dX5_isSame_88 : decode cX5_isSame 88 = .ok (.iload 4, 2) := by decide +kernel
theorem dX5_isSame_90 : decode cX5_isSame 90 = .ok (.aload_n 0, 1) := by decide +kernel
theorem dX5_isSame_91 : decode cX5_isSame 91 = .ok (.getfield 16, 3) := by decide +kernel
theorem dX5_isSame_94 : decode cX5_isSame 94 = .ok (.arraylength, 1) := by decide +kernel
theorem dX5_isSame_95 : decode cX5_isSame 95 = .ok (.if_icmp .ge 183, 3) := by decide +kernel
theorem dX5_isSame_98 : decode cX5_isSame 98 = .ok (.iconst 5, 1) := by decide +kernel
theorem dX5_isSame_99 : decode cX5_isSame 99 = .ok (.newarray .int, 2) := by decide +kernel
theorem dX5_isSame_101 : decode cX5_isSame 101 = .ok (.dup, 1) := by decide +kernel
theorem dX5_isSame_102 : decode cX5_isSame 102 = .ok (.iconst 0, 1) := by decide +kernel
theorem dX5_isSame_103 : decode cX5_isSame 103 = .ok (.aload_n 0, 1) := by decide +kernel
theorem dX5_isSame_104 : decode cX5_isSame 104 = .ok (.getfield 16, 3) := by decide +kernel
theorem dX5_isSame_107 : decode cX5_isSame 107 = .ok (.iload 4, 2) := by decide +kernel
theorem dX5_isSame_109 : decode cX5_isSame 109 = .ok (.aaload, 1) := by decide +kernel
theorem dX5_isSame_110 : decode cX5_isSame 110 = .ok (.iconst 0, 1) := by decide +kernel
theorem dX5_isSame_111 : decode cX5_isSame 111 = .ok (.iaload, 1) := by decide +kernel
theorem dX5_isSame_112 : decode cX5_isSame 112 = .ok (.iastore, 1) := by decide +kernel
theorem dX5_isSame_113 : decode cX5_isSame 113 = .ok (.dup, 1) := by decide +kernel
theorem dX5_isSame_114 : decode cX5_isSame 114 = .ok (.iconst 1, 1) := by decide +kernel
theorem dX5_isSame_115 : decode cX5_isSame 115 = .ok (.aload_n 0, 1) := by decide +kernel
theorem dX5_isSame_116 : decode cX5_isSame 116 = .ok (.getfield 16, 3) := by decide +kernel
theorem dX5_isSame_119 : decode cX5_isSame 119 = .ok (.iload 4, 2) := by decide +kernel
theorem dX5_isSame_121 : decode cX5_isSame 121 = .ok (.aaload, 1) := by decide +kernel
theorem dX5_isSame_122 : decode cX5_isSame 122 = .ok (.iconst 1, 1) := by decide +kernel
theorem dX5_isSame_123 : decode cX5_isSame 123 = .ok (.iaload, 1) := by decide +kernel
theorem dX5_isSame_124 : decode cX5_isSame 124 = .ok (.iastore, 1) := by decide +kernel
theorem dX5_isSame_125 : decode cX5_isSame 125 = .ok (.dup, 1) := by decide +kernel
theorem dX5_isSame_126 : decode cX5_isSame 126 = .ok (.iconst 2, 1) := by decide +kernel
theorem dX5_isSame_127 : decode cX5_isSame 127 = .ok (.iconst 0, 1) := by decide +kernel
theorem dX5_isSame_128 : decode cX5_isSame 128 = .ok (.iastore, 1) := by decide +kernel
theorem dX5_isSame_129 : decode cX5_isSame 129 = .ok (.dup, 1) := by decide +kernel
theorem dX5_isSame_130 : decode cX5_isSame 130 = .ok (.iconst 3, 1) := by decide +kernel
theorem dX5_isSame_131 : decode cX5_isSame 131 = .ok (.aload_n 0, 1) := by decide +kernel
theorem dX5_isSame_132 : decode cX5_isSame 132 = .ok (.iload 4, 2) := by decide +kernel
theorem dX5_isSame_134 : decode cX5_isSame 134 = .ok (.invokevirtual 43, 3) := by decide +kernel
theorem dX5_isSame_137 : decode cX5_isSame 137 = .ok (.iastore, 1) := by decide +kernel
theorem dX5_isSame_138 : decode cX5_isSame 138 = .ok (.dup, 1) := by decide +kernel
theorem dX5_isSame_139 : decode cX5_isSame 139 = .ok (.iconst 4, 1) := by decide +kernel
theorem dX5_isSame_140 : decode cX5_isSame 140 = .ok (.iconst 0, 1) := by decide +kernel
theorem dX5_isSame_141 : decode cX5_isSame 141 = .ok (.iastore, 1) := by decide +kernel
theorem dX5_isSame_142 : decode cX5_isSame 142 = .ok (.astore 5, 2) := by decide +kernel
theorem dX5_isSame_144 : decode cX5_isSame 144 = .ok (.aload_n 0, 1) := by decide +kernel
theorem dX5_isSame_145 : decode cX5_isSame 145 = .ok (.getfield 19, 3) := by decide +kernel
theorem dX5_isSame_148 : decode cX5_isSame 148 = .ok (.astore 6, 2) := by decide +kernel
theorem dX5_isSame_150 : decode cX5_isSame 150 = .ok (.aload 6, 2) := by decide +kernel
theorem dX5_isSame_152 : decode cX5_isSame 152 = .ok (.arraylength, 1) := by decide +kernel
theorem dX5_isSame_153 : decode cX5_isSame 153 = .ok (.istore 7, 2) := by decide +kernel
theorem dX5_isSame_155 : decode cX5_isSame 155 = .ok (.iconst 0, 1) := by decide +kernel
theorem dX5_isSame_156 : decode cX5_isSame 156 = .ok (.istore 8, 2) := by decide +kernel
theorem dX5_isSame_158 : decode cX5_isSame 158 = .ok (.iload 8, 2) := by decide +kernel
theorem dX5_isSame_160 : decode cX5_isSame 160 = .ok (.iload 7, 2) := by decide +kernel
theorem dX5_isSame_162 : decode cX5_isSame 162 = .ok (.if_icmp .ge 65, 3) := by decide +kernel
theorem dX5_isSame_165 : decode cX5_isSame 165 = .ok (.aload 6, 2) := by decide +kernel
theorem dX5_isSame_167 : decode cX5_isSame 167 = .ok (.iload 8, 2) := by decide +kernel
theorem dX5_isSame_169 : decode cX5_isSame 169 = .ok (.aaload, 1) := by decide +kernel
theorem dX5_isSame_170 : decode cX5_isSame 170 = .ok (.astore 9, 2) := by decide +kernel
theorem dX5_isSame_172 : decode cX5_isSame 172 = .ok (.aload 5, 2) := by decide +kernel
theorem dX5_isSame_174 : decode cX5_isSame 174 = .ok (.iconst 2, 1) := by decide +kernel
theorem dX5_isSame_175 : decode cX5_isSame 175 = .ok (.dup2, 1) := by decide +kernel
theorem dX5_isSame_176 : decode cX5_isSame 176 = .ok (.iaload, 1) := by decide +kernel
theorem dX5_isSame_177 : decode cX5_isSame 177 = .ok (.aload_n 0, 1) := by decide +kernel
theorem dX5_isSame_178 : decode cX5_isSame 178 = .ok (.aload 9, 2) := by decide +kernel
theorem dX5_isSame_180 : decode cX5_isSame 180 = .ok (.iload 4, 2) := by decide +kernel
theorem dX5_isSame_182 : decode cX5_isSame 182 = .ok (.invokevirtual 35, 3) := by decide +kernel
theorem dX5_isSame_185 : decode cX5_isSame 185 = .ok (.ifCond .eq 7, 3) := by decide +kernel
theorem dX5_isSame_188 : decode cX5_isSame 188 = .ok (.iconst 1, 1) := by decide +kernel
theorem dX5_isSame_189 : decode cX5_isSame 189 = .ok (.goto 4, 3) := by decide +kernel
theorem dX5_isSame_192 : decode cX5_isSame 192 = .ok (.iconst 0, 1) := by decide +kernel
theorem dX5_isSame_193 : decode cX5_isSame 193 = .ok (.iadd, 1) := by decide +kernel
theorem dX5_isSame_194 : decode cX5_isSame 194 = .ok (.iastore, 1) := by decide +kernel
theorem dX5_isSame_195 : decode cX5_isSame 195 = .ok (.aload 5, 2) := by decide +kernel
theorem dX5_isSame_197 : decode cX5_isSame 197 = .ok (.iconst 4, 1) := by decide +kernel
theorem dX5_isSame_198 : decode cX5_isSame 198 = .ok (.dup2, 1) := by decide +kernel
theorem dX5_isSame_199 : decode cX5_isSame 199 = .ok (.iaload, 1) := by decide +kernel
theorem dX5_isSame_200 : decode cX5_isSame 200 = .ok (.aload_n 0, 1) := by decide +kernel
theorem dX5_isSame_201 : decode cX5_isSame 201 = .ok (.aload 9, 2) := by decide +kernel
theorem dX5_isSame_203 : decode cX5_isSame 203 = .ok (.iload 4, 2) := by decide +kernel
theorem dX5_isSame_205 : decode cX5_isSame 205 = .ok (.invokevirtual 35, 3) := by decide +kernel
theorem dX5_isSame_208 : decode cX5_isSame 208 = .ok (.ifCond .eq 10, 3) := by decide +kernel
theorem dX5_isSame_211 : decode cX5_isSame 211 = .ok (.aload 9, 2) := by decide +kernel
theorem dX5_isSame_213 : decode cX5_isSame 213 = .ok (.iconst 2, 1) := by decide +kernel
theorem dX5_isSame_214 : decode cX5_isSame 214 = .ok (.iaload, 1) := by decide +kernel
theorem dX5_isSame_215 : decode cX5_isSame 215 = .ok (.goto 4, 3) := by decide +kernel
theorem dX5_isSame_218 : decode cX5_isSame 218 = .ok (.iconst 0, 1) := by decide +kernel
theorem dX5_isSame_219 : decode cX5_isSame 219 = .ok (.iadd, 1) := by decide +kernel
theorem dX5_isSame_220 : decode cX5_isSame 220 = .ok (.iastore, 1) := by decide +kernel
theorem dX5_isSame_221 : decode cX5_isSame 221 = .ok (.iinc 8 1, 3) := by decide +kernel
theorem dX5_isSame_224 : decode cX5_isSame 224 = .ok (.goto (-66), 3) := by decide +kernel
theorem dX5_isSame_227 : decode cX5_isSame 227 = .ok (.iload_n 3, 1) := by decide +kernel
theorem dX5_isSame_228 : decode cX5_isSame 228 = .ok (.aload_n 0, 1) := by decide +kernel
theorem dX5_isSame_229 : decode cX5_isSame 229 = .ok (.getfield 16, 3) := by decide +kernel
theorem dX5_isSame_232 : decode cX5_isSame 232 = .ok (.iload 4, 2) := by decide +kernel
theorem dX5_isSame_234 : decode cX5_isSame 234 = .ok (.aaload, 1) := by decide +kernel
theorem dX5_isSame_235 : decode cX5_isSame 235 = .ok (.iconst 1, 1) := by decide +kernel
theorem dX5_isSame_236 : decode cX5_isSame 236 = .ok (.iaload, 1) := by decide +kernel
theorem dX5_isSame_237 : decode cX5_isSame 237 = .ok (.iadd, 1) := by decide +kernel
theorem dX5_isSame_238 : decode cX5_isSame 238 = .ok (.istore_n 3, 1) := by decide +kernel
theorem dX5_isSame_239 : decode cX5_isSame 239 = .ok (.iconst 0, 1) := by decide +kernel
theorem dX5_isSame_240 : decode cX5_isSame 240 = .ok (.istore 6, 2) := by decide +kernel
theorem dX5_isSame_242 : decode cX5_isSame 242 = .ok (.iload 6, 2) := by decide +kernel
theorem dX5_isSame_244 : decode cX5_isSame 244 = .ok (.iconst 5, 1) := by decide +kernel
theorem dX5_isSame_245 : decode cX5_isSame 245 = .ok (.if_icmp .ge 27, 3) := by decide +kernel
theorem dX5_isSame_248 : decode cX5_isSame 248 = .ok (.aload_n 1, 1) := by decide +kernel
theorem dX5_isSame_249 : decode cX5_isSame 249 = .ok (.iload 4, 2) := by decide +kernel
theorem dX5_isSame_251 : decode cX5_isSame 251 = .ok (.iload 6, 2) := by decide +kernel
theorem dX5_isSame_253 : decode cX5_isSame 253 = .ok (.invokevirtual 67, 3) := by decide +kernel
theorem dX5_isSame_256 : decode cX5_isSame 256 = .ok (.aload 5, 2) := by decide +kernel
theorem dX5_isSame_258 : decode cX5_isSame 258 = .ok (.iload 6, 2) := by decide +kernel
theorem dX5_isSame_260 : decode cX5_isSame 260 = .ok (.iaload, 1) := by decide +kernel
theorem dX5_isSame_261 : decode cX5_isSame 261 = .ok (.if_icmp .eq 5, 3) := by decide +kernel
theorem dX5_isSame_264 : decode cX5_isSame 264 = .ok (.iconst 0, 1) := by decide +kernel
theorem dX5_isSame_265 : decode cX5_isSame 265 = .ok (.ireturn, 1) := by decide +kernel
theorem dX5_isSame_266 : decode cX5_isSame 266 = .ok (.iinc 6 1, 3) := by decide +kernel
theorem dX5_isSame_269 : decode cX5_isSame 269 = .ok (.goto (-27), 3) := by decide +kernel
theorem dX5_isSame_272 : decode cX5_isSame 272 = .ok (.iinc 4 1, 3) := by decide +kernel
theorem dX5_isSame_275 : decode cX5_isSame 275 = .ok (.goto (-187), 3) := by decide +kernel
theorem dX5_isSame_278 : decode cX5_isSame 278 = .ok (.iconst 0, 1) := by decide +kernel
theorem dX5_isSame_279 : decode cX5_isSame 279 = .ok (.istore 4, 2) := by decide +kernel
theorem dX5_isSame_281 : decode cX5_isSame 281 = .ok (.iload 4, 2) := by decide +kernel
theorem dX5_isSame_283 : decode cX5_isSame 283 = .ok (.aload_n 0, 1) := by decide +kernel
theorem dX5_isSame_284 : decode cX5_isSame 284 = .ok (.getfield 19, 3) := by decide +kernel
theorem dX5_isSame_287 : decode cX5_isSame 287 = .ok (.arraylength, 1) := by decide +kernel
theorem dX5_isSame_288 : decode cX5_isSame 288 = .ok (.if_icmp .ge 48, 3) := by decide +kernel
theorem dX5_isSame_291 : decode cX5_isSame 291 = .ok (.iconst 0, 1) := by decide +kernel
theorem dX5_isSame_292 : decode cX5_isSame 292 = .ok (.istore 5, 2) := by decide +kernel
theorem dX5_isSame_294 : decode cX5_isSame 294 = .ok (.iload 5, 2) := by decide +kernel
theorem dX5_isSame_296 : decode cX5_isSame 296 = .ok (.bipush 6, 2) := by decide +kernel
theorem dX5_isSame_298 : decode cX5_isSame 298 = .ok (.if_icmp .ge 32, 3) := by decide +kernel
theorem dX5_isSame_301 : decode cX5_isSame 301 = .ok (.aload_n 1, 1) := by decide +kernel
theorem dX5_isSame_302 : decode cX5_isSame 302 = .ok (.iload 4, 2) := by decide +kernel
theorem dX5_isSame_304 : decode cX5_isSame 304 = .ok (.iload 5, 2) := by decide +kernel
theorem dX5_isSame_306 : decode cX5_isSame 306 = .ok (.invokevirtual 70, 3) := by decide +kernel
theorem dX5_isSame_309 : decode cX5_isSame 309 = .ok (.aload_n 0, 1) := by decide +kernel
theorem dX5_isSame_310 : decode cX5_isSame 310 = .ok (.getfield 19, 3) := by decide +kernel
theorem dX5_isSame_313 : decode cX5_isSame 313 = .ok (.iload 4, 2) := by decide +kernel
theorem dX5_isSame_315 : decode cX5_isSame 315 = .ok (.aaload, 1) := by decide +kernel
theorem dX5_isSame_316 : decode cX5_isSame 316 = .ok (.iload 5, 2) := by decide +kernel
theorem dX5_isSame_318 : decode cX5_isSame 318 = .ok (.iaload, 1) := by decide +kernel
theorem dX5_isSame_319 : decode cX5_isSame 319 = .ok (.if_icmp .eq 5, 3) := by decide +kernel
theorem dX5_isSame_322 : decode cX5_isSame 322 = .ok (.iconst 0, 1) := by decide +kernel
theorem dX5_isSame_323 : decode cX5_isSame 323 = .ok (.ireturn, 1) := by decide +kernel
theorem dX5_isSame_324 : decode cX5_isSame 324 = .ok (.iinc 5 1, 3) := by decide +kernel
theorem dX5_isSame_327 : decode cX5_isSame 327 = .ok (.goto (-33), 3) := by decide +kernel
theorem dX5_isSame_330 : decode cX5_isSame 330 = .ok (.iinc 4 1, 3) := by decide +kernel
theorem dX5_isSame_333 : decode cX5_isSame 333 = .ok (.goto (-52), 3) := by decide +kernel
theorem dX5_isSame_336 : decode cX5_isSame 336 = .ok (.bipush 9, 2) := by decide +kernel
theorem dX5_isSame_338 : decode cX5_isSame 338 = .ok (.newarray .int, 2) := by decide +kernel
theorem dX5_isSame_340 : decode cX5_isSame 340 = .ok (.dup, 1) := by decide +kernel
theorem dX5_isSame_341 : decode cX5_isSame 341 = .ok (.iconst 0, 1) := by decide +kernel
theorem dX5_isSame_342 : decode cX5_isSame 342 = .ok (.aload_n 0, 1) := by decide +kernel
theorem dX5_isSame_343 : decode cX5_isSame 343 = .ok (.getfield 31, 3) := by decide +kernel
theorem dX5_isSame_346 : decode cX5_isSame 346 = .ok (.iastore, 1) := by decide +kernel
theorem dX5_isSame_347 : decode cX5_isSame 347 = .ok (.dup, 1) := by decide +kernel
theorem dX5_isSame_348 : decode cX5_isSame 348 = .ok (.iconst 1, 1) := by decide +kernel
theorem dX5_isSame_349 : decode cX5_isSame 349 = .ok (.aload_n 0, 1) := by decide +kernel
theorem dX5_isSame_350 : decode cX5_isSame 350 = .ok (.getfield 31, 3) := by decide +kernel
theorem dX5_isSame_353 : decode cX5_isSame 353 = .ok (.invokestatic 47, 3) := by decide +kernel
theorem dX5_isSame_356 : decode cX5_isSame 356 = .ok (.iastore, 1) := by decide +kernel
theorem dX5_isSame_357 : decode cX5_isSame 357 = .ok (.dup, 1) := by decide +kernel
theorem dX5_isSame_358 : decode cX5_isSame 358 = .ok (.iconst 2, 1) := by decide +kernel
theorem dX5_isSame_359 : decode cX5_isSame 359 = .ok (.aload_n 0, 1) := by decide +kernel
theorem dX5_isSame_360 : decode cX5_isSame 360 = .ok (.invokevirtual 73, 3) := by decide +kernel
theorem dX5_isSame_363 : decode cX5_isSame 363 = .ok (.iastore, 1) := by decide +kernel
theorem dX5_isSame_364 : decode cX5_isSame 364 = .ok (.dup, 1) := by decide +kernel
theorem dX5_isSame_365 : decode cX5_isSame 365 = .ok (.iconst 3, 1) := by decide +kernel
theorem dX5_isSame_366 : decode cX5_isSame 366 = .ok (.aload_n 0, 1) := by decide +kernel
theorem dX5_isSame_367 : decode cX5_isSame 367 = .ok (.getfield 16, 3) := by decide +kernel
theorem dX5_isSame_370 : decode cX5_isSame 370 = .ok (.arraylength, 1) := by decide +kernel
theorem dX5_isSame_371 : decode cX5_isSame 371 = .ok (.iastore, 1) := by decide +kernel
theorem dX5_isSame_372 : decode cX5_isSame 372 = .ok (.dup, 1) := by decide +kernel
theorem dX5_isSame_373 : decode cX5_isSame 373 = .ok (.iconst 4, 1) := by decide +kernel
theorem dX5_isSame_374 : decode cX5_isSame 374 = .ok (.iload_n 3, 1) := by decide +kernel
theorem dX5_isSame_375 : decode cX5_isSame 375 = .ok (.iastore, 1) := by decide +kernel
theorem dX5_isSame_376 : decode cX5_isSame 376 = .ok (.dup, 1) := by decide +kernel
theorem dX5_isSame_377 : decode cX5_isSame 377 = .ok (.iconst 5, 1) := by decide +kernel
theorem dX5_isSame_378 : decode cX5_isSame 378 = .ok (.aload_n 0, 1) := by decide +kernel
theorem dX5_isSame_379 : decode cX5_isSame 379 = .ok (.getfield 19, 3) := by decide +kernel
theorem dX5_isSame_382 : decode cX5_isSame 382 = .ok (.arraylength, 1) := by decide +kernel
theorem dX5_isSame_383 : decode cX5_isSame 383 = .ok (.aload_n 0, 1) := by decide +kernel
theorem dX5_isSame_384 : decode cX5_isSame 384 = .ok (.iconst 5, 1) := by decide +kernel
theorem dX5_isSame_385 : decode cX5_isSame 385 = .ok (.invokevirtual 77, 3) := by decide +kernel
theorem dX5_isSame_388 : decode cX5_isSame 388 = .ok (.isub, 1) := by decide +kernel
theorem dX5_isSame_389 : decode cX5_isSame 389 = .ok (.iastore, 1) := by decide +kernel
theorem dX5_isSame_390 : decode cX5_isSame 390 = .ok (.dup, 1) := by decide +kernel
theorem dX5_isSame_391 : decode cX5_isSame 391 = .ok (.bipush 6, 2) := by decide +kernel
theorem dX5_isSame_393 : decode cX5_isSame 393 = .ok (.aload_n 0, 1) := by decide +kernel
theorem dX5_isSame_394 : decode cX5_isSame 394 = .ok (.iconst 2, 1) := by decide +kernel
theorem dX5_isSame_395 : decode cX5_isSame 395 = .ok (.invokevirtual 77, 3) := by decide +kernel
theorem dX5_isSame_398 : decode cX5_isSame 398 = .ok (.iastore, 1) := by decide +kernel
theorem dX5_isSame_399 : decode cX5_isSame 399 = .ok (.dup, 1) := by decide +kernel
theorem dX5_isSame_400 : decode cX5_isSame 400 = .ok (.bipush 7, 2) := by decide +kernel
theorem dX5_isSame_402 : decode cX5_isSame 402 = .ok (.aload_n 0, 1) := by decide +kernel
theorem dX5_isSame_403 : decode cX5_isSame 403 = .ok (.getfield 50, 3) := by decide +kernel
theorem dX5_isSame_406 : decode cX5_isSame 406 = .ok (.iastore, 1) := by decide +kernel
theorem dX5_isSame_407 : decode cX5_isSame 407 = .ok (.dup, 1) := by decide +kernel
theorem dX5_isSame_408 : decode cX5_isSame 408 = .ok (.bipush 8, 2) := by decide +kernel
theorem dX5_isSame_410 : decode cX5_isSame 410 = .ok (.iload_n 2, 1) := by decide +kernel
theorem dX5_isSame_411 : decode cX5_isSame 411 = .ok (.iastore, 1) := by decide +kernel
theorem dX5_isSame_412 : decode cX5_isSame 412 = .ok (.astore 4, 2) := by decide +kernel
theorem dX5_isSame_414 : decode cX5_isSame 414 = .ok (.iconst 0, 1) := by decide +kernel
theorem dX5_isSame_415 : decode cX5_isSame 415 = .ok (.istore 5, 2) := by decide +kernel
theorem dX5_isSame_417 : decode cX5_isSame 417 = .ok (.iload 5, 2) := by decide +kernel
theorem dX5_isSame_419 : decode cX5_isSame 419 = .ok (.bipush 9, 2) := by decide +kernel
theorem dX5_isSame_421 : decode cX5_isSame 421 = .ok (.if_icmp .ge 25, 3) := by decide +kernel
theorem dX5_isSame_424 : decode cX5_isSame 424 = .ok (.aload_n 1, 1) := by decide +kernel
theorem dX5_isSame_425 : decode cX5_isSame 425 = .ok (.iload 5, 2) := by decide +kernel
theorem dX5_isSame_427 : decode cX5_isSame 427 = .ok (.invokevirtual 80, 3) := by decide +kernel
theorem dX5_isSame_430 : decode cX5_isSame 430 = .ok (.aload 4, 2) := by decide +kernel
theorem dX5_isSame_432 : decode cX5_isSame 432 = .ok (.iload 5, 2) := by decide +kernel
theorem dX5_isSame_434 : decode cX5_isSame 434 = .ok (.iaload, 1) := by decide +kernel
theorem dX5_isSame_435 : decode cX5_isSame 435 = .ok (.if_icmp .eq 5, 3) := by decide +kernel
theorem dX5_isSame_438 : decode cX5_isSame 438 = .ok (.iconst 0, 1) := by decide +kernel
theorem dX5_isSame_439 : decode cX5_isSame 439 = .ok (.ireturn, 1) := by decide +kernel
theorem dX5_isSame_440 : decode cX5_isSame 440 = .ok (.iinc 5 1, 3) := by decide +kernel
theorem dX5_isSame_443 : decode cX5_isSame 443 = .ok (.goto (-26), 3) := by decide +kernel
theorem dX5_isSame_446 : decode cX5_isSame 446 = .ok (.aload_n 1, 1) := by decide +kernel
theorem dX5_isSame_447 : decode cX5_isSame 447 = .ok (.invokevirtual 83, 3) := by decide +kernel
theorem dX5_isSame_450 : decode cX5_isSame 450 = .ok (.aload_n 0, 1) := by decide +kernel
theorem dX5_isSame_451 : decode cX5_isSame 451 = .ok (.getfield 19, 3) := by decide +kernel
theorem dX5_isSame_454 : decode cX5_isSame 454 = .ok (.arraylength, 1) := by decide +kernel
theorem dX5_isSame_455 : decode cX5_isSame 455 = .ok (.ifCond .ne 7, 3) := by decide +kernel
theorem dX5_isSame_458 : decode cX5_isSame 458 = .ok (.dconst 0, 1) := by decide +kernel
theorem dX5_isSame_459 : decode cX5_isSame 459 = .ok (.goto 16, 3) := by decide +kernel
theorem dX5_isSame_462 : decode cX5_isSame 462 = .ok (.aload_n 0, 1) := by decide +kernel
theorem dX5_isSame_463 : decode cX5_isSame 463 = .ok (.iconst 4, 1) := by decide +kernel
theorem dX5_isSame_464 : decode cX5_isSame 464 = .ok (.invokevirtual 77, 3) := by decide +kernel
theorem dX5_isSame_467 : decode cX5_isSame 467 = .ok (.i2d, 1) := by decide +kernel
theorem dX5_isSame_468 : decode cX5_isSame 468 = .ok (.aload_n 0, 1) := by decide +kernel
theorem dX5_isSame_469 : decode cX5_isSame 469 = .ok (.getfield 19, 3) := by decide +kernel
theorem dX5_isSame_472 : decode cX5_isSame 472 = .ok (.arraylength, 1) := by decide +kernel
theorem dX5_isSame_473 : decode cX5_isSame 473 = .ok (.i2d, 1) := by decide +kernel
theorem dX5_isSame_474 : decode cX5_isSame 474 = .ok (.ddiv, 1) := by decide +kernel
theorem dX5_isSame_475 : decode cX5_isSame 475 = .ok (.dcmp .l, 1) := by decide +kernel
theorem dX5_isSame_476 : decode cX5_isSame 476 = .ok (.ifCond .ne 7, 3) := by decide +kernel
theorem dX5_isSame_479 : decode cX5_isSame 479 = .ok (.iconst 1, 1) := by decide +kernel
theorem dX5_isSame_480 : decode cX5_isSame 480 = .ok (.goto 4, 3) := by decide +kernel
theorem dX5_isSame_483 : decode cX5_isSame 483 = .ok (.iconst 0, 1) := by decide +kernel
theorem dX5_isSame_484 : decode cX5_isSame 484 = .ok (.ireturn, 1) := by decide +kernel
theorem dJ9_abs_0f7a4_0 : decode cJ9_abs_0f7a4 0 = .ok (.iload_n 0, 1) := by decide +kernel
theorem dJ9_abs_0f7a4_1 : decode cJ9_abs_0f7a4 1 = .ok (.ifCond .ge 8, 3) := by decide +kernel
theorem dJ9_abs_0f7a4_4 : decode cJ9_abs_0f7a4 4 = .ok (.iload_n 0, 1) := by decide +kernel
theorem dJ9_abs_0f7a4_5 : decode cJ9_abs_0f7a4 5 = .ok (.ineg, 1) := by decide +kernel
theorem dJ9_abs_0f7a4_6 : decode cJ9_abs_0f7a4 6 = .ok (.goto 4, 3) := by decide +kernel
theorem dJ9_abs_0f7a4_9 : decode cJ9_abs_0f7a4 9 = .ok (.iload_n 0, 1) := by decide +kernel
theorem dJ9_abs_0f7a4_10 : decode cJ9_abs_0f7a4 10 = .ok (.ireturn, 1) := by decide +kernel
theorem dJ9_min_7cf53_0 : decode cJ9_min_7cf53 0 = .ok (.iload_n 0, 1) := by decide +kernel
theorem dJ9_min_7cf53_1 : decode cJ9_min_7cf53 1 = .ok (.iload_n 1, 1) := by decide +kernel
theorem dJ9_min_7cf53_2 : decode cJ9_min_7cf53 2 = .ok (.if_icmp .gt 7, 3) := by decide +kernel
theorem dJ9_min_7cf53_5 : decode cJ9_min_7cf53 5 = .ok (.iload_n 0, 1) := by decide +kernel
theorem dJ9_min_7cf53_6 : decode cJ9_min_7cf53 6 = .ok (.goto 4, 3) := by decide +kernel
theorem dJ9_min_7cf53_9 : decode cJ9_min_7cf53 9 = .ok (.iload_n 1, 1) := by decide +kernel
theorem dJ9_min_7cf53_10 : decode cJ9_min_7cf53 10 = .ok (.ireturn, 1) := by decide +kernel
theorem dL_below_0 : decode cL_below 0 = .ok (.iload_n 0, 1) := by decide +kernel
theorem dL_below_1 : decode cL_below 1 = .ok (.ldc 7, 2) := by decide +kernel
theorem dL_below_3 : decode cL_below 3 = .ok (.iand, 1) := by decide +kernel
theorem dL_below_4 : decode cL_below 4 = .ok (.iload_n 1, 1) := by decide +kernel
theorem dL_below_5 : decode cL_below 5 = .ok (.irem, 1) := by decide +kernel
theorem dL_below_6 : decode cL_below 6 = .ok (.ireturn, 1) := by decide +kernel
theorem dL_cell_0 : decode cL_cell 0 = .ok (.iload_n 1, 1) := by decide +kernel
theorem dL_cell_1 : decode cL_cell 1 = .ok (.aload_n 0, 1) := by decide +kernel
theorem dL_cell_2 : decode cL_cell 2 = .ok (.arraylength, 1) := by decide +kernel
theorem dL_cell_3 : decode cL_cell 3 = .ok (.if_icmp .ge 9, 3) := by decide +kernel
theorem dL_cell_6 : decode cL_cell 6 = .ok (.aload_n 0, 1) := by decide +kernel
theorem dL_cell_7 : decode cL_cell 7 = .ok (.iload_n 1, 1) := by decide +kernel
theorem dL_cell_8 : decode cL_cell 8 = .ok (.iaload, 1) := by decide +kernel
theorem dL_cell_9 : decode cL_cell 9 = .ok (.goto 9, 3) := by decide +kernel
theorem dL_cell_12 : decode cL_cell 12 = .ok (.ldc 8, 2) := by decide +kernel
theorem dL_cell_14 : decode cL_cell 14 = .ok (.iload_n 1, 1) := by decide +kernel
theorem dL_cell_15 : decode cL_cell 15 = .ok (.iconst 3, 1) := by decide +kernel
theorem dL_cell_16 : decode cL_cell 16 = .ok (.iadd, 1) := by decide +kernel
theorem dL_cell_17 : decode cL_cell 17 = .ok (.imul, 1) := by decide +kernel
theorem dL_cell_18 : decode cL_cell 18 = .ok (.ireturn, 1) := by decide +kernel
set_option maxRecDepth 20000 in
theorem ggL_act_L_below : GoodIn wsL_act wsL_below := goodIn_r _ [8, 9] (by decide +kernel) (by decide +kernel)
set_option maxRecDepth 20000 in
theorem gL_act_L_below : GoodIn wsL_act (va_wsS RL 18 yL_below wsL_below) := goodIn_app (goodIn_of _ (by decide +kernel)) ggL_act_L_below
set_option maxRecDepth 20000 in
theorem ggL_act_X5_more : GoodIn wsL_act wsX5_more := goodIn_r _ [13, 14] (by decide +kernel) (by decide +kernel)
set_option maxRecDepth 20000 in
theorem gL_act_X5_more : GoodIn wsL_act (va_wsS RL 24 yX5_more wsX5_more) := goodIn_app (goodIn_of _ (by decide +kernel)) ggL_act_X5_more
set_option maxRecDepth 20000 in
theorem ggL_act_X4_open : GoodIn wsL_act wsX4_open := goodIn_ca (goodIn_ca (goodIn_r _ [19, 20, 21, 22, 23, 24, 18, 25, 26, 27, 28, 29, 30, 31, 32, 33, 34, 35, 36, 37, 38, 39, 164, 165, 166, 167, 168, 169, 170, 171, 172, 173, 174] (by decide +kernel) (by decide +kernel)) (goodIn_sub (fun _ h => List.mem_cons_of_mem _ (List.mem_append_left _ (List.mem_append_left _ (List.mem_append_right _ h)))) (by decide +kernel))) (goodIn_sub (fun _ h => List.mem_cons_of_mem _ (List.mem_append_left _ (List.mem_append_right _ h))) (by decide +kernel))
set_option maxRecDepth 20000 in
theorem gL_act_X4_open : GoodIn wsL_act (wsV RL 28 RX4 yX4_open wsX4_open) := goodIn_app (goodIn_of _ (by decide +kernel)) ggL_act_X4_open
set_option maxRecDepth 20000 in
theorem ggL_act_X4_lamp : GoodIn wsL_act wsX4_lamp := goodIn_ca (goodIn_r _ [43, 22, 44, 45, 46, 18, 47, 48, 49, 50, 51, 52, 31, 53, 33, 54, 55, 56, 57, 39, 58, 59, 60, 61, 62, 164, 165, 166, 167, 168, 169, 170, 171, 172, 173, 174] (by decide +kernel) (by decide +kernel)) (goodIn_sub (fun _ h => List.mem_cons_of_mem _ (List.mem_append_right _ h)) (by decide +kernel))
set_option maxRecDepth 20000 in
theorem gL_act_X4_lamp : GoodIn wsL_act (wsV RL 34 RX4 yX4_lamp wsX4_lamp) := goodIn_app (goodIn_of _ (by decide +kernel)) ggL_act_X4_lamp
set_option maxRecDepth 20000 in
theorem ggL_act_X4_swarm : GoodIn wsL_act wsX4_swarm := goodIn_ca (goodIn_ca (goodIn_r _ [66, 22, 67, 68, 18, 69, 48, 49, 23, 24, 25, 26, 27, 70, 71, 72, 73, 74, 75, 76, 77, 78, 79, 80, 81, 82, 83, 84, 85, 86, 164, 165, 166, 167, 168, 169, 170, 171, 175] (by decide +kernel) (by decide +kernel)) (goodIn_sub (fun _ h => List.mem_cons_of_mem _ (List.mem_append_right _ h)) (by decide +kernel))) (goodIn_sub (fun _ h => List.mem_cons_of_mem _ (List.mem_append_left _ (List.mem_append_right _ h))) (by decide +kernel))
set_option maxRecDepth 20000 in
theorem gL_act_X4_swarm : GoodIn wsL_act (wsV RL 41 RX4 yX4_swarm wsX4_swarm) := goodIn_app (goodIn_of _ (by decide +kernel)) ggL_act_X4_swarm
set_option maxRecDepth 20000 in
theorem ggL_act_X4_stay : GoodIn wsL_act wsX4_stay := goodIn_ca (goodIn_ca (goodIn_ca (goodIn_r _ [90, 20, 21, 22, 44, 45, 46, 18, 47, 48, 49, 50, 51, 52, 31, 53, 33, 23, 24, 25, 26, 27, 91, 92, 93, 94, 95, 96, 97, 98, 99, 100, 101, 102, 103, 104, 164, 165, 166, 167, 168, 169, 170, 171, 172, 173, 174, 176, 177, 178, 179, 180, 181, 182] (by decide +kernel) (by decide +kernel)) (goodIn_sub (fun _ h => List.mem_cons_of_mem _ (List.mem_append_left _ (List.mem_append_left _ (List.mem_append_right _ h)))) (by decide +kernel))) (goodIn_sub (fun _ h => List.mem_cons_of_mem _ (List.mem_append_right _ h)) (by decide +kernel))) (goodIn_sub (fun _ h => List.mem_cons_of_mem _ (List.mem_append_left _ (List.mem_append_right _ h))) (by decide +kernel))
set_option maxRecDepth 20000 in
theorem gL_act_X4_stay : GoodIn wsL_act (wsV RL 45 RX4 yX4_stay wsX4_stay) := goodIn_app (goodIn_of _ (by decide +kernel)) ggL_act_X4_stay
set_option maxRecDepth 20000 in
theorem ggL_act_X4_move : GoodIn wsL_act wsX4_move := goodIn_ca (goodIn_ca (goodIn_r _ [108, 22, 109, 110, 111, 18, 112, 48, 49, 113, 114, 115, 94, 116, 96, 44, 45, 46, 47, 50, 51, 52, 31, 53, 33, 117, 118, 119, 120, 20, 21, 121, 122, 123, 124, 104, 125, 126, 127, 128, 129, 101, 130, 131, 132, 133, 164, 165, 166, 167, 168, 169, 170, 171, 176, 177, 178, 179, 180, 181, 182, 172, 173, 174] (by decide +kernel) (by decide +kernel)) (goodIn_sub (fun _ h => List.mem_cons_of_mem _ (List.mem_append_right _ h)) (by decide +kernel))) (goodIn_sub (fun _ h => List.mem_cons_of_mem _ (List.mem_append_left _ (List.mem_append_left _ (List.mem_append_right _ h)))) (by decide +kernel))
set_option maxRecDepth 20000 in
theorem gL_act_X4_move : GoodIn wsL_act (wsV RL 49 RX4 yX4_move wsX4_move) := goodIn_app (goodIn_of _ (by decide +kernel)) ggL_act_X4_move
set_option maxRecDepth 20000 in
theorem ggL_act_X4_leave : GoodIn wsL_act wsX4_leave := goodIn_ca (goodIn_ca (goodIn_r _ [137, 22, 109, 110, 111, 18, 112, 48, 49, 113, 114, 115, 94, 116, 96, 117, 118, 119, 120, 20, 21, 121, 122, 123, 124, 104, 125, 138, 139, 140, 141, 103, 142, 143, 144, 145, 146, 164, 165, 166, 167, 168, 169, 170, 171, 176, 177, 178, 179, 180, 181, 182] (by decide +kernel) (by decide +kernel)) (goodIn_sub (fun _ h => List.mem_cons_of_mem _ (List.mem_append_right _ h)) (by decide +kernel))) (goodIn_sub (fun _ h => List.mem_cons_of_mem _ (List.mem_append_left _ (List.mem_append_left _ (List.mem_append_right _ h)))) (by decide +kernel))
set_option maxRecDepth 20000 in
theorem gL_act_X4_leave : GoodIn wsL_act (wsV RL 52 RX4 yX4_leave wsX4_leave) := goodIn_app (goodIn_of _ (by decide +kernel)) ggL_act_X4_leave
set_option maxRecDepth 20000 in
theorem ggL_act_X4_hush : GoodIn wsL_act wsX4_hush := goodIn_ca (goodIn_ca (goodIn_r _ [150, 22, 109, 110, 111, 18, 112, 48, 49, 113, 114, 115, 94, 116, 96, 23, 24, 25, 26, 27, 151, 152, 153, 154, 102, 125, 155, 156, 157, 158, 164, 165, 166, 167, 168, 169, 170, 171, 176, 177, 178, 179, 180, 181, 182] (by decide +kernel) (by decide +kernel)) (goodIn_sub (fun _ h => List.mem_cons_of_mem _ (List.mem_append_right _ h)) (by decide +kernel))) (goodIn_sub (fun _ h => List.mem_cons_of_mem _ (List.mem_append_left _ (List.mem_append_right _ h))) (by decide +kernel))
set_option maxRecDepth 20000 in
theorem gL_act_X4_hush : GoodIn wsL_act (wsV RL 55 RX4 yX4_hush wsX4_hush) := goodIn_app (goodIn_of _ (by decide +kernel)) ggL_act_X4_hush
theorem dL_act_0 : decode cL_act 0 = .ok (.aload_n 1, 1) := by decide +kernel
theorem dL_act_1 : decode cL_act 1 = .ok (.getfield 9, 3) := by decide +kernel
theorem dL_act_4 : decode cL_act 4 = .ok (.arraylength, 1) := by decide +kernel
theorem dL_act_5 : decode cL_act 5 = .ok (.istore_n 3, 1) := by decide +kernel
theorem dL_act_6 : decode cL_act 6 = .ok (.aload_n 1, 1) := by decide +kernel
theorem dL_act_7 : decode cL_act 7 = .ok (.getfield 15, 3) := by decide +kernel
theorem dL_act_10 : decode cL_act 10 = .ok (.arraylength, 1) := by decide +kernel
theorem dL_act_11 : decode cL_act 11 = .ok (.istore 4, 2) := by decide +kernel
theorem dL_act_13 : decode cL_act 13 = .ok (.iload 4, 2) := by decide +kernel
theorem dL_act_15 : decode cL_act 15 = .ok (.ifCond .ne 7, 3) := by decide +kernel
theorem dL_act_18 : decode cL_act 18 = .ok (.aconst_null, 1) := by decide +kernel
theorem dL_act_19 : decode cL_act 19 = .ok (.goto 14, 3) := by decide +kernel
theorem dL_act_22 : decode cL_act 22 = .ok (.aload_n 1, 1) := by decide +kernel
theorem dL_act_23 : decode cL_act 23 = .ok (.getfield 15, 3) := by decide +kernel
theorem dL_act_26 : decode cL_act 26 = .ok (.iload_n 2, 1) := by decide +kernel
theorem dL_act_27 : decode cL_act 27 = .ok (.iload 4, 2) := by decide +kernel
theorem dL_act_29 : decode cL_act 29 = .ok (.invokestatic 18, 3) := by decide +kernel
theorem dL_act_32 : decode cL_act 32 = .ok (.aaload, 1) := by decide +kernel
theorem dL_act_33 : decode cL_act 33 = .ok (.astore 5, 2) := by decide +kernel
theorem dL_act_35 : decode cL_act 35 = .ok (.iload_n 3, 1) := by decide +kernel
theorem dL_act_36 : decode cL_act 36 = .ok (.ifCond .ne 7, 3) := by decide +kernel
theorem dL_act_39 : decode cL_act 39 = .ok (.iconst 0, 1) := by decide +kernel
theorem dL_act_40 : decode cL_act 40 = .ok (.goto 10, 3) := by decide +kernel
theorem dL_act_43 : decode cL_act 43 = .ok (.iload_n 2, 1) := by decide +kernel
theorem dL_act_44 : decode cL_act 44 = .ok (.iconst 3, 1) := by decide +kernel
theorem dL_act_45 : decode cL_act 45 = .ok (.ishr, 1) := by decide +kernel
theorem dL_act_46 : decode cL_act 46 = .ok (.iload_n 3, 1) := by decide +kernel
theorem dL_act_47 : decode cL_act 47 = .ok (.invokestatic 18, 3) := by decide +kernel
theorem dL_act_50 : decode cL_act 50 = .ok (.istore 6, 2) := by decide +kernel
theorem dL_act_52 : decode cL_act 52 = .ok (.iload_n 3, 1) := by decide +kernel
theorem dL_act_53 : decode cL_act 53 = .ok (.ifCond .ne 7, 3) := by decide +kernel
theorem dL_act_56 : decode cL_act 56 = .ok (.iconst 0, 1) := by decide +kernel
theorem dL_act_57 : decode cL_act 57 = .ok (.goto 12, 3) := by decide +kernel
theorem dL_act_60 : decode cL_act 60 = .ok (.iload_n 2, 1) := by decide +kernel
theorem dL_act_61 : decode cL_act 61 = .ok (.bipush 9, 2) := by decide +kernel
theorem dL_act_63 : decode cL_act 63 = .ok (.ishr, 1) := by decide +kernel
theorem dL_act_64 : decode cL_act 64 = .ok (.bipush 16, 2) := by decide +kernel
theorem dL_act_66 : decode cL_act 66 = .ok (.invokestatic 18, 3) := by decide +kernel
theorem dL_act_69 : decode cL_act 69 = .ok (.tableswitch 466 0 12 #[67, 67, 126, 126, 179, 179, 179, 179, 255, 255, 255, 358, 408], 67) := by decide +kernel
theorem dL_act_136 : decode cL_act 136 = .ok (.iload_n 3, 1) := by decide +kernel
theorem dL_act_137 : decode cL_act 137 = .ok (.bipush 6, 2) := by decide +kernel
theorem dL_act_139 : decode cL_act 139 = .ok (.if_icmp .ne 5, 3) := by decide +kernel
theorem dL_act_142 : decode cL_act 142 = .ok (.iconst 1, 1) := by decide +kernel
theorem dL_act_143 : decode cL_act 143 = .ok (.ireturn, 1) := by decide +kernel
theorem dL_act_144 : decode cL_act 144 = .ok (.aload_n 1, 1) := by decide +kernel
theorem dL_act_145 : decode cL_act 145 = .ok (.aload_n 1, 1) := by decide +kernel
theorem dL_act_146 : decode cL_act 146 = .ok (.getfield 9, 3) := by decide +kernel
theorem dL_act_149 : decode cL_act 149 = .ok (.iconst 2, 1) := by decide +kernel
theorem dL_act_150 : decode cL_act 150 = .ok (.newarray .int, 2) := by decide +kernel
theorem dL_act_152 : decode cL_act 152 = .ok (.dup, 1) := by decide +kernel
theorem dL_act_153 : decode cL_act 153 = .ok (.iconst 0, 1) := by decide +kernel
theorem dL_act_154 : decode cL_act 154 = .ok (.iload_n 2, 1) := by decide +kernel
theorem dL_act_155 : decode cL_act 155 = .ok (.iconst 2, 1) := by decide +kernel
theorem dL_act_156 : decode cL_act 156 = .ok (.ishr, 1) := by decide +kernel
theorem dL_act_157 : decode cL_act 157 = .ok (.bipush 10, 2) := by decide +kernel
theorem dL_act_159 : decode cL_act 159 = .ok (.invokestatic 18, 3) := by decide +kernel
theorem dL_act_162 : decode cL_act 162 = .ok (.iastore, 1) := by decide +kernel
theorem dL_act_163 : decode cL_act 163 = .ok (.dup, 1) := by decide +kernel
theorem dL_act_164 : decode cL_act 164 = .ok (.iconst 1, 1) := by decide +kernel
theorem dL_act_165 : decode cL_act 165 = .ok (.iconst 1, 1) := by decide +kernel
theorem dL_act_166 : decode cL_act 166 = .ok (.iastore, 1) := by decide +kernel
theorem dL_act_167 : decode cL_act 167 = .ok (.invokestatic 24, 3) := by decide +kernel
theorem dL_act_170 : decode cL_act 170 = .ok (.putfield 9, 3) := by decide +kernel
theorem dL_act_173 : decode cL_act 173 = .ok (.aload_n 0, 1) := by decide +kernel
theorem dL_act_174 : decode cL_act 174 = .ok (.iload_n 2, 1) := by decide +kernel
theorem dL_act_175 : decode cL_act 175 = .ok (.iconst 2, 1) := by decide +kernel
theorem dL_act_176 : decode cL_act 176 = .ok (.ishr, 1) := by decide +kernel
theorem dL_act_177 : decode cL_act 177 = .ok (.bipush 10, 2) := by decide +kernel
theorem dL_act_179 : decode cL_act 179 = .ok (.invokestatic 18, 3) := by decide +kernel
theorem dL_act_182 : decode cL_act 182 = .ok (.invokevirtual 28, 3) := by decide +kernel
theorem dL_act_185 : decode cL_act 185 = .ok (.iload_n 3, 1) := by decide +kernel
theorem dL_act_186 : decode cL_act 186 = .ok (.if_icmp .ne 7, 3) := by decide +kernel
theorem dL_act_189 : decode cL_act 189 = .ok (.iconst 1, 1) := by decide +kernel
theorem dL_act_190 : decode cL_act 190 = .ok (.goto 4, 3) := by decide +kernel
theorem dL_act_193 : decode cL_act 193 = .ok (.iconst 0, 1) := by decide +kernel
theorem dL_act_194 : decode cL_act 194 = .ok (.ireturn, 1) := by decide +kernel
theorem dL_act_195 : decode cL_act 195 = .ok (.aload_n 1, 1) := by decide +kernel
theorem dL_act_196 : decode cL_act 196 = .ok (.getfield 9, 3) := by decide +kernel
theorem dL_act_199 : decode cL_act 199 = .ok (.iload 6, 2) := by decide +kernel
theorem dL_act_201 : decode cL_act 201 = .ok (.aaload, 1) := by decide +kernel
theorem dL_act_202 : decode cL_act 202 = .ok (.iconst 1, 1) := by decide +kernel
theorem dL_act_203 : decode cL_act 203 = .ok (.iconst 1, 1) := by decide +kernel
theorem dL_act_204 : decode cL_act 204 = .ok (.aload_n 1, 1) := by decide +kernel
theorem dL_act_205 : decode cL_act 205 = .ok (.getfield 9, 3) := by decide +kernel
theorem dL_act_208 : decode cL_act 208 = .ok (.iload 6, 2) := by decide +kernel
theorem dL_act_210 : decode cL_act 210 = .ok (.aaload, 1) := by decide +kernel
theorem dL_act_211 : decode cL_act 211 = .ok (.iconst 1, 1) := by decide +kernel
theorem dL_act_212 : decode cL_act 212 = .ok (.iaload, 1) := by decide +kernel
theorem dL_act_213 : decode cL_act 213 = .ok (.isub, 1) := by decide +kernel
theorem dL_act_214 : decode cL_act 214 = .ok (.iastore, 1) := by decide +kernel
theorem dL_act_215 : decode cL_act 215 = .ok (.aload_n 0, 1) := by decide +kernel
theorem dL_act_216 : decode cL_act 216 = .ok (.iload 6, 2) := by decide +kernel
theorem dL_act_218 : decode cL_act 218 = .ok (.invokevirtual 34, 3) := by decide +kernel
theorem dL_act_221 : decode cL_act 221 = .ok (.aload_n 1, 1) := by decide +kernel
theorem dL_act_222 : decode cL_act 222 = .ok (.getfield 9, 3) := by decide +kernel
theorem dL_act_225 : decode cL_act 225 = .ok (.iload 6, 2) := by decide +kernel
theorem dL_act_227 : decode cL_act 227 = .ok (.aaload, 1) := by decide +kernel
theorem dL_act_228 : decode cL_act 228 = .ok (.iconst 1, 1) := by decide +kernel
theorem dL_act_229 : decode cL_act 229 = .ok (.iaload, 1) := by decide +kernel
theorem dL_act_230 : decode cL_act 230 = .ok (.iconst 1, 1) := by decide +kernel
theorem dL_act_231 : decode cL_act 231 = .ok (.if_icmp .ne 7, 3) := by decide +kernel
theorem dL_act_234 : decode cL_act 234 = .ok (.iconst 1, 1) := by decide +kernel
theorem dL_act_235 : decode cL_act 235 = .ok (.goto 4, 3) := by decide +kernel
theorem dL_act_238 : decode cL_act 238 = .ok (.iconst 0, 1) := by decide +kernel
theorem dL_act_239 : decode cL_act 239 = .ok (.if_icmp .ne 7, 3) := by decide +kernel
theorem dL_act_242 : decode cL_act 242 = .ok (.iconst 1, 1) := by decide +kernel
theorem dL_act_243 : decode cL_act 243 = .ok (.goto 4, 3) := by decide +kernel
theorem dL_act_246 : decode cL_act 246 = .ok (.iconst 0, 1) := by decide +kernel
theorem dL_act_247 : decode cL_act 247 = .ok (.ireturn, 1) := by decide +kernel
theorem dL_act_248 : decode cL_act 248 = .ok (.iload_n 2, 1) := by decide +kernel
theorem dL_act_249 : decode cL_act 249 = .ok (.bipush 10, 2) := by decide +kernel
theorem dL_act_251 : decode cL_act 251 = .ok (.invokestatic 18, 3) := by decide +kernel
theorem dL_act_254 : decode cL_act 254 = .ok (.istore 7, 2) := by decide +kernel
theorem dL_act_256 : decode cL_act 256 = .ok (.iload_n 2, 1) := by decide +kernel
theorem dL_act_257 : decode cL_act 257 = .ok (.iconst 2, 1) := by decide +kernel
theorem dL_act_258 : decode cL_act 258 = .ok (.ishr, 1) := by decide +kernel
theorem dL_act_259 : decode cL_act 259 = .ok (.iconst 5, 1) := by decide +kernel
theorem dL_act_260 : decode cL_act 260 = .ok (.invokestatic 18, 3) := by decide +kernel
theorem dL_act_263 : decode cL_act 263 = .ok (.istore 8, 2) := by decide +kernel
theorem dL_act_265 : decode cL_act 265 = .ok (.aload_n 1, 1) := by decide +kernel
theorem dL_act_266 : decode cL_act 266 = .ok (.getfield 38, 3) := by decide +kernel
theorem dL_act_269 : decode cL_act 269 = .ok (.iload 7, 2) := by decide +kernel
theorem dL_act_271 : decode cL_act 271 = .ok (.aaload, 1) := by decide +kernel
theorem dL_act_272 : decode cL_act 272 = .ok (.iload 8, 2) := by decide +kernel
theorem dL_act_274 : decode cL_act 274 = .ok (.iaload, 1) := by decide +kernel
theorem dL_act_275 : decode cL_act 275 = .ok (.istore 9, 2) := by decide +kernel
theorem dL_act_277 : decode cL_act 277 = .ok (.aload_n 1, 1) := by decide +kernel
theorem dL_act_278 : decode cL_act 278 = .ok (.getfield 38, 3) := by decide +kernel
theorem dL_act_281 : decode cL_act 281 = .ok (.iload 7, 2) := by decide +kernel
theorem dL_act_283 : decode cL_act 283 = .ok (.aaload, 1) := by decide +kernel
theorem dL_act_284 : decode cL_act 284 = .ok (.iload 8, 2) := by decide +kernel
theorem dL_act_286 : decode cL_act 286 = .ok (.iload_n 2, 1) := by decide +kernel
theorem dL_act_287 : decode cL_act 287 = .ok (.iconst 4, 1) := by decide +kernel
theorem dL_act_288 : decode cL_act 288 = .ok (.ishr, 1) := by decide +kernel
theorem dL_act_289 : decode cL_act 289 = .ok (.bipush 41, 2) := by decide +kernel
theorem dL_act_291 : decode cL_act 291 = .ok (.invokestatic 18, 3) := by decide +kernel
theorem dL_act_294 : decode cL_act 294 = .ok (.iastore, 1) := by decide +kernel
theorem dL_act_295 : decode cL_act 295 = .ok (.aload_n 0, 1) := by decide +kernel
theorem dL_act_296 : decode cL_act 296 = .ok (.iload 7, 2) := by decide +kernel
theorem dL_act_298 : decode cL_act 298 = .ok (.iload 8, 2) := by decide +kernel
theorem dL_act_300 : decode cL_act 300 = .ok (.aload_n 1, 1) := by decide +kernel
theorem dL_act_301 : decode cL_act 301 = .ok (.getfield 38, 3) := by decide +kernel
theorem dL_act_304 : decode cL_act 304 = .ok (.iload 7, 2) := by decide +kernel
theorem dL_act_306 : decode cL_act 306 = .ok (.aaload, 1) := by decide +kernel
theorem dL_act_307 : decode cL_act 307 = .ok (.iload 8, 2) := by decide +kernel
theorem dL_act_309 : decode cL_act 309 = .ok (.iaload, 1) := by decide +kernel
theorem dL_act_310 : decode cL_act 310 = .ok (.invokevirtual 41, 3) := by decide +kernel
theorem dL_act_313 : decode cL_act 313 = .ok (.iload 9, 2) := by decide +kernel
theorem dL_act_315 : decode cL_act 315 = .ok (.if_icmp .ne 7, 3) := by decide +kernel
theorem dL_act_318 : decode cL_act 318 = .ok (.iconst 1, 1) := by decide +kernel
theorem dL_act_319 : decode cL_act 319 = .ok (.goto 4, 3) := by decide +kernel
theorem dL_act_322 : decode cL_act 322 = .ok (.iconst 0, 1) := by decide +kernel
theorem dL_act_323 : decode cL_act 323 = .ok (.ireturn, 1) := by decide +kernel
theorem dL_act_324 : decode cL_act 324 = .ok (.iload 4, 2) := by decide +kernel
theorem dL_act_326 : decode cL_act 326 = .ok (.bipush 12, 2) := by decide +kernel
theorem dL_act_328 : decode cL_act 328 = .ok (.if_icmp .ne 5, 3) := by decide +kernel
theorem dL_act_331 : decode cL_act 331 = .ok (.iconst 1, 1) := by decide +kernel
theorem dL_act_332 : decode cL_act 332 = .ok (.ireturn, 1) := by decide +kernel
theorem dL_act_333 : decode cL_act 333 = .ok (.iload_n 2, 1) := by decide +kernel
theorem dL_act_334 : decode cL_act 334 = .ok (.bipush 6, 2) := by decide +kernel
theorem dL_act_336 : decode cL_act 336 = .ok (.ishr, 1) := by decide +kernel
theorem dL_act_337 : decode cL_act 337 = .ok (.iconst 2, 1) := by decide +kernel
theorem dL_act_338 : decode cL_act 338 = .ok (.invokestatic 18, 3) := by decide +kernel
theorem dL_act_341 : decode cL_act 341 = .ok (.istore 10, 2) := by decide +kernel
theorem dL_act_343 : decode cL_act 343 = .ok (.aload_n 1, 1) := by decide +kernel
theorem dL_act_344 : decode cL_act 344 = .ok (.aload_n 1, 1) := by decide +kernel
theorem dL_act_345 : decode cL_act 345 = .ok (.getfield 15, 3) := by decide +kernel
theorem dL_act_348 : decode cL_act 348 = .ok (.bipush 6, 2) := by decide +kernel
theorem dL_act_350 : decode cL_act 350 = .ok (.newarray .int, 2) := by decide +kernel
theorem dL_act_352 : decode cL_act 352 = .ok (.dup, 1) := by decide +kernel
theorem dL_act_353 : decode cL_act 353 = .ok (.iconst 0, 1) := by decide +kernel
theorem dL_act_354 : decode cL_act 354 = .ok (.iload 6, 2) := by decide +kernel
theorem dL_act_356 : decode cL_act 356 = .ok (.iastore, 1) := by decide +kernel
theorem dL_act_357 : decode cL_act 357 = .ok (.dup, 1) := by decide +kernel
theorem dL_act_358 : decode cL_act 358 = .ok (.iconst 1, 1) := by decide +kernel
theorem dL_act_359 : decode cL_act 359 = .ok (.iload_n 2, 1) := by decide +kernel
theorem dL_act_360 : decode cL_act 360 = .ok (.iconst 2, 1) := by decide +kernel
theorem dL_act_361 : decode cL_act 361 = .ok (.ishr, 1) := by decide +kernel
theorem dL_act_362 : decode cL_act 362 = .ok (.bipush 10, 2) := by decide +kernel
theorem dL_act_364 : decode cL_act 364 = .ok (.invokestatic 18, 3) := by decide +kernel
theorem dL_act_367 : decode cL_act 367 = .ok (.iastore, 1) := by decide +kernel
theorem dL_act_368 : decode cL_act 368 = .ok (.dup, 1) := by decide +kernel
theorem dL_act_369 : decode cL_act 369 = .ok (.iconst 2, 1) := by decide +kernel
theorem dL_act_370 : decode cL_act 370 = .ok (.iload 10, 2) := by decide +kernel
theorem dL_act_372 : decode cL_act 372 = .ok (.iastore, 1) := by decide +kernel
theorem dL_act_373 : decode cL_act 373 = .ok (.dup, 1) := by decide +kernel
theorem dL_act_374 : decode cL_act 374 = .ok (.iconst 3, 1) := by decide +kernel
theorem dL_act_375 : decode cL_act 375 = .ok (.iconst 0, 1) := by decide +kernel
theorem dL_act_376 : decode cL_act 376 = .ok (.iastore, 1) := by decide +kernel
theorem dL_act_377 : decode cL_act 377 = .ok (.dup, 1) := by decide +kernel
theorem dL_act_378 : decode cL_act 378 = .ok (.iconst 4, 1) := by decide +kernel
theorem dL_act_379 : decode cL_act 379 = .ok (.iconst 0, 1) := by decide +kernel
theorem dL_act_380 : decode cL_act 380 = .ok (.iastore, 1) := by decide +kernel
theorem dL_act_381 : decode cL_act 381 = .ok (.dup, 1) := by decide +kernel
theorem dL_act_382 : decode cL_act 382 = .ok (.iconst 5, 1) := by decide +kernel
theorem dL_act_383 : decode cL_act 383 = .ok (.iconst 0, 1) := by decide +kernel
theorem dL_act_384 : decode cL_act 384 = .ok (.iastore, 1) := by decide +kernel
theorem dL_act_385 : decode cL_act 385 = .ok (.invokestatic 24, 3) := by decide +kernel
theorem dL_act_388 : decode cL_act 388 = .ok (.putfield 15, 3) := by decide +kernel
theorem dL_act_391 : decode cL_act 391 = .ok (.aload_n 0, 1) := by decide +kernel
theorem dL_act_392 : decode cL_act 392 = .ok (.iload 6, 2) := by decide +kernel
theorem dL_act_394 : decode cL_act 394 = .ok (.iload_n 2, 1) := by decide +kernel
theorem dL_act_395 : decode cL_act 395 = .ok (.iconst 2, 1) := by decide +kernel
theorem dL_act_396 : decode cL_act 396 = .ok (.ishr, 1) := by decide +kernel
theorem dL_act_397 : decode cL_act 397 = .ok (.bipush 10, 2) := by decide +kernel
theorem dL_act_399 : decode cL_act 399 = .ok (.invokestatic 18, 3) := by decide +kernel
theorem dL_act_402 : decode cL_act 402 = .ok (.iload 10, 2) := by decide +kernel
theorem dL_act_404 : decode cL_act 404 = .ok (.iconst 1, 1) := by decide +kernel
theorem dL_act_405 : decode cL_act 405 = .ok (.if_icmp .ne 7, 3) := by decide +kernel
theorem dL_act_408 : decode cL_act 408 = .ok (.iconst 1, 1) := by decide +kernel
theorem dL_act_409 : decode cL_act 409 = .ok (.goto 4, 3) := by decide +kernel
theorem dL_act_412 : decode cL_act 412 = .ok (.iconst 0, 1) := by decide +kernel
theorem dL_act_413 : decode cL_act 413 = .ok (.invokevirtual 45, 3) := by decide +kernel
theorem dL_act_416 : decode cL_act 416 = .ok (.iload 4, 2) := by decide +kernel
theorem dL_act_418 : decode cL_act 418 = .ok (.if_icmp .ne 7, 3) := by decide +kernel
theorem dL_act_421 : decode cL_act 421 = .ok (.iconst 1, 1) := by decide +kernel
theorem dL_act_422 : decode cL_act 422 = .ok (.goto 4, 3) := by decide +kernel
theorem dL_act_425 : decode cL_act 425 = .ok (.iconst 0, 1) := by decide +kernel
theorem dL_act_426 : decode cL_act 426 = .ok (.ireturn, 1) := by decide +kernel
theorem dL_act_427 : decode cL_act 427 = .ok (.iload 4, 2) := by decide +kernel
theorem dL_act_429 : decode cL_act 429 = .ok (.ifCond .eq 11, 3) := by decide +kernel
theorem dL_act_432 : decode cL_act 432 = .ok (.aload 5, 2) := by decide +kernel
theorem dL_act_434 : decode cL_act 434 = .ok (.iconst 5, 1) := by decide +kernel
theorem dL_act_435 : decode cL_act 435 = .ok (.iaload, 1) := by decide +kernel
theorem dL_act_436 : decode cL_act 436 = .ok (.iconst 1, 1) := by decide +kernel
theorem dL_act_437 : decode cL_act 437 = .ok (.if_icmp .ne 5, 3) := by decide +kernel
theorem dL_act_440 : decode cL_act 440 = .ok (.iconst 1, 1) := by decide +kernel
theorem dL_act_441 : decode cL_act 441 = .ok (.ireturn, 1) := by decide +kernel
theorem dL_act_442 : decode cL_act 442 = .ok (.aload 5, 2) := by decide +kernel
theorem dL_act_444 : decode cL_act 444 = .ok (.iconst 0, 1) := by decide +kernel
theorem dL_act_445 : decode cL_act 445 = .ok (.iaload, 1) := by decide +kernel
theorem dL_act_446 : decode cL_act 446 = .ok (.istore 11, 2) := by decide +kernel
theorem dL_act_448 : decode cL_act 448 = .ok (.aload 5, 2) := by decide +kernel
theorem dL_act_450 : decode cL_act 450 = .ok (.iconst 0, 1) := by decide +kernel
theorem dL_act_451 : decode cL_act 451 = .ok (.iload 6, 2) := by decide +kernel
theorem dL_act_453 : decode cL_act 453 = .ok (.iastore, 1) := by decide +kernel
theorem dL_act_454 : decode cL_act 454 = .ok (.aload_n 0, 1) := by decide +kernel
theorem dL_act_455 : decode cL_act 455 = .ok (.iload_n 2, 1) := by decide +kernel
theorem dL_act_456 : decode cL_act 456 = .ok (.iload 4, 2) := by decide +kernel
theorem dL_act_458 : decode cL_act 458 = .ok (.invokestatic 18, 3) := by decide +kernel
theorem dL_act_461 : decode cL_act 461 = .ok (.iload 6, 2) := by decide +kernel
theorem dL_act_463 : decode cL_act 463 = .ok (.invokevirtual 49, 3) := by decide +kernel
theorem dL_act_466 : decode cL_act 466 = .ok (.iload 11, 2) := by decide +kernel
theorem dL_act_468 : decode cL_act 468 = .ok (.if_icmp .ne 7, 3) := by decide +kernel
theorem dL_act_471 : decode cL_act 471 = .ok (.iconst 1, 1) := by decide +kernel
theorem dL_act_472 : decode cL_act 472 = .ok (.goto 4, 3) := by decide +kernel
theorem dL_act_475 : decode cL_act 475 = .ok (.iconst 0, 1) := by decide +kernel
theorem dL_act_476 : decode cL_act 476 = .ok (.ireturn, 1) := by decide +kernel
theorem dL_act_477 : decode cL_act 477 = .ok (.iload 4, 2) := by decide +kernel
theorem dL_act_479 : decode cL_act 479 = .ok (.ifCond .eq 21, 3) := by decide +kernel
theorem dL_act_482 : decode cL_act 482 = .ok (.aload 5, 2) := by decide +kernel
theorem dL_act_484 : decode cL_act 484 = .ok (.iconst 5, 1) := by decide +kernel
theorem dL_act_485 : decode cL_act 485 = .ok (.iaload, 1) := by decide +kernel
theorem dL_act_486 : decode cL_act 486 = .ok (.iconst 1, 1) := by decide +kernel
theorem dL_act_487 : decode cL_act 487 = .ok (.if_icmp .eq 13, 3) := by decide +kernel
theorem dL_act_490 : decode cL_act 490 = .ok (.iload_n 2, 1) := by decide +kernel
theorem dL_act_491 : decode cL_act 491 = .ok (.iconst 4, 1) := by decide +kernel
theorem dL_act_492 : decode cL_act 492 = .ok (.ishr, 1) := by decide +kernel
theorem dL_act_493 : decode cL_act 493 = .ok (.iconst 3, 1) := by decide +kernel
theorem dL_act_494 : decode cL_act 494 = .ok (.invokestatic 18, 3) := by decide +kernel
theorem dL_act_497 : decode cL_act 497 = .ok (.ifCond .le 5, 3) := by decide +kernel
theorem dL_act_500 : decode cL_act 500 = .ok (.iconst 1, 1) := by decide +kernel
theorem dL_act_501 : decode cL_act 501 = .ok (.ireturn, 1) := by decide +kernel
theorem dL_act_502 : decode cL_act 502 = .ok (.aload 5, 2) := by decide +kernel
theorem dL_act_504 : decode cL_act 504 = .ok (.iconst 5, 1) := by decide +kernel
theorem dL_act_505 : decode cL_act 505 = .ok (.iconst 1, 1) := by decide +kernel
theorem dL_act_506 : decode cL_act 506 = .ok (.iastore, 1) := by decide +kernel
theorem dL_act_507 : decode cL_act 507 = .ok (.aload 5, 2) := by decide +kernel
theorem dL_act_509 : decode cL_act 509 = .ok (.iconst 2, 1) := by decide +kernel
theorem dL_act_510 : decode cL_act 510 = .ok (.iconst 0, 1) := by decide +kernel
theorem dL_act_511 : decode cL_act 511 = .ok (.iastore, 1) := by decide +kernel
theorem dL_act_512 : decode cL_act 512 = .ok (.aload_n 0, 1) := by decide +kernel
theorem dL_act_513 : decode cL_act 513 = .ok (.iload_n 2, 1) := by decide +kernel
theorem dL_act_514 : decode cL_act 514 = .ok (.iload 4, 2) := by decide +kernel
theorem dL_act_516 : decode cL_act 516 = .ok (.invokestatic 18, 3) := by decide +kernel
theorem dL_act_519 : decode cL_act 519 = .ok (.invokevirtual 52, 3) := by decide +kernel
theorem dL_act_522 : decode cL_act 522 = .ok (.aload 5, 2) := by decide +kernel
theorem dL_act_524 : decode cL_act 524 = .ok (.iconst 4, 1) := by decide +kernel
theorem dL_act_525 : decode cL_act 525 = .ok (.iaload, 1) := by decide +kernel
theorem dL_act_526 : decode cL_act 526 = .ok (.if_icmp .ne 7, 3) := by decide +kernel
theorem dL_act_529 : decode cL_act 529 = .ok (.iconst 1, 1) := by decide +kernel
theorem dL_act_530 : decode cL_act 530 = .ok (.goto 4, 3) := by decide +kernel
theorem dL_act_533 : decode cL_act 533 = .ok (.iconst 0, 1) := by decide +kernel
theorem dL_act_534 : decode cL_act 534 = .ok (.ireturn, 1) := by decide +kernel
theorem dL_act_535 : decode cL_act 535 = .ok (.iload 4, 2) := by decide +kernel
theorem dL_act_537 : decode cL_act 537 = .ok (.ifCond .ne 5, 3) := by decide +kernel
theorem dL_act_540 : decode cL_act 540 = .ok (.iconst 1, 1) := by decide +kernel
theorem dL_act_541 : decode cL_act 541 = .ok (.ireturn, 1) := by decide +kernel
