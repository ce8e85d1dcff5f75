set_option maxRecDepth 20000 in
theorem ggX4_guest_X4_needIndex : GoodIn wsX4_guest wsX4_needIndex := goodIn_ca (goodIn_r _ [17, 7, 8] (by decide +kernel) (by decide +kernel)) (goodIn_sub (fun _ h => List.mem_cons_of_mem _ (List.mem_append_right _ h)) (by decide +kernel))
set_option maxRecDepth 20000 in
theorem gX4_guest_X4_needIndex : GoodIn wsX4_guest (va_wsS RX4 19 yX4_needIndex wsX4_needIndex) := goodIn_app (goodIn_of _ (by decide +kernel)) ggX4_guest_X4_needIndex
set_option maxRecDepth 20000 in
theorem ggX4_guest_X0_tell : GoodIn wsX4_guest wsX0_tell := goodIn_r _ [21, 22, 23, 24, 12, 25, 26, 27, 10, 11, 13, 14, 28, 29, 30, 31, 32, 33, 34, 35, 36, 37, 38, 39, 40, 41, 42, 43, 44, 45, 46, 47, 48, 49, 50, 51, 52, 61, 62, 63, 64, 65, 66, 67] (by decide +kernel) (by decide +kernel)
set_option maxRecDepth 20000 in
theorem gX4_guest_X0_tell : GoodIn wsX4_guest (wsV RX4 115 RX0 yX0_tell wsX0_tell) := goodIn_app (goodIn_of _ (by decide +kernel)) ggX4_guest_X0_tell
theorem dX4_guest_0 : decode cX4_guest 0 = .ok (.aload_n 0, 1) := by decide +kernel
theorem dX4_guest_1 : decode cX4_guest 1 = .ok (.iload_n 1, 1) := by decide +kernel
theorem dX4_guest_2 : decode cX4_guest 2 = .ok (.invokevirtual 91, 3) := by decide +kernel
theorem dX4_guest_5 : decode cX4_guest 5 = .ok (.iload_n 2, 1) := by decide +kernel
theorem dX4_guest_6 : decode cX4_guest 6 = .ok (.iconst 5, 1) := by decide +kernel
theorem dX4_guest_7 : decode cX4_guest 7 = .ok (.invokestatic 19, 3) := by decide +kernel
theorem dX4_guest_10 : decode cX4_guest 10 = .ok (.aload_n 0, 1) := by decide +kernel
theorem dX4_guest_11 : decode cX4_guest 11 = .ok (.getfield 12, 3) := by decide +kernel
theorem dX4_guest_14 : decode cX4_guest 14 = .ok (.getfield 79, 3) := by decide +kernel
theorem dX4_guest_17 : decode cX4_guest 17 = .ok (.iload_n 1, 1) := by decide +kernel
theorem dX4_guest_18 : decode cX4_guest 18 = .ok (.iload_n 2, 1) := by decide +kernel
theorem dX4_guest_19 : decode cX4_guest 19 = .ok (.invokevirtual 115, 3) := by decide +kernel
theorem dX4_guest_22 : decode cX4_guest 22 = .ok (.ireturn, 1) := by decide +kernel
set_option maxRecDepth 20000 in
theorem ggX4_count_X4_needIndex : GoodIn wsX4_count wsX4_needIndex := goodIn_ca (goodIn_r _ [5, 6, 7] (by decide +kernel) (by decide +kernel)) (goodIn_sub (fun _ h => List.mem_cons_of_mem _ (List.mem_append_right _ h)) (by decide +kernel))
set_option maxRecDepth 20000 in
theorem gX4_count_X4_needIndex : GoodIn wsX4_count (va_wsS RX4 19 yX4_needIndex wsX4_needIndex) := goodIn_app (goodIn_of _ (by decide +kernel)) ggX4_count_X4_needIndex
set_option maxRecDepth 20000 in
theorem ggX4_count_X2_tellCount : GoodIn wsX4_count wsX2_tellCount := goodIn_r _ [12, 13, 14, 15, 16, 17, 18, 19, 11, 20, 21, 22, 23, 24, 25, 26, 27, 4, 28, 29, 30, 31, 32, 33, 34, 35, 36, 37, 38, 39, 40, 41, 42, 43, 44, 45, 46, 47, 48, 49, 50, 51, 52, 53, 54, 55, 56, 57, 58, 59, 60, 61, 62, 63, 64, 65, 68, 69, 70, 71, 72, 73, 74, 75, 76, 77, 78, 79, 80, 81, 82, 83, 84] (by decide +kernel) (by decide +kernel)
set_option maxRecDepth 20000 in
theorem gX4_count_X2_tellCount : GoodIn wsX4_count (wsV RX4 118 RX2 yX2_tellCount wsX2_tellCount) := goodIn_app (goodIn_of _ (by decide +kernel)) ggX4_count_X2_tellCount
theorem dX4_count_0 : decode cX4_count 0 = .ok (.iload_n 1, 1) := by decide +kernel
theorem dX4_count_1 : decode cX4_count 1 = .ok (.bipush 8, 2) := by decide +kernel
theorem dX4_count_3 : decode cX4_count 3 = .ok (.invokestatic 19, 3) := by decide +kernel
theorem dX4_count_6 : decode cX4_count 6 = .ok (.aload_n 0, 1) := by decide +kernel
theorem dX4_count_7 : decode cX4_count 7 = .ok (.getfield 12, 3) := by decide +kernel
theorem dX4_count_10 : decode cX4_count 10 = .ok (.iload_n 1, 1) := by decide +kernel
theorem dX4_count_11 : decode cX4_count 11 = .ok (.invokevirtual 118, 3) := by decide +kernel
theorem dX4_count_14 : decode cX4_count 14 = .ok (.ireturn, 1) := by decide +kernel
set_option maxRecDepth 20000 in
theorem ggX4_pass_X4_needArgument : GoodIn wsX4_pass wsX4_needArgument := goodIn_ca (goodIn_r _ [5, 6, 7] (by decide +kernel) (by decide +kernel)) (goodIn_sub (fun _ h => List.mem_cons_of_mem _ (List.mem_append_right _ h)) (by decide +kernel))
set_option maxRecDepth 20000 in
theorem gX4_pass_X4_needArgument : GoodIn wsX4_pass (va_wsS RX4 23 yX4_needArgument wsX4_needArgument) := goodIn_app (goodIn_of _ (by decide +kernel)) ggX4_pass_X4_needArgument
set_option maxRecDepth 20000 in
theorem ggX4_pass_X2_goThrough : GoodIn wsX4_pass wsX2_goThrough := goodIn_r _ [12, 13, 14, 15, 16, 11, 17, 18, 19, 20, 21, 22, 23, 24, 25, 26, 27, 28, 29, 30, 31, 32, 33, 34, 35, 36, 37, 38, 39, 40, 41, 42, 43, 44, 45, 46, 47, 48, 49, 50, 51, 52, 53, 54, 55, 56, 57, 58, 59, 60, 61, 62, 63, 64, 65, 66, 67, 68, 69, 70, 71, 72, 73, 74, 75, 76, 77, 78, 79, 80, 81, 82, 83, 84, 85, 86, 87, 88, 89, 90, 91, 92, 93, 94, 95, 96, 97, 98, 99, 100, 101, 102, 103, 104, 105, 106, 107, 108, 109, 110, 111, 112, 113, 114, 115, 116, 117, 118, 119, 120, 121, 122, 123, 124, 125, 126, 127, 128, 129, 130, 131, 132, 133, 134, 135, 136, 137, 138, 139, 140, 141, 142, 143, 144, 145, 146, 147, 148, 149, 150, 151, 152, 153, 154, 155, 156, 157, 158, 159, 160, 161, 162, 163, 164, 165, 168, 169, 170, 171, 172, 173, 174, 175, 176, 177, 178, 179, 180, 181, 182, 183, 184] (by decide +kernel) (by decide +kernel)
set_option maxRecDepth 20000 in
theorem gX4_pass_X2_goThrough : GoodIn wsX4_pass (wsV RX4 121 RX2 yX2_goThrough wsX2_goThrough) := goodIn_app (goodIn_of _ (by decide +kernel)) ggX4_pass_X2_goThrough
theorem dX4_pass_0 : decode cX4_pass 0 = .ok (.iload_n 1, 1) := by decide +kernel
theorem dX4_pass_1 : decode cX4_pass 1 = .ok (.iconst 1, 1) := by decide +kernel
theorem dX4_pass_2 : decode cX4_pass 2 = .ok (.bipush 60, 2) := by decide +kernel
theorem dX4_pass_4 : decode cX4_pass 4 = .ok (.invokestatic 23, 3) := by decide +kernel
theorem dX4_pass_7 : decode cX4_pass 7 = .ok (.aload_n 0, 1) := by decide +kernel
theorem dX4_pass_8 : decode cX4_pass 8 = .ok (.getfield 12, 3) := by decide +kernel
theorem dX4_pass_11 : decode cX4_pass 11 = .ok (.iload_n 1, 1) := by decide +kernel
theorem dX4_pass_12 : decode cX4_pass 12 = .ok (.invokevirtual 121, 3) := by decide +kernel
theorem dX4_pass_15 : decode cX4_pass 15 = .ok (.ireturn, 1) := by decide +kernel
set_option maxRecDepth 20000 in
theorem ggX4_dark_X4_needArgument : GoodIn wsX4_dark wsX4_needArgument := goodIn_ca (goodIn_r _ [5, 6, 7] (by decide +kernel) (by decide +kernel)) (goodIn_sub (fun _ h => List.mem_cons_of_mem _ (List.mem_append_right _ h)) (by decide +kernel))
set_option maxRecDepth 20000 in
theorem gX4_dark_X4_needArgument : GoodIn wsX4_dark (va_wsS RX4 23 yX4_needArgument wsX4_needArgument) := goodIn_app (goodIn_of _ (by decide +kernel)) ggX4_dark_X4_needArgument
set_option maxRecDepth 20000 in
theorem ggX4_dark_X2_moonLight : GoodIn wsX4_dark wsX2_moonLight := goodIn_r _ [11] (by decide +kernel) (by decide +kernel)
set_option maxRecDepth 20000 in
theorem gX4_dark_X2_moonLight : GoodIn wsX4_dark (va_wsS RX4 128 yX2_moonLight wsX2_moonLight) := goodIn_app (goodIn_of _ (by decide +kernel)) ggX4_dark_X2_moonLight
theorem dX4_dark_0 : decode cX4_dark 0 = .ok (.iload_n 1, 1) := by decide +kernel
theorem dX4_dark_1 : decode cX4_dark 1 = .ok (.iconst 0, 1) := by decide +kernel
theorem dX4_dark_2 : decode cX4_dark 2 = .ok (.iconst 4, 1) := by decide +kernel
theorem dX4_dark_3 : decode cX4_dark 3 = .ok (.invokestatic 23, 3) := by decide +kernel
theorem dX4_dark_6 : decode cX4_dark 6 = .ok (.iconst 0, 1) := by decide +kernel
theorem dX4_dark_7 : decode cX4_dark 7 = .ok (.istore_n 2, 1) := by decide +kernel
theorem dX4_dark_8 : decode cX4_dark 8 = .ok (.iload_n 2, 1) := by decide +kernel
theorem dX4_dark_9 : decode cX4_dark 9 = .ok (.bipush 8, 2) := by decide +kernel
theorem dX4_dark_11 : decode cX4_dark 11 = .ok (.if_icmp .ge 25, 3) := by decide +kernel
theorem dX4_dark_14 : decode cX4_dark 14 = .ok (.aload_n 0, 1) := by decide +kernel
theorem dX4_dark_15 : decode cX4_dark 15 = .ok (.getfield 12, 3) := by decide +kernel
theorem dX4_dark_18 : decode cX4_dark 18 = .ok (.getfield 124, 3) := by decide +kernel
theorem dX4_dark_21 : decode cX4_dark 21 = .ok (.iload_n 2, 1) := by decide +kernel
theorem dX4_dark_22 : decode cX4_dark 22 = .ok (.iadd, 1) := by decide +kernel
theorem dX4_dark_23 : decode cX4_dark 23 = .ok (.invokestatic 128, 3) := by decide +kernel
theorem dX4_dark_26 : decode cX4_dark 26 = .ok (.iload_n 1, 1) := by decide +kernel
theorem dX4_dark_27 : decode cX4_dark 27 = .ok (.if_icmp .le 9, 3) := by decide +kernel
theorem dX4_dark_30 : decode cX4_dark 30 = .ok (.iinc 2 1, 3) := by decide +kernel
theorem dX4_dark_33 : decode cX4_dark 33 = .ok (.goto (-25), 3) := by decide +kernel
theorem dX4_dark_36 : decode cX4_dark 36 = .ok (.iload_n 2, 1) := by decide +kernel
theorem dX4_dark_37 : decode cX4_dark 37 = .ok (.ireturn, 1) := by decide +kernel
set_option maxRecDepth 20000 in
theorem ggX4_foresee_X4_needArgument : GoodIn wsX4_foresee wsX4_needArgument := goodIn_ca (goodIn_r _ [6, 7, 8] (by decide +kernel) (by decide +kernel)) (goodIn_sub (fun _ h => List.mem_cons_of_mem _ (List.mem_append_left _ (List.mem_append_right _ h))) (by decide +kernel))
set_option maxRecDepth 20000 in
theorem gX4_foresee_X4_needArgument : GoodIn wsX4_foresee (va_wsS RX4 23 yX4_needArgument wsX4_needArgument) := goodIn_app (goodIn_of _ (by decide +kernel)) ggX4_foresee_X4_needArgument
set_option maxRecDepth 20000 in
theorem ggX4_foresee_X4_needIndex : GoodIn wsX4_foresee wsX4_needIndex := goodIn_ca (goodIn_r _ [11, 12, 13] (by decide +kernel) (by decide +kernel)) (goodIn_sub (fun _ h => List.mem_cons_of_mem _ (List.mem_append_right _ h)) (by decide +kernel))
set_option maxRecDepth 20000 in
theorem gX4_foresee_X4_needIndex : GoodIn wsX4_foresee (va_wsS RX4 19 yX4_needIndex wsX4_needIndex) := goodIn_app (goodIn_of _ (by decide +kernel)) ggX4_foresee_X4_needIndex
set_option maxRecDepth 20000 in
theorem ggX4_foresee_X2_copyFrom : GoodIn wsX4_foresee wsX2_copyFrom := goodIn_r _ [18, 19, 20, 21, 22, 23, 24, 25, 26, 27, 28, 29, 30, 31, 32, 33, 34, 35, 36, 37, 38, 39, 40, 41, 42, 43, 44, 45, 46, 47, 48, 49, 50, 51, 52, 53, 204, 205, 206, 207, 208, 209, 210, 211, 212, 213, 214, 215, 216, 217, 218, 219, 220] (by decide +kernel) (by decide +kernel)
set_option maxRecDepth 20000 in
theorem gX4_foresee_X2_copyFrom : GoodIn wsX4_foresee (wsV RX4 131 RX2 yX2_copyFrom wsX2_copyFrom) := goodIn_app (goodIn_of _ (by decide +kernel)) ggX4_foresee_X2_copyFrom
set_option maxRecDepth 20000 in
theorem ggX4_foresee_X2_goThrough : GoodIn wsX4_foresee wsX2_goThrough := goodIn_r _ [57, 22, 58, 59, 60, 17, 61, 62, 20, 63, 64, 65, 37, 66, 40, 39, 67, 68, 69, 70, 71, 72, 73, 74, 19, 75, 76, 77, 78, 79, 80, 81, 27, 82, 83, 84, 85, 86, 29, 87, 88, 89, 90, 91, 92, 93, 94, 95, 96, 97, 98, 99, 100, 21, 101, 102, 103, 45, 104, 52, 47, 48, 105, 106, 107, 108, 109, 110, 111, 112, 41, 113, 114, 115, 116, 117, 118, 119, 120, 121, 122, 123, 124, 125, 126, 127, 128, 129, 130, 131, 53, 132, 133, 134, 135, 136, 137, 138, 139, 140, 141, 142, 143, 144, 145, 146, 147, 148, 149, 150, 151, 50, 152, 153, 154, 155, 156, 157, 158, 159, 51, 160, 161, 162, 163, 164, 165, 166, 167, 49, 168, 169, 170, 171, 23, 172, 173, 174, 175, 176, 177, 178, 179, 180, 181, 182, 183, 184, 185, 186, 187, 188, 189, 190, 191, 204, 205, 206, 207, 208, 209, 211, 212, 213, 210, 214, 215, 216, 217, 218, 219, 220] (by decide +kernel) (by decide +kernel)
set_option maxRecDepth 20000 in
theorem gX4_foresee_X2_goThrough : GoodIn wsX4_foresee (wsV RX4 121 RX2 yX2_goThrough wsX2_goThrough) := goodIn_app (goodIn_of _ (by decide +kernel)) ggX4_foresee_X2_goThrough
set_option maxRecDepth 20000 in
theorem ggX4_foresee_X1_all : GoodIn wsX4_foresee wsX1_all := goodIn_r _ [195, 29, 196, 5, 197, 210] (by decide +kernel) (by decide +kernel)
set_option maxRecDepth 20000 in
theorem gX4_foresee_X1_all : GoodIn wsX4_foresee (wsV RX4 135 RX1 yX1_all wsX1_all) := goodIn_app (goodIn_of _ (by decide +kernel)) ggX4_foresee_X1_all
set_option maxRecDepth 20000 in
theorem ggX4_foresee_X0_tookInAll : GoodIn wsX4_foresee wsX0_tookInAll := goodIn_r _ [201, 49, 196, 5, 197, 214, 215, 216, 217, 218, 219, 220] (by decide +kernel) (by decide +kernel)
set_option maxRecDepth 20000 in
theorem gX4_foresee_X0_tookInAll : GoodIn wsX4_foresee (wsV RX4 139 RX0 yX0_tookInAll wsX0_tookInAll) := goodIn_app (goodIn_of _ (by decide +kernel)) ggX4_foresee_X0_tookInAll
theorem dX4_foresee_0 : decode cX4_foresee 0 = .ok (.iload_n 1, 1) := by decide +kernel
theorem dX4_foresee_1 : decode cX4_foresee 1 = .ok (.iconst 1, 1) := by decide +kernel
theorem dX4_foresee_2 : decode cX4_foresee 2 = .ok (.bipush 60, 2) := by decide +kernel
theorem dX4_foresee_4 : decode cX4_foresee 4 = .ok (.invokestatic 23, 3) := by decide +kernel
theorem dX4_foresee_7 : decode cX4_foresee 7 = .ok (.iload_n 2, 1) := by decide +kernel
theorem dX4_foresee_8 : decode cX4_foresee 8 = .ok (.iconst 2, 1) := by decide +kernel
theorem dX4_foresee_9 : decode cX4_foresee 9 = .ok (.invokestatic 19, 3) := by decide +kernel
theorem dX4_foresee_12 : decode cX4_foresee 12 = .ok (.aload_n 0, 1) := by decide +kernel
theorem dX4_foresee_13 : decode cX4_foresee 13 = .ok (.getfield 16, 3) := by decide +kernel
theorem dX4_foresee_16 : decode cX4_foresee 16 = .ok (.aload_n 0, 1) := by decide +kernel
theorem dX4_foresee_17 : decode cX4_foresee 17 = .ok (.getfield 12, 3) := by decide +kernel
theorem dX4_foresee_20 : decode cX4_foresee 20 = .ok (.invokevirtual 131, 3) := by decide +kernel
theorem dX4_foresee_23 : decode cX4_foresee 23 = .ok (.aload_n 0, 1) := by decide +kernel
theorem dX4_foresee_24 : decode cX4_foresee 24 = .ok (.getfield 16, 3) := by decide +kernel
theorem dX4_foresee_27 : decode cX4_foresee 27 = .ok (.iload_n 1, 1) := by decide +kernel
theorem dX4_foresee_28 : decode cX4_foresee 28 = .ok (.invokevirtual 121, 3) := by decide +kernel
theorem dX4_foresee_31 : decode cX4_foresee 31 = .ok (.istore_n 3, 1) := by decide +kernel
theorem dX4_foresee_32 : decode cX4_foresee 32 = .ok (.iload_n 2, 1) := by decide +kernel
theorem dX4_foresee_33 : decode cX4_foresee 33 = .ok (.ifCond .ne 5, 3) := by decide +kernel
theorem dX4_foresee_36 : decode cX4_foresee 36 = .ok (.iload_n 3, 1) := by decide +kernel
theorem dX4_foresee_37 : decode cX4_foresee 37 = .ok (.ireturn, 1) := by decide +kernel
theorem dX4_foresee_38 : decode cX4_foresee 38 = .ok (.iload_n 2, 1) := by decide +kernel
theorem dX4_foresee_39 : decode cX4_foresee 39 = .ok (.iconst 1, 1) := by decide +kernel
theorem dX4_foresee_40 : decode cX4_foresee 40 = .ok (.if_icmp .ne 14, 3) := by decide +kernel
theorem dX4_foresee_43 : decode cX4_foresee 43 = .ok (.aload_n 0, 1) := by decide +kernel
theorem dX4_foresee_44 : decode cX4_foresee 44 = .ok (.getfield 16, 3) := by decide +kernel
theorem dX4_foresee_47 : decode cX4_foresee 47 = .ok (.getfield 27, 3) := by decide +kernel
theorem dX4_foresee_50 : decode cX4_foresee 50 = .ok (.invokevirtual 135, 3) := by decide +kernel
theorem dX4_foresee_53 : decode cX4_foresee 53 = .ok (.ireturn, 1) := by decide +kernel
theorem dX4_foresee_54 : decode cX4_foresee 54 = .ok (.aload_n 0, 1) := by decide +kernel
theorem dX4_foresee_55 : decode cX4_foresee 55 = .ok (.getfield 16, 3) := by decide +kernel
theorem dX4_foresee_58 : decode cX4_foresee 58 = .ok (.getfield 79, 3) := by decide +kernel
theorem dX4_foresee_61 : decode cX4_foresee 61 = .ok (.invokevirtual 139, 3) := by decide +kernel
theorem dX4_foresee_64 : decode cX4_foresee 64 = .ok (.aload_n 0, 1) := by decide +kernel
theorem dX4_foresee_65 : decode cX4_foresee 65 = .ok (.getfield 12, 3) := by decide +kernel
theorem dX4_foresee_68 : decode cX4_foresee 68 = .ok (.getfield 79, 3) := by decide +kernel
theorem dX4_foresee_71 : decode cX4_foresee 71 = .ok (.invokevirtual 139, 3) := by decide +kernel
theorem dX4_foresee_74 : decode cX4_foresee 74 = .ok (.isub, 1) := by decide +kernel
theorem dX4_foresee_75 : decode cX4_foresee 75 = .ok (.ireturn, 1) := by decide +kernel
set_option maxRecDepth 20000 in
theorem ggX4_advise_X4_needArgument : GoodIn wsX4_advise wsX4_needArgument := goodIn_ca (goodIn_r _ [6, 7, 8] (by decide +kernel) (by decide +kernel)) (goodIn_sub (fun _ h => List.mem_cons_of_mem _ (List.mem_append_right _ h)) (by decide +kernel))
set_option maxRecDepth 20000 in
theorem gX4_advise_X4_needArgument : GoodIn wsX4_advise (va_wsS RX4 23 yX4_needArgument wsX4_needArgument) := goodIn_app (goodIn_of _ (by decide +kernel)) ggX4_advise_X4_needArgument
set_option maxRecDepth 20000 in
theorem ggX4_advise_X2_copyFrom : GoodIn wsX4_advise wsX2_copyFrom := goodIn_r _ [13, 14, 15, 16, 17, 18, 19, 20, 21, 22, 23, 24, 25, 26, 27, 28, 29, 30, 31, 32, 33, 34, 35, 36, 37, 38, 39, 40, 41, 42, 43, 44, 45, 46, 47, 48, 198, 199, 200, 201, 202, 203, 204, 205, 206, 207, 208, 209, 210, 211, 212, 213, 214] (by decide +kernel) (by decide +kernel)
set_option maxRecDepth 20000 in
theorem gX4_advise_X2_copyFrom : GoodIn wsX4_advise (wsV RX4 131 RX2 yX2_copyFrom wsX2_copyFrom) := goodIn_app (goodIn_of _ (by decide +kernel)) ggX4_advise_X2_copyFrom
set_option maxRecDepth 20000 in
theorem ggX4_advise_X2_goThrough : GoodIn wsX4_advise wsX2_goThrough := goodIn_r _ [52, 17, 53, 54, 55, 12, 56, 57, 15, 58, 59, 60, 32, 61, 35, 34, 62, 63, 64, 65, 66, 67, 68, 69, 14, 70, 71, 72, 73, 74, 75, 76, 22, 77, 78, 79, 80, 81, 24, 82, 83, 84, 85, 86, 87, 88, 89, 90, 91, 92, 93, 94, 95, 16, 96, 97, 98, 40, 99, 47, 42, 43, 100, 101, 102, 103, 104, 105, 106, 107, 36, 108, 109, 110, 111, 112, 113, 114, 115, 116, 117, 118, 119, 120, 121, 122, 123, 124, 125, 126, 48, 127, 128, 129, 130, 131, 132, 133, 134, 135, 136, 137, 138, 139, 140, 141, 142, 143, 144, 145, 146, 45, 147, 148, 149, 150, 151, 152, 153, 154, 46, 155, 156, 157, 158, 159, 160, 161, 162, 44, 163, 164, 165, 166, 18, 167, 168, 169, 170, 171, 172, 173, 174, 175, 176, 177, 178, 179, 180, 181, 182, 183, 184, 185, 186, 198, 199, 200, 201, 202, 203, 205, 206, 207, 204, 208, 209, 210, 211, 212, 213, 214] (by decide +kernel) (by decide +kernel)
set_option maxRecDepth 20000 in
theorem gX4_advise_X2_goThrough : GoodIn wsX4_advise (wsV RX4 121 RX2 yX2_goThrough wsX2_goThrough) := goodIn_app (goodIn_of _ (by decide +kernel)) ggX4_advise_X2_goThrough
set_option maxRecDepth 20000 in
theorem ggX4_advise_X3_isBurning : GoodIn wsX4_advise wsX3_isBurning := goodIn_r _ [134, 35, 104, 105, 106, 32, 107, 36, 205, 206, 207] (by decide +kernel) (by decide +kernel)
set_option maxRecDepth 20000 in
theorem gX4_advise_X3_isBurning : GoodIn wsX4_advise (wsV RX4 65 RX3 yX3_isBurning wsX3_isBurning) := goodIn_app (goodIn_of _ (by decide +kernel)) ggX4_advise_X3_isBurning
set_option maxRecDepth 20000 in
theorem ggX4_advise_X4_seenWithoutLamp : GoodIn wsX4_advise wsX4_seenWithoutLamp := goodIn_r _ [191, 1, 2, 9, 10, 11, 12, 13, 14, 15, 16, 17, 18, 19, 20, 21, 22, 23, 24, 25, 26, 27, 28, 29, 30, 31, 32, 33, 34, 35, 36, 37, 38, 39, 40, 41, 42, 43, 44, 45, 46, 47, 48, 192, 193, 194, 195, 104, 105, 106, 107, 49, 50, 51, 52, 53, 54, 55, 56, 57, 58, 59, 60, 61, 62, 63, 64, 65, 66, 67, 68, 69, 70, 71, 72, 73, 74, 75, 76, 77, 78, 79, 80, 81, 82, 83, 84, 85, 86, 87, 88, 89, 90, 91, 92, 93, 94, 95, 96, 97, 98, 99, 100, 101, 102, 103, 108, 109, 110, 111, 112, 113, 114, 115, 116, 117, 118, 119, 120, 121, 122, 123, 124, 125, 126, 127, 128, 129, 130, 131, 132, 133, 134, 135, 136, 137, 138, 139, 140, 141, 142, 143, 144, 145, 146, 147, 148, 149, 150, 151, 152, 153, 154, 155, 156, 157, 158, 159, 160, 161, 162, 163, 164, 165, 166, 167, 168, 169, 170, 171, 172, 173, 174, 175, 176, 177, 178, 179, 180, 181, 182, 183, 184, 185, 186, 196, 197, 198, 199, 200, 201, 202, 203, 204, 205, 206, 207, 208, 209, 210, 211, 212, 213, 214] (by decide +kernel) (by decide +kernel)
set_option maxRecDepth 20000 in
theorem gX4_advise_X4_seenWithoutLamp : GoodIn wsX4_advise (wsV RX4 142 RX4 yX4_seenWithoutLamp wsX4_seenWithoutLamp) := goodIn_app (goodIn_of _ (by decide +kernel)) ggX4_advise_X4_seenWithoutLamp
theorem dX4_advise_0 : decode cX4_advise 0 = .ok (.iload_n 1, 1) := by decide +kernel
theorem dX4_advise_1 : decode cX4_advise 1 = .ok (.iconst 1, 1) := by decide +kernel
theorem dX4_advise_2 : decode cX4_advise 2 = .ok (.bipush 30, 2) := by decide +kernel
theorem dX4_advise_4 : decode cX4_advise 4 = .ok (.invokestatic 23, 3) := by decide +kernel
theorem dX4_advise_7 : decode cX4_advise 7 = .ok (.aload_n 0, 1) := by decide +kernel
theorem dX4_advise_8 : decode cX4_advise 8 = .ok (.getfield 16, 3) := by decide +kernel
theorem dX4_advise_11 : decode cX4_advise 11 = .ok (.aload_n 0, 1) := by decide +kernel
theorem dX4_advise_12 : decode cX4_advise 12 = .ok (.getfield 12, 3) := by decide +kernel
theorem dX4_advise_15 : decode cX4_advise 15 = .ok (.invokevirtual 131, 3) := by decide +kernel
theorem dX4_advise_18 : decode cX4_advise 18 = .ok (.aload_n 0, 1) := by decide +kernel
theorem dX4_advise_19 : decode cX4_advise 19 = .ok (.getfield 16, 3) := by decide +kernel
theorem dX4_advise_22 : decode cX4_advise 22 = .ok (.iload_n 1, 1) := by decide +kernel
theorem dX4_advise_23 : decode cX4_advise 23 = .ok (.invokevirtual 121, 3) := by decide +kernel
theorem dX4_advise_26 : decode cX4_advise 26 = .ok (.istore_n 2, 1) := by decide +kernel
theorem dX4_advise_27 : decode cX4_advise 27 = .ok (.iconst (-1), 1) := by decide +kernel
theorem dX4_advise_28 : decode cX4_advise 28 = .ok (.istore_n 3, 1) := by decide +kernel
theorem dX4_advise_29 : decode cX4_advise 29 = .ok (.iconst 0, 1) := by decide +kernel
theorem dX4_advise_30 : decode cX4_advise 30 = .ok (.istore 4, 2) := by decide +kernel
theorem dX4_advise_32 : decode cX4_advise 32 = .ok (.iload 4, 2) := by decide +kernel
theorem dX4_advise_34 : decode cX4_advise 34 = .ok (.bipush 6, 2) := by decide +kernel
theorem dX4_advise_36 : decode cX4_advise 36 = .ok (.if_icmp .ge 45, 3) := by decide +kernel
theorem dX4_advise_39 : decode cX4_advise 39 = .ok (.aload_n 0, 1) := by decide +kernel
theorem dX4_advise_40 : decode cX4_advise 40 = .ok (.getfield 12, 3) := by decide +kernel
theorem dX4_advise_43 : decode cX4_advise 43 = .ok (.getfield 40, 3) := by decide +kernel
theorem dX4_advise_46 : decode cX4_advise 46 = .ok (.iload 4, 2) := by decide +kernel
theorem dX4_advise_48 : decode cX4_advise 48 = .ok (.invokevirtual 65, 3) := by decide +kernel
theorem dX4_advise_51 : decode cX4_advise 51 = .ok (.ifCond .eq 24, 3) := by decide +kernel
theorem dX4_advise_54 : decode cX4_advise 54 = .ok (.aload_n 0, 1) := by decide +kernel
theorem dX4_advise_55 : decode cX4_advise 55 = .ok (.iload 4, 2) := by decide +kernel
theorem dX4_advise_57 : decode cX4_advise 57 = .ok (.iload_n 1, 1) := by decide +kernel
theorem dX4_advise_58 : decode cX4_advise 58 = .ok (.invokevirtual 142, 3) := by decide +kernel
theorem dX4_advise_61 : decode cX4_advise 61 = .ok (.istore 5, 2) := by decide +kernel
theorem dX4_advise_63 : decode cX4_advise 63 = .ok (.iload 5, 2) := by decide +kernel
theorem dX4_advise_65 : decode cX4_advise 65 = .ok (.iload_n 2, 1) := by decide +kernel
theorem dX4_advise_66 : decode cX4_advise 66 = .ok (.if_icmp .le 9, 3) := by decide +kernel
theorem dX4_advise_69 : decode cX4_advise 69 = .ok (.iload 5, 2) := by decide +kernel
theorem dX4_advise_71 : decode cX4_advise 71 = .ok (.istore_n 2, 1) := by decide +kernel
theorem dX4_advise_72 : decode cX4_advise 72 = .ok (.iload 4, 2) := by decide +kernel
theorem dX4_advise_74 : decode cX4_advise 74 = .ok (.istore_n 3, 1) := by decide +kernel
theorem dX4_advise_75 : decode cX4_advise 75 = .ok (.iinc 4 1, 3) := by decide +kernel
theorem dX4_advise_78 : decode cX4_advise 78 = .ok (.goto (-46), 3) := by decide +kernel
theorem dX4_advise_81 : decode cX4_advise 81 = .ok (.iload_n 3, 1) := by decide +kernel
theorem dX4_advise_82 : decode cX4_advise 82 = .ok (.ireturn, 1) := by decide +kernel
set_option maxRecDepth 20000 in
theorem ggX4_harm_X4_needArgument : GoodIn wsX4_harm wsX4_needArgument := goodIn_ca (goodIn_r _ [6, 7, 8] (by decide +kernel) (by decide +kernel)) (goodIn_sub (fun _ h => List.mem_cons_of_mem _ (List.mem_append_right _ h)) (by decide +kernel))
set_option maxRecDepth 20000 in
theorem gX4_harm_X4_needArgument : GoodIn wsX4_harm (va_wsS RX4 23 yX4_needArgument wsX4_needArgument) := goodIn_app (goodIn_of _ (by decide +kernel)) ggX4_harm_X4_needArgument
set_option maxRecDepth 20000 in
theorem ggX4_harm_X2_copyFrom : GoodIn wsX4_harm wsX2_copyFrom := goodIn_r _ [13, 14, 15, 16, 17, 18, 19, 20, 21, 22, 23, 24, 25, 26, 27, 28, 29, 30, 31, 32, 33, 34, 35, 36, 37, 38, 39, 40, 41, 42, 43, 44, 45, 46, 47, 48, 204, 205, 206, 207, 208, 209, 210, 211, 212, 213, 214, 215, 216, 217, 218, 219, 220] (by decide +kernel) (by decide +kernel)
set_option maxRecDepth 20000 in
theorem gX4_harm_X2_copyFrom : GoodIn wsX4_harm (wsV RX4 131 RX2 yX2_copyFrom wsX2_copyFrom) := goodIn_app (goodIn_of _ (by decide +kernel)) ggX4_harm_X2_copyFrom
set_option maxRecDepth 20000 in
theorem ggX4_harm_X2_goThrough : GoodIn wsX4_harm wsX2_goThrough := goodIn_r _ [52, 17, 53, 54, 55, 12, 56, 57, 15, 58, 59, 60, 32, 61, 35, 34, 62, 63, 64, 65, 66, 67, 68, 69, 14, 70, 71, 72, 73, 74, 75, 76, 22, 77, 78, 79, 80, 81, 24, 82, 83, 84, 85, 86, 87, 88, 89, 90, 91, 92, 93, 94, 95, 16, 96, 97, 98, 40, 99, 47, 42, 43, 100, 101, 102, 103, 104, 105, 106, 107, 36, 108, 109, 110, 111, 112, 113, 114, 115, 116, 117, 118, 119, 120, 121, 122, 123, 124, 125, 126, 48, 127, 128, 129, 130, 131, 132, 133, 134, 135, 136, 137, 138, 139, 140, 141, 142, 143, 144, 145, 146, 45, 147, 148, 149, 150, 151, 152, 153, 154, 46, 155, 156, 157, 158, 159, 160, 161, 162, 44, 163, 164, 165, 166, 18, 167, 168, 169, 170, 171, 172, 173, 174, 175, 176, 177, 178, 179, 180, 181, 182, 183, 184, 185, 186, 204, 205, 206, 207, 208, 209, 211, 212, 213, 210, 214, 215, 216, 217, 218, 219, 220] (by decide +kernel) (by decide +kernel)
set_option maxRecDepth 20000 in
theorem gX4_harm_X2_goThrough : GoodIn wsX4_harm (wsV RX4 121 RX2 yX2_goThrough wsX2_goThrough) := goodIn_app (goodIn_of _ (by decide +kernel)) ggX4_harm_X2_goThrough
set_option maxRecDepth 20000 in
theorem ggX4_harm_X1_all : GoodIn wsX4_harm wsX1_all := goodIn_r _ [190, 24, 191, 5, 192, 210] (by decide +kernel) (by decide +kernel)
set_option maxRecDepth 20000 in
theorem gX4_harm_X1_all : GoodIn wsX4_harm (wsV RX4 135 RX1 yX1_all wsX1_all) := goodIn_app (goodIn_of _ (by decide +kernel)) ggX4_harm_X1_all
set_option maxRecDepth 20000 in
theorem ggX4_harm_X0_hasJar : GoodIn wsX4_harm wsX0_hasJar := goodIn_r _ [154, 46, 123, 124, 125, 40, 126, 48, 214, 215, 216, 217, 218, 219, 220] (by decide +kernel) (by decide +kernel)
set_option maxRecDepth 20000 in
theorem gX4_harm_X0_hasJar : GoodIn wsX4_harm (wsV RX4 145 RX0 yX0_hasJar wsX0_hasJar) := goodIn_app (goodIn_of _ (by decide +kernel)) ggX4_harm_X0_hasJar
set_option maxRecDepth 20000 in
theorem ggX4_harm_X4_leftWithoutJar : GoodIn wsX4_harm wsX4_leftWithoutJar := goodIn_r _ [197, 1, 2, 9, 10, 11, 12, 13, 14, 15, 16, 17, 18, 19, 20, 21, 22, 23, 24, 25, 26, 27, 28, 29, 30, 31, 32, 33, 34, 35, 36, 37, 38, 39, 40, 41, 42, 43, 44, 45, 46, 47, 48, 198, 199, 200, 201, 123, 124, 125, 126, 49, 50, 51, 52, 53, 54, 55, 56, 57, 58, 59, 60, 61, 62, 63, 64, 65, 66, 67, 68, 69, 70, 71, 72, 73, 74, 75, 76, 77, 78, 79, 80, 81, 82, 83, 84, 85, 86, 87, 88, 89, 90, 91, 92, 93, 94, 95, 96, 97, 98, 99, 100, 101, 102, 103, 104, 105, 106, 107, 108, 109, 110, 111, 112, 113, 114, 115, 116, 117, 118, 119, 120, 121, 122, 127, 128, 129, 130, 131, 132, 133, 134, 135, 136, 137, 138, 139, 140, 141, 142, 143, 144, 145, 146, 147, 148, 149, 150, 151, 152, 153, 154, 155, 156, 157, 158, 159, 160, 161, 162, 163, 164, 165, 166, 167, 168, 169, 170, 171, 172, 173, 174, 175, 176, 177, 178, 179, 180, 181, 182, 183, 184, 185, 186, 187, 188, 189, 190, 191, 5, 192, 202, 203, 204, 205, 206, 207, 208, 209, 210, 211, 212, 213, 214, 215, 216, 217, 218, 219, 220] (by decide +kernel) (by decide +kernel)
set_option maxRecDepth 20000 in
theorem gX4_harm_X4_leftWithoutJar : GoodIn wsX4_harm (wsV RX4 148 RX4 yX4_leftWithoutJar wsX4_leftWithoutJar) := goodIn_app (goodIn_of _ (by decide +kernel)) ggX4_harm_X4_leftWithoutJar
theorem dX4_harm_0 : decode cX4_harm 0 = .ok (.iload_n 1, 1) := by decide +kernel
theorem dX4_harm_1 : decode cX4_harm 1 = .ok (.iconst 1, 1) := by decide +kernel
theorem dX4_harm_2 : decode cX4_harm 2 = .ok (.bipush 30, 2) := by decide +kernel
theorem dX4_harm_4 : decode cX4_harm 4 = .ok (.invokestatic 23, 3) := by decide +kernel
theorem dX4_harm_7 : decode cX4_harm 7 = .ok (.aload_n 0, 1) := by decide +kernel
theorem dX4_harm_8 : decode cX4_harm 8 = .ok (.getfield 16, 3) := by decide +kernel
theorem dX4_harm_11 : decode cX4_harm 11 = .ok (.aload_n 0, 1) := by decide +kernel
theorem dX4_harm_12 : decode cX4_harm 12 = .ok (.getfield 12, 3) := by decide +kernel
theorem dX4_harm_15 : decode cX4_harm 15 = .ok (.invokevirtual 131, 3) := by decide +kernel
theorem dX4_harm_18 : decode cX4_harm 18 = .ok (.aload_n 0, 1) := by decide +kernel
theorem dX4_harm_19 : decode cX4_harm 19 = .ok (.getfield 16, 3) := by decide +kernel
theorem dX4_harm_22 : decode cX4_harm 22 = .ok (.iload_n 1, 1) := by decide +kernel
theorem dX4_harm_23 : decode cX4_harm 23 = .ok (.invokevirtual 121, 3) := by decide +kernel
theorem dX4_harm_26 : decode cX4_harm 26 = .ok (.pop, 1) := by decide +kernel
theorem dX4_harm_27 : decode cX4_harm 27 = .ok (.aload_n 0, 1) := by decide +kernel
theorem dX4_harm_28 : decode cX4_harm 28 = .ok (.getfield 16, 3) := by decide +kernel
theorem dX4_harm_31 : decode cX4_harm 31 = .ok (.getfield 27, 3) := by decide +kernel
theorem dX4_harm_34 : decode cX4_harm 34 = .ok (.invokevirtual 135, 3) := by decide +kernel
theorem dX4_harm_37 : decode cX4_harm 37 = .ok (.istore_n 2, 1) := by decide +kernel
theorem dX4_harm_38 : decode cX4_harm 38 = .ok (.iconst (-1), 1) := by decide +kernel
theorem dX4_harm_39 : decode cX4_harm 39 = .ok (.istore_n 3, 1) := by decide +kernel
theorem dX4_harm_40 : decode cX4_harm 40 = .ok (.iconst 0, 1) := by decide +kernel
theorem dX4_harm_41 : decode cX4_harm 41 = .ok (.istore 4, 2) := by decide +kernel
theorem dX4_harm_43 : decode cX4_harm 43 = .ok (.iload 4, 2) := by decide +kernel
theorem dX4_harm_45 : decode cX4_harm 45 = .ok (.bipush 12, 2) := by decide +kernel
theorem dX4_harm_47 : decode cX4_harm 47 = .ok (.if_icmp .ge 45, 3) := by decide +kernel
theorem dX4_harm_50 : decode cX4_harm 50 = .ok (.aload_n 0, 1) := by decide +kernel
theorem dX4_harm_51 : decode cX4_harm 51 = .ok (.getfield 12, 3) := by decide +kernel
theorem dX4_harm_54 : decode cX4_harm 54 = .ok (.getfield 79, 3) := by decide +kernel
theorem dX4_harm_57 : decode cX4_harm 57 = .ok (.iload 4, 2) := by decide +kernel
theorem dX4_harm_59 : decode cX4_harm 59 = .ok (.invokevirtual 145, 3) := by decide +kernel
theorem dX4_harm_62 : decode cX4_harm 62 = .ok (.ifCond .eq 24, 3) := by decide +kernel
theorem dX4_harm_65 : decode cX4_harm 65 = .ok (.aload_n 0, 1) := by decide +kernel
theorem dX4_harm_66 : decode cX4_harm 66 = .ok (.iload 4, 2) := by decide +kernel
theorem dX4_harm_68 : decode cX4_harm 68 = .ok (.iload_n 1, 1) := by decide +kernel
theorem dX4_harm_69 : decode cX4_harm 69 = .ok (.invokevirtual 148, 3) := by decide +kernel
theorem dX4_harm_72 : decode cX4_harm 72 = .ok (.istore 5, 2) := by decide +kernel
theorem dX4_harm_74 : decode cX4_harm 74 = .ok (.iload 5, 2) := by decide +kernel
theorem dX4_harm_76 : decode cX4_harm 76 = .ok (.iload_n 2, 1) := by decide +kernel
theorem dX4_harm_77 : decode cX4_harm 77 = .ok (.if_icmp .le 9, 3) := by decide +kernel
theorem dX4_harm_80 : decode cX4_harm 80 = .ok (.iload 5, 2) := by decide +kernel
theorem dX4_harm_82 : decode cX4_harm 82 = .ok (.istore_n 2, 1) := by decide +kernel
theorem dX4_harm_83 : decode cX4_harm 83 = .ok (.iload 4, 2) := by decide +kernel
theorem dX4_harm_85 : decode cX4_harm 85 = .ok (.istore_n 3, 1) := by decide +kernel
theorem dX4_harm_86 : decode cX4_harm 86 = .ok (.iinc 4 1, 3) := by decide +kernel
theorem dX4_harm_89 : decode cX4_harm 89 = .ok (.goto (-46), 3) := by decide +kernel
theorem dX4_harm_92 : decode cX4_harm 92 = .ok (.iload_n 3, 1) := by decide +kernel
theorem dX4_harm_93 : decode cX4_harm 93 = .ok (.ireturn, 1) := by decide +kernel
set_option maxRecDepth 20000 in
theorem ggX4_mean_X0_many : GoodIn wsX4_mean wsX0_many := goodIn_r _ [6, 7, 24, 25, 26, 27, 28, 29, 30] (by decide +kernel) (by decide +kernel)
set_option maxRecDepth 20000 in
theorem gX4_mean_X0_many : GoodIn wsX4_mean (wsV RX4 151 RX0 yX0_many wsX0_many) := goodIn_app (goodIn_of _ (by decide +kernel)) ggX4_mean_X0_many
set_option maxRecDepth 20000 in
theorem ggX4_mean_X0_sawInAll : GoodIn wsX4_mean wsX0_sawInAll := goodIn_r _ [11, 12, 13, 14, 15, 24, 25, 26, 27, 28, 29, 30] (by decide +kernel) (by decide +kernel)
set_option maxRecDepth 20000 in
theorem gX4_mean_X0_sawInAll : GoodIn wsX4_mean (wsV RX4 154 RX0 yX0_sawInAll wsX0_sawInAll) := goodIn_app (goodIn_of _ (by decide +kernel)) ggX4_mean_X0_sawInAll
theorem dX4_mean_0 : decode cX4_mean 0 = .ok (.aload_n 0, 1) := by decide +kernel
theorem dX4_mean_1 : decode cX4_mean 1 = .ok (.getfield 12, 3) := by decide +kernel
theorem dX4_mean_4 : decode cX4_mean 4 = .ok (.getfield 79, 3) := by decide +kernel
theorem dX4_mean_7 : decode cX4_mean 7 = .ok (.invokevirtual 151, 3) := by decide +kernel
theorem dX4_mean_10 : decode cX4_mean 10 = .ok (.ifCond .ne 5, 3) := by decide +kernel
theorem dX4_mean_13 : decode cX4_mean 13 = .ok (.dconst 0, 1) := by decide +kernel
theorem dX4_mean_14 : decode cX4_mean 14 = .ok (.dreturn, 1) := by decide +kernel
theorem dX4_mean_15 : decode cX4_mean 15 = .ok (.aload_n 0, 1) := by decide +kernel
theorem dX4_mean_16 : decode cX4_mean 16 = .ok (.getfield 12, 3) := by decide +kernel
theorem dX4_mean_19 : decode cX4_mean 19 = .ok (.getfield 79, 3) := by decide +kernel
theorem dX4_mean_22 : decode cX4_mean 22 = .ok (.invokevirtual 154, 3) := by decide +kernel
theorem dX4_mean_25 : decode cX4_mean 25 = .ok (.i2d, 1) := by decide +kernel
theorem dX4_mean_26 : decode cX4_mean 26 = .ok (.aload_n 0, 1) := by decide +kernel
theorem dX4_mean_27 : decode cX4_mean 27 = .ok (.getfield 12, 3) := by decide +kernel
theorem dX4_mean_30 : decode cX4_mean 30 = .ok (.getfield 79, 3) := by decide +kernel
theorem dX4_mean_33 : decode cX4_mean 33 = .ok (.invokevirtual 151, 3) := by decide +kernel
theorem dX4_mean_36 : decode cX4_mean 36 = .ok (.i2d, 1) := by decide +kernel
theorem dX4_mean_37 : decode cX4_mean 37 = .ok (.ddiv, 1) := by decide +kernel
theorem dX4_mean_38 : decode cX4_mean 38 = .ok (.dreturn, 1) := by decide +kernel
set_option maxRecDepth 20000 in
theorem ggX4_digest_X2_tellCount : GoodIn wsX4_digest wsX2_tellCount := goodIn_r _ [8, 9, 10, 11, 12, 13, 14, 15, 7, 16, 17, 18, 19, 20, 21, 22, 23, 24, 25, 26, 27, 28, 29, 30, 31, 32, 33, 34, 35, 36, 37, 38, 39, 40, 41, 42, 43, 44, 45, 46, 47, 48, 49, 50, 51, 52, 53, 54, 55, 56, 57, 58, 59, 60, 61, 62, 142, 143, 144, 145, 146, 147, 148, 149, 150, 151, 152, 153, 154, 155, 156, 157, 158] (by decide +kernel) (by decide +kernel)
set_option maxRecDepth 20000 in
theorem gX4_digest_X2_tellCount : GoodIn wsX4_digest (wsV RX4 118 RX2 yX2_tellCount wsX2_tellCount) := goodIn_app (goodIn_of _ (by decide +kernel)) ggX4_digest_X2_tellCount
set_option maxRecDepth 20000 in
theorem ggX4_digest_X1_at : GoodIn wsX4_digest wsX1_at := goodIn_r _ [66, 22, 67, 68, 20, 69, 148] (by decide +kernel) (by decide +kernel)
set_option maxRecDepth 20000 in
theorem gX4_digest_X1_at : GoodIn wsX4_digest (wsV RX4 31 RX1 yX1_at wsX1_at) := goodIn_app (goodIn_of _ (by decide +kernel)) ggX4_digest_X1_at
set_option maxRecDepth 20000 in
theorem ggX4_digest_X3_many : GoodIn wsX4_digest wsX3_many := goodIn_r _ [30, 31, 149, 150, 151] (by decide +kernel) (by decide +kernel)
set_option maxRecDepth 20000 in
theorem gX4_digest_X3_many : GoodIn wsX4_digest (wsV RX4 161 RX3 yX3_many wsX3_many) := goodIn_app (goodIn_of _ (by decide +kernel)) ggX4_digest_X3_many
set_option maxRecDepth 20000 in
theorem ggX4_digest_X2_tellRoom : GoodIn wsX4_digest wsX2_tellRoom := goodIn_r _ [74, 11, 12, 75, 76, 77, 29, 78, 58, 79, 80, 81, 82, 31, 83, 84, 85, 86, 36, 87, 88, 89, 42, 90, 44, 91, 92, 93, 94, 95, 96, 97, 98, 99, 100, 49, 142, 143, 144, 145, 146, 147, 149, 150, 151, 152, 153, 154, 155, 156, 157, 158] (by decide +kernel) (by decide +kernel)
set_option maxRecDepth 20000 in
theorem gX4_digest_X2_tellRoom : GoodIn wsX4_digest (wsV RX4 73 RX2 yX2_tellRoom wsX2_tellRoom) := goodIn_app (goodIn_of _ (by decide +kernel)) ggX4_digest_X2_tellRoom
set_option maxRecDepth 20000 in
theorem ggX4_digest_X0_many : GoodIn wsX4_digest wsX0_many := goodIn_r _ [104, 105, 152, 153, 154, 155, 156, 157, 158] (by decide +kernel) (by decide +kernel)
set_option maxRecDepth 20000 in
theorem gX4_digest_X0_many : GoodIn wsX4_digest (wsV RX4 151 RX0 yX0_many wsX0_many) := goodIn_app (goodIn_of _ (by decide +kernel)) ggX4_digest_X0_many
set_option maxRecDepth 20000 in
theorem ggX4_digest_X0_tell : GoodIn wsX4_digest wsX0_tell := goodIn_r _ [109, 110, 111, 112, 42, 113, 91, 114, 115, 116, 117, 105, 118, 119, 120, 121, 96, 122, 123, 124, 125, 49, 126, 127, 128, 129, 130, 131, 132, 133, 134, 135, 136, 137, 138, 139, 44, 152, 153, 154, 155, 156, 157, 158] (by decide +kernel) (by decide +kernel)
set_option maxRecDepth 20000 in
theorem gX4_digest_X0_tell : GoodIn wsX4_digest (wsV RX4 115 RX0 yX0_tell wsX0_tell) := goodIn_app (goodIn_of _ (by decide +kernel)) ggX4_digest_X0_tell
theorem dX4_digest_0 : decode cX4_digest 0 = .ok (.ldc2_w 157, 3) := by decide +kernel
theorem dX4_digest_3 : decode cX4_digest 3 = .ok (.lstore_n 1, 1) := by decide +kernel
theorem dX4_digest_4 : decode cX4_digest 4 = .ok (.iconst 0, 1) := by decide +kernel
theorem dX4_digest_5 : decode cX4_digest 5 = .ok (.istore_n 3, 1) := by decide +kernel
theorem dX4_digest_6 : decode cX4_digest 6 = .ok (.iload_n 3, 1) := by decide +kernel
theorem dX4_digest_7 : decode cX4_digest 7 = .ok (.bipush 8, 2) := by decide +kernel
theorem dX4_digest_9 : decode cX4_digest 9 = .ok (.if_icmp .gt 25, 3) := by decide +kernel
theorem dX4_digest_12 : decode cX4_digest 12 = .ok (.lload_n 1, 1) := by decide +kernel
theorem dX4_digest_13 : decode cX4_digest 13 = .ok (.ldc2_w 159, 3) := by decide +kernel
theorem dX4_digest_16 : decode cX4_digest 16 = .ok (.lmul, 1) := by decide +kernel
theorem dX4_digest_17 : decode cX4_digest 17 = .ok (.aload_n 0, 1) := by decide +kernel
theorem dX4_digest_18 : decode cX4_digest 18 = .ok (.getfield 12, 3) := by decide +kernel
theorem dX4_digest_21 : decode cX4_digest 21 = .ok (.iload_n 3, 1) := by decide +kernel
theorem dX4_digest_22 : decode cX4_digest 22 = .ok (.invokevirtual 118, 3) := by decide +kernel
theorem dX4_digest_25 : decode cX4_digest 25 = .ok (.i2l, 1) := by decide +kernel
theorem dX4_digest_26 : decode cX4_digest 26 = .ok (.ladd, 1) := by decide +kernel
theorem dX4_digest_27 : decode cX4_digest 27 = .ok (.lstore_n 1, 1) := by decide +kernel
theorem dX4_digest_28 : decode cX4_digest 28 = .ok (.iinc 3 1, 3) := by decide +kernel
theorem dX4_digest_31 : decode cX4_digest 31 = .ok (.goto (-25), 3) := by decide +kernel
theorem dX4_digest_34 : decode cX4_digest 34 = .ok (.iconst 0, 1) := by decide +kernel
theorem dX4_digest_35 : decode cX4_digest 35 = .ok (.istore_n 3, 1) := by decide +kernel
theorem dX4_digest_36 : decode cX4_digest 36 = .ok (.iload_n 3, 1) := by decide +kernel
theorem dX4_digest_37 : decode cX4_digest 37 = .ok (.iconst 5, 1) := by decide +kernel
theorem dX4_digest_38 : decode cX4_digest 38 = .ok (.if_icmp .ge 46, 3) := by decide +kernel
theorem dX4_digest_41 : decode cX4_digest 41 = .ok (.iconst 0, 1) := by decide +kernel
theorem dX4_digest_42 : decode cX4_digest 42 = .ok (.istore 4, 2) := by decide +kernel
theorem dX4_digest_44 : decode cX4_digest 44 = .ok (.iload 4, 2) := by decide +kernel
theorem dX4_digest_46 : decode cX4_digest 46 = .ok (.bipush 10, 2) := by decide +kernel
theorem dX4_digest_48 : decode cX4_digest 48 = .ok (.if_icmp .ge 30, 3) := by decide +kernel
theorem dX4_digest_51 : decode cX4_digest 51 = .ok (.lload_n 1, 1) := by decide +kernel
theorem dX4_digest_52 : decode cX4_digest 52 = .ok (.ldc2_w 159, 3) := by decide +kernel
theorem dX4_digest_55 : decode cX4_digest 55 = .ok (.lmul, 1) := by decide +kernel
theorem dX4_digest_56 : decode cX4_digest 56 = .ok (.aload_n 0, 1) := by decide +kernel
theorem dX4_digest_57 : decode cX4_digest 57 = .ok (.getfield 12, 3) := by decide +kernel
theorem dX4_digest_60 : decode cX4_digest 60 = .ok (.getfield 27, 3) := by decide +kernel
theorem dX4_digest_63 : decode cX4_digest 63 = .ok (.iload 4, 2) := by decide +kernel
theorem dX4_digest_65 : decode cX4_digest 65 = .ok (.iload_n 3, 1) := by decide +kernel
theorem dX4_digest_66 : decode cX4_digest 66 = .ok (.invokevirtual 31, 3) := by decide +kernel
theorem dX4_digest_69 : decode cX4_digest 69 = .ok (.i2l, 1) := by decide +kernel
theorem dX4_digest_70 : decode cX4_digest 70 = .ok (.ladd, 1) := by decide +kernel
theorem dX4_digest_71 : decode cX4_digest 71 = .ok (.lstore_n 1, 1) := by decide +kernel
theorem dX4_digest_72 : decode cX4_digest 72 = .ok (.iinc 4 1, 3) := by decide +kernel
theorem dX4_digest_75 : decode cX4_digest 75 = .ok (.goto (-31), 3) := by decide +kernel
theorem dX4_digest_78 : decode cX4_digest 78 = .ok (.iinc 3 1, 3) := by decide +kernel
theorem dX4_digest_81 : decode cX4_digest 81 = .ok (.goto (-45), 3) := by decide +kernel
theorem dX4_digest_84 : decode cX4_digest 84 = .ok (.iconst 0, 1) := by decide +kernel
theorem dX4_digest_85 : decode cX4_digest 85 = .ok (.istore_n 3, 1) := by decide +kernel
theorem dX4_digest_86 : decode cX4_digest 86 = .ok (.iload_n 3, 1) := by decide +kernel
theorem dX4_digest_87 : decode cX4_digest 87 = .ok (.aload_n 0, 1) := by decide +kernel
theorem dX4_digest_88 : decode cX4_digest 88 = .ok (.getfield 12, 3) := by decide +kernel
theorem dX4_digest_91 : decode cX4_digest 91 = .ok (.getfield 40, 3) := by decide +kernel
theorem dX4_digest_94 : decode cX4_digest 94 = .ok (.invokevirtual 161, 3) := by decide +kernel
theorem dX4_digest_97 : decode cX4_digest 97 = .ok (.if_icmp .ge 42, 3) := by decide +kernel
theorem dX4_digest_100 : decode cX4_digest 100 = .ok (.iconst 0, 1) := by decide +kernel
theorem dX4_digest_101 : decode cX4_digest 101 = .ok (.istore 4, 2) := by decide +kernel
theorem dX4_digest_103 : decode cX4_digest 103 = .ok (.iload 4, 2) := by decide +kernel
theorem dX4_digest_105 : decode cX4_digest 105 = .ok (.iconst 4, 1) := by decide +kernel
theorem dX4_digest_106 : decode cX4_digest 106 = .ok (.if_icmp .gt 27, 3) := by decide +kernel
theorem dX4_digest_109 : decode cX4_digest 109 = .ok (.lload_n 1, 1) := by decide +kernel
theorem dX4_digest_110 : decode cX4_digest 110 = .ok (.ldc2_w 159, 3) := by decide +kernel
theorem dX4_digest_113 : decode cX4_digest 113 = .ok (.lmul, 1) := by decide +kernel
theorem dX4_digest_114 : decode cX4_digest 114 = .ok (.aload_n 0, 1) := by decide +kernel
theorem dX4_digest_115 : decode cX4_digest 115 = .ok (.getfield 12, 3) := by decide +kernel
theorem dX4_digest_118 : decode cX4_digest 118 = .ok (.iload_n 3, 1) := by decide +kernel
theorem dX4_digest_119 : decode cX4_digest 119 = .ok (.iload 4, 2) := by decide +kernel
theorem dX4_digest_121 : decode cX4_digest 121 = .ok (.invokevirtual 73, 3) := by decide +kernel
theorem dX4_digest_124 : decode cX4_digest 124 = .ok (.i2l, 1) := by decide +kernel
theorem dX4_digest_125 : decode cX4_digest 125 = .ok (.ladd, 1) := by decide +kernel
theorem dX4_digest_126 : decode cX4_digest 126 = .ok (.lstore_n 1, 1) := by decide +kernel
theorem dX4_digest_127 : decode cX4_digest 127 = .ok (.iinc 4 1, 3) := by decide +kernel
theorem dX4_digest_130 : decode cX4_digest 130 = .ok (.goto (-27), 3) := by decide +kernel
theorem dX4_digest_133 : decode cX4_digest 133 = .ok (.iinc 3 1, 3) := by decide +kernel
theorem dX4_digest_136 : decode cX4_digest 136 = .ok (.goto (-50), 3) := by decide +kernel
theorem dX4_digest_139 : decode cX4_digest 139 = .ok (.iconst 0, 1) := by decide +kernel
theorem dX4_digest_140 : decode cX4_digest 140 = .ok (.istore_n 3, 1) := by decide +kernel
theorem dX4_digest_141 : decode cX4_digest 141 = .ok (.iload_n 3, 1) := by decide +kernel
theorem dX4_digest_142 : decode cX4_digest 142 = .ok (.aload_n 0, 1) := by decide +kernel
theorem dX4_digest_143 : decode cX4_digest 143 = .ok (.getfield 12, 3) := by decide +kernel
theorem dX4_digest_146 : decode cX4_digest 146 = .ok (.getfield 79, 3) := by decide +kernel
theorem dX4_digest_149 : decode cX4_digest 149 = .ok (.invokevirtual 151, 3) := by decide +kernel
theorem dX4_digest_152 : decode cX4_digest 152 = .ok (.if_icmp .ge 45, 3) := by decide +kernel
theorem dX4_digest_155 : decode cX4_digest 155 = .ok (.iconst 0, 1) := by decide +kernel
theorem dX4_digest_156 : decode cX4_digest 156 = .ok (.istore 4, 2) := by decide +kernel
theorem dX4_digest_158 : decode cX4_digest 158 = .ok (.iload 4, 2) := by decide +kernel
theorem dX4_digest_160 : decode cX4_digest 160 = .ok (.iconst 5, 1) := by decide +kernel
theorem dX4_digest_161 : decode cX4_digest 161 = .ok (.if_icmp .gt 30, 3) := by decide +kernel
theorem dX4_digest_164 : decode cX4_digest 164 = .ok (.lload_n 1, 1) := by decide +kernel
theorem dX4_digest_165 : decode cX4_digest 165 = .ok (.ldc2_w 159, 3) := by decide +kernel
theorem dX4_digest_168 : decode cX4_digest 168 = .ok (.lmul, 1) := by decide +kernel
theorem dX4_digest_169 : decode cX4_digest 169 = .ok (.aload_n 0, 1) := by decide +kernel
theorem dX4_digest_170 : decode cX4_digest 170 = .ok (.getfield 12, 3) := by decide +kernel
theorem dX4_digest_173 : decode cX4_digest 173 = .ok (.getfield 79, 3) := by decide +kernel
theorem dX4_digest_176 : decode cX4_digest 176 = .ok (.iload_n 3, 1) := by decide +kernel
theorem dX4_digest_177 : decode cX4_digest 177 = .ok (.iload 4, 2) := by decide +kernel
theorem dX4_digest_179 : decode cX4_digest 179 = .ok (.invokevirtual 115, 3) := by decide +kernel
theorem dX4_digest_182 : decode cX4_digest 182 = .ok (.i2l, 1) := by decide +kernel
theorem dX4_digest_183 : decode cX4_digest 183 = .ok (.ladd, 1) := by decide +kernel
theorem dX4_digest_184 : decode cX4_digest 184 = .ok (.lstore_n 1, 1) := by decide +kernel
theorem dX4_digest_185 : decode cX4_digest 185 = .ok (.iinc 4 1, 3) := by decide +kernel
theorem dX4_digest_188 : decode cX4_digest 188 = .ok (.goto (-30), 3) := by decide +kernel
theorem dX4_digest_191 : decode cX4_digest 191 = .ok (.iinc 3 1, 3) := by decide +kernel
theorem dX4_digest_194 : decode cX4_digest 194 = .ok (.goto (-53), 3) := by decide +kernel
theorem dX4_digest_197 : decode cX4_digest 197 = .ok (.lload_n 1, 1) := by decide +kernel
theorem dX4_digest_198 : decode cX4_digest 198 = .ok (.lreturn, 1) := by decide +kernel
set_option maxRecDepth 20000 in
theorem ggX4_seenWithoutLamp_X2_copyFrom : GoodIn wsX4_seenWithoutLamp wsX2_copyFrom := goodIn_r _ [7, 8, 9, 10, 11, 12, 13, 14, 15, 16, 17, 18, 19, 20, 21, 22, 23, 24, 25, 26, 27, 28, 29, 30, 31, 32, 33, 34, 35, 36, 37, 38, 39, 40, 41, 42, 187, 188, 189, 190, 191, 192, 193, 194, 195, 196, 197, 198, 199, 200, 201, 202, 203] (by decide +kernel) (by decide +kernel)
set_option maxRecDepth 20000 in
theorem gX4_seenWithoutLamp_X2_copyFrom : GoodIn wsX4_seenWithoutLamp (wsV RX4 131 RX2 yX2_copyFrom wsX2_copyFrom) := goodIn_app (goodIn_of _ (by decide +kernel)) ggX4_seenWithoutLamp_X2_copyFrom
set_option maxRecDepth 20000 in
theorem ggX4_seenWithoutLamp_X3_setBurning : GoodIn wsX4_seenWithoutLamp wsX3_setBurning := goodIn_r _ [46, 29, 47, 48, 49, 26, 50, 30, 194, 195, 196] (by decide +kernel) (by decide +kernel)
set_option maxRecDepth 20000 in
theorem gX4_seenWithoutLamp_X3_setBurning : GoodIn wsX4_seenWithoutLamp (wsV RX4 69 RX3 yX3_setBurning wsX3_setBurning) := goodIn_app (goodIn_of _ (by decide +kernel)) ggX4_seenWithoutLamp_X3_setBurning
set_option maxRecDepth 20000 in
theorem ggX4_seenWithoutLamp_X2_goThrough : GoodIn wsX4_seenWithoutLamp wsX2_goThrough := goodIn_r _ [54, 11, 55, 56, 57, 6, 58, 59, 9, 60, 61, 62, 26, 63, 29, 28, 64, 65, 66, 67, 68, 69, 70, 71, 8, 72, 73, 74, 75, 76, 77, 78, 16, 79, 80, 81, 82, 83, 18, 84, 85, 86, 87, 88, 89, 90, 91, 92, 93, 94, 95, 96, 97, 10, 98, 99, 100, 34, 101, 41, 36, 37, 102, 103, 104, 105, 47, 48, 49, 50, 30, 106, 107, 108, 109, 110, 111, 112, 113, 114, 115, 116, 117, 118, 119, 120, 121, 122, 123, 124, 42, 125, 126, 127, 128, 129, 130, 131, 132, 133, 134, 135, 136, 137, 138, 139, 140, 141, 142, 143, 144, 39, 145, 146, 147, 148, 149, 150, 151, 152, 40, 153, 154, 155, 156, 157, 158, 159, 160, 38, 161, 162, 163, 164, 12, 165, 166, 167, 168, 169, 170, 171, 172, 173, 174, 175, 176, 177, 178, 179, 180, 181, 182, 183, 184, 187, 188, 189, 190, 191, 192, 194, 195, 196, 193, 197, 198, 199, 200, 201, 202, 203] (by decide +kernel) (by decide +kernel)
set_option maxRecDepth 20000 in
theorem gX4_seenWithoutLamp_X2_goThrough : GoodIn wsX4_seenWithoutLamp (wsV RX4 121 RX2 yX2_goThrough wsX2_goThrough) := goodIn_app (goodIn_of _ (by decide +kernel)) ggX4_seenWithoutLamp_X2_goThrough
theorem dX4_seenWithoutLamp_0 : decode cX4_seenWithoutLamp 0 = .ok (.aload_n 0, 1) := by decide +kernel
theorem dX4_seenWithoutLamp_1 : decode cX4_seenWithoutLamp 1 = .ok (.getfield 16, 3) := by decide +kernel
theorem dX4_seenWithoutLamp_4 : decode cX4_seenWithoutLamp 4 = .ok (.aload_n 0, 1) := by decide +kernel
theorem dX4_seenWithoutLamp_5 : decode cX4_seenWithoutLamp 5 = .ok (.getfield 12, 3) := by decide +kernel
theorem dX4_seenWithoutLamp_8 : decode cX4_seenWithoutLamp 8 = .ok (.invokevirtual 131, 3) := by decide +kernel
theorem dX4_seenWithoutLamp_11 : decode cX4_seenWithoutLamp 11 = .ok (.aload_n 0, 1) := by decide +kernel
theorem dX4_seenWithoutLamp_12 : decode cX4_seenWithoutLamp 12 = .ok (.getfield 16, 3) := by decide +kernel
theorem dX4_seenWithoutLamp_15 : decode cX4_seenWithoutLamp 15 = .ok (.getfield 40, 3) := by decide +kernel
theorem dX4_seenWithoutLamp_18 : decode cX4_seenWithoutLamp 18 = .ok (.iload_n 1, 1) := by decide +kernel
theorem dX4_seenWithoutLamp_19 : decode cX4_seenWithoutLamp 19 = .ok (.iconst 0, 1) := by decide +kernel
theorem dX4_seenWithoutLamp_20 : decode cX4_seenWithoutLamp 20 = .ok (.invokevirtual 69, 3) := by decide +kernel
theorem dX4_seenWithoutLamp_23 : decode cX4_seenWithoutLamp 23 = .ok (.aload_n 0, 1) := by decide +kernel
theorem dX4_seenWithoutLamp_24 : decode cX4_seenWithoutLamp 24 = .ok (.getfield 16, 3) := by decide +kernel
theorem dX4_seenWithoutLamp_27 : decode cX4_seenWithoutLamp 27 = .ok (.iload_n 2, 1) := by decide +kernel
theorem dX4_seenWithoutLamp_28 : decode cX4_seenWithoutLamp 28 = .ok (.invokevirtual 121, 3) := by decide +kernel
theorem dX4_seenWithoutLamp_31 : decode cX4_seenWithoutLamp 31 = .ok (.ireturn, 1) := by decide +kernel
set_option maxRecDepth 20000 in
theorem ggX4_leftWithoutJar_X2_copyFrom : GoodIn wsX4_leftWithoutJar wsX2_copyFrom := goodIn_r _ [7, 8, 9, 10, 11, 12, 13, 14, 15, 16, 17, 18, 19, 20, 21, 22, 23, 24, 25, 26, 27, 28, 29, 30, 31, 32, 33, 34, 35, 36, 37, 38, 39, 40, 41, 42, 194, 195, 196, 197, 198, 199, 200, 201, 202, 203, 204, 205, 206, 207, 208, 209, 210] (by decide +kernel) (by decide +kernel)
set_option maxRecDepth 20000 in
theorem gX4_leftWithoutJar_X2_copyFrom : GoodIn wsX4_leftWithoutJar (wsV RX4 131 RX2 yX2_copyFrom wsX2_copyFrom) := goodIn_app (goodIn_of _ (by decide +kernel)) ggX4_leftWithoutJar_X2_copyFrom
set_option maxRecDepth 20000 in
theorem ggX4_leftWithoutJar_X0_dropJar : GoodIn wsX4_leftWithoutJar wsX0_dropJar := goodIn_r _ [46, 40, 47, 48, 49, 34, 50, 42, 204, 205, 206, 207, 208, 209, 210] (by decide +kernel) (by decide +kernel)
set_option maxRecDepth 20000 in
theorem gX4_leftWithoutJar_X0_dropJar : GoodIn wsX4_leftWithoutJar (wsV RX4 162 RX0 yX0_dropJar wsX0_dropJar) := goodIn_app (goodIn_of _ (by decide +kernel)) ggX4_leftWithoutJar_X0_dropJar
set_option maxRecDepth 20000 in
theorem ggX4_leftWithoutJar_X2_goThrough : GoodIn wsX4_leftWithoutJar wsX2_goThrough := goodIn_r _ [54, 11, 55, 56, 57, 6, 58, 59, 9, 60, 61, 62, 26, 63, 29, 28, 64, 65, 66, 67, 68, 69, 70, 71, 8, 72, 73, 74, 75, 76, 77, 78, 16, 79, 80, 81, 82, 83, 18, 84, 85, 86, 87, 88, 89, 90, 91, 92, 93, 94, 95, 96, 97, 10, 98, 99, 100, 34, 101, 41, 36, 37, 102, 103, 104, 105, 106, 107, 108, 109, 30, 110, 111, 112, 113, 114, 115, 116, 117, 118, 119, 120, 121, 122, 123, 124, 47, 48, 49, 50, 42, 125, 126, 127, 128, 129, 130, 131, 132, 133, 134, 135, 136, 137, 138, 139, 140, 141, 142, 143, 144, 39, 145, 146, 147, 148, 149, 150, 151, 152, 40, 153, 154, 155, 156, 157, 158, 159, 160, 38, 161, 162, 163, 164, 12, 165, 166, 167, 168, 169, 170, 171, 172, 173, 174, 175, 176, 177, 178, 179, 180, 181, 182, 183, 184, 194, 195, 196, 197, 198, 199, 201, 202, 203, 200, 204, 205, 206, 207, 208, 209, 210] (by decide +kernel) (by decide +kernel)
set_option maxRecDepth 20000 in
theorem gX4_leftWithoutJar_X2_goThrough : GoodIn wsX4_leftWithoutJar (wsV RX4 121 RX2 yX2_goThrough wsX2_goThrough) := goodIn_app (goodIn_of _ (by decide +kernel)) ggX4_leftWithoutJar_X2_goThrough
set_option maxRecDepth 20000 in
theorem ggX4_leftWithoutJar_X1_all : GoodIn wsX4_leftWithoutJar wsX1_all := goodIn_r _ [188, 18, 189, 190, 191, 200] (by decide +kernel) (by decide +kernel)
set_option maxRecDepth 20000 in
theorem gX4_leftWithoutJar_X1_all : GoodIn wsX4_leftWithoutJar (wsV RX4 135 RX1 yX1_all wsX1_all) := goodIn_app (goodIn_of _ (by decide +kernel)) ggX4_leftWithoutJar_X1_all
theorem dX4_leftWithoutJar_0 : decode cX4_leftWithoutJar 0 = .ok (.aload_n 0, 1) := by decide +kernel
theorem dX4_leftWithoutJar_1 : decode cX4_leftWithoutJar 1 = .ok (.getfield 16, 3) := by decide +kernel
theorem dX4_leftWithoutJar_4 : decode cX4_leftWithoutJar 4 = .ok (.aload_n 0, 1) := by decide +kernel
theorem dX4_leftWithoutJar_5 : decode cX4_leftWithoutJar 5 = .ok (.getfield 12, 3) := by decide +kernel
theorem dX4_leftWithoutJar_8 : decode cX4_leftWithoutJar 8 = .ok (.invokevirtual 131, 3) := by decide +kernel
theorem dX4_leftWithoutJar_11 : decode cX4_leftWithoutJar 11 = .ok (.aload_n 0, 1) := by decide +kernel
theorem dX4_leftWithoutJar_12 : decode cX4_leftWithoutJar 12 = .ok (.getfield 16, 3) := by decide +kernel
theorem dX4_leftWithoutJar_15 : decode cX4_leftWithoutJar 15 = .ok (.getfield 79, 3) := by decide +kernel
theorem dX4_leftWithoutJar_18 : decode cX4_leftWithoutJar 18 = .ok (.iload_n 1, 1) := by decide +kernel
theorem dX4_leftWithoutJar_19 : decode cX4_leftWithoutJar 19 = .ok (.invokevirtual 162, 3) := by decide +kernel
theorem dX4_leftWithoutJar_22 : decode cX4_leftWithoutJar 22 = .ok (.aload_n 0, 1) := by decide +kernel
theorem dX4_leftWithoutJar_23 : decode cX4_leftWithoutJar 23 = .ok (.getfield 16, 3) := by decide +kernel
theorem dX4_leftWithoutJar_26 : decode cX4_leftWithoutJar 26 = .ok (.iload_n 2, 1) := by decide +kernel
theorem dX4_leftWithoutJar_27 : decode cX4_leftWithoutJar 27 = .ok (.invokevirtual 121, 3) := by decide +kernel
theorem dX4_leftWithoutJar_30 : decode cX4_leftWithoutJar 30 = .ok (.pop, 1) := by decide +kernel
theorem dX4_leftWithoutJar_31 : decode cX4_leftWithoutJar 31 = .ok (.aload_n 0, 1) := by decide +kernel
theorem dX4_leftWithoutJar_32 : decode cX4_leftWithoutJar 32 = .ok (.getfield 16, 3) := by decide +kernel
theorem dX4_leftWithoutJar_35 : decode cX4_leftWithoutJar 35 = .ok (.getfield 27, 3) := by decide +kernel
theorem dX4_leftWithoutJar_38 : decode cX4_leftWithoutJar 38 = .ok (.invokevirtual 135, 3) := by decide +kernel
theorem dX4_leftWithoutJar_41 : decode cX4_leftWithoutJar 41 = .ok (.ireturn, 1) := by decide +kernel
set_option maxRecDepth 20000 in
theorem ggX4_needRoom_X3_has : GoodIn wsX4_needRoom wsX3_has := goodIn_r _ [8, 9, 18, 19, 20] (by decide +kernel) (by decide +kernel)
set_option maxRecDepth 20000 in
theorem gX4_needRoom_X3_has : GoodIn wsX4_needRoom (wsV RX4 165 RX3 yX3_has wsX3_has) := goodIn_app (goodIn_of _ (by decide +kernel)) ggX4_needRoom_X3_has
theorem dX4_needRoom_0 : decode cX4_needRoom 0 = .ok (.aload_n 0, 1) := by decide +kernel
theorem dX4_needRoom_1 : decode cX4_needRoom 1 = .ok (.getfield 12, 3) := by decide +kernel
theorem dX4_needRoom_4 : decode cX4_needRoom 4 = .ok (.getfield 40, 3) := by decide +kernel
theorem dX4_needRoom_7 : decode cX4_needRoom 7 = .ok (.iload_n 1, 1) := by decide +kernel
theorem dX4_needRoom_8 : decode cX4_needRoom 8 = .ok (.invokevirtual 165, 3) := by decide +kernel
theorem dX4_needRoom_11 : decode cX4_needRoom 11 = .ok (.ifCond .ne 13, 3) := by decide +kernel
theorem dX4_needRoom_14 : decode cX4_needRoom 14 = .ok (.new 168, 3) := by decide +kernel
theorem dX4_needRoom_17 : decode cX4_needRoom 17 = .ok (.dup, 1) := by decide +kernel
theorem dX4_needRoom_18 : decode cX4_needRoom 18 = .ok (.ldc 170, 2) := by decide +kernel
theorem dX4_needRoom_20 : decode cX4_needRoom 20 = .ok (.invokespecial 172, 3) := by decide +kernel
theorem dX4_needRoom_23 : decode cX4_needRoom 23 = .ok (.athrow, 1) := by decide +kernel
theorem dX4_needRoom_24 : decode cX4_needRoom 24 = .ok (.return_, 1) := by decide +kernel
set_option maxRecDepth 20000 in
theorem ggX4_needGuest_X0_has : GoodIn wsX4_needGuest wsX0_has := goodIn_r _ [8, 9, 18, 19, 20, 21, 22, 23, 24] (by decide +kernel) (by decide +kernel)
set_option maxRecDepth 20000 in
theorem gX4_needGuest_X0_has : GoodIn wsX4_needGuest (wsV RX4 173 RX0 yX0_has wsX0_has) := goodIn_app (goodIn_of _ (by decide +kernel)) ggX4_needGuest_X0_has
theorem dX4_needGuest_0 : decode cX4_needGuest 0 = .ok (.aload_n 0, 1) := by decide +kernel
theorem dX4_needGuest_1 : decode cX4_needGuest 1 = .ok (.getfield 12, 3) := by decide +kernel
theorem dX4_needGuest_4 : decode cX4_needGuest 4 = .ok (.getfield 79, 3) := by decide +kernel
theorem dX4_needGuest_7 : decode cX4_needGuest 7 = .ok (.iload_n 1, 1) := by decide +kernel
theorem dX4_needGuest_8 : decode cX4_needGuest 8 = .ok (.invokevirtual 173, 3) := by decide +kernel
theorem dX4_needGuest_11 : decode cX4_needGuest 11 = .ok (.ifCond .ne 13, 3) := by decide +kernel
theorem dX4_needGuest_14 : decode cX4_needGuest 14 = .ok (.new 168, 3) := by decide +kernel
theorem dX4_needGuest_17 : decode cX4_needGuest 17 = .ok (.dup, 1) := by decide +kernel
theorem dX4_needGuest_18 : decode cX4_needGuest 18 = .ok (.ldc 174, 2) := by decide +kernel
theorem dX4_needGuest_20 : decode cX4_needGuest 20 = .ok (.invokespecial 172, 3) := by decide +kernel
theorem dX4_needGuest_23 : decode cX4_needGuest 23 = .ok (.athrow, 1) := by decide +kernel
theorem dX4_needGuest_24 : decode cX4_needGuest 24 = .ok (.return_, 1) := by decide +kernel
set_option maxRecDepth 20000 in
theorem ggX4_needStaying_X0_isStaying : GoodIn wsX4_needStaying wsX0_isStaying := goodIn_r _ [8, 9, 10, 11, 12, 7, 13, 14, 23, 24, 25, 26, 27, 28, 29] (by decide +kernel) (by decide +kernel)
set_option maxRecDepth 20000 in
theorem gX4_needStaying_X0_isStaying : GoodIn wsX4_needStaying (wsV RX4 176 RX0 yX0_isStaying wsX0_isStaying) := goodIn_app (goodIn_of _ (by decide +kernel)) ggX4_needStaying_X0_isStaying
theorem dX4_needStaying_0 : decode cX4_needStaying 0 = .ok (.aload_n 0, 1) := by decide +kernel
theorem dX4_needStaying_1 : decode cX4_needStaying 1 = .ok (.getfield 12, 3) := by decide +kernel
theorem dX4_needStaying_4 : decode cX4_needStaying 4 = .ok (.getfield 79, 3) := by decide +kernel
theorem dX4_needStaying_7 : decode cX4_needStaying 7 = .ok (.iload_n 1, 1) := by decide +kernel
theorem dX4_needStaying_8 : decode cX4_needStaying 8 = .ok (.invokevirtual 176, 3) := by decide +kernel
theorem dX4_needStaying_11 : decode cX4_needStaying 11 = .ok (.ifCond .ne 13, 3) := by decide +kernel
theorem dX4_needStaying_14 : decode cX4_needStaying 14 = .ok (.new 50, 3) := by decide +kernel
theorem dX4_needStaying_17 : decode cX4_needStaying 17 = .ok (.dup, 1) := by decide +kernel
theorem dX4_needStaying_18 : decode cX4_needStaying 18 = .ok (.ldc 179, 2) := by decide +kernel
theorem dX4_needStaying_20 : decode cX4_needStaying 20 = .ok (.invokespecial 54, 3) := by decide +kernel
theorem dX4_needStaying_23 : decode cX4_needStaying 23 = .ok (.athrow, 1) := by decide +kernel
theorem dX4_needStaying_24 : decode cX4_needStaying 24 = .ok (.return_, 1) := by decide +kernel
theorem dX4_needIndex_0 : decode cX4_needIndex 0 = .ok (.iload_n 0, 1) := by decide +kernel
theorem dX4_needIndex_1 : decode cX4_needIndex 1 = .ok (.ifCond .lt 8, 3) := by decide +kernel
theorem dX4_needIndex_4 : decode cX4_needIndex 4 = .ok (.iload_n 0, 1) := by decide +kernel
theorem dX4_needIndex_5 : decode cX4_needIndex 5 = .ok (.iload_n 1, 1) := by decide +kernel
theorem dX4_needIndex_6 : decode cX4_needIndex 6 = .ok (.if_icmp .le 13, 3) := by decide +kernel
theorem dX4_needIndex_9 : decode cX4_needIndex 9 = .ok (.new 168, 3) := by decide +kernel
theorem dX4_needIndex_12 : decode cX4_needIndex 12 = .ok (.dup, 1) := by decide +kernel
theorem dX4_needIndex_13 : decode cX4_needIndex 13 = .ok (.ldc 181, 2) := by decide +kernel
theorem dX4_needIndex_15 : decode cX4_needIndex 15 = .ok (.invokespecial 172, 3) := by decide +kernel
theorem dX4_needIndex_18 : decode cX4_needIndex 18 = .ok (.athrow, 1) := by decide +kernel
theorem dX4_needIndex_19 : decode cX4_needIndex 19 = .ok (.return_, 1) := by decide +kernel
theorem dX4_needArgument_0 : decode cX4_needArgument 0 = .ok (.iload_n 0, 1) := by decide +kernel
theorem dX4_needArgument_1 : decode cX4_needArgument 1 = .ok (.iload_n 1, 1) := by decide +kernel
theorem dX4_needArgument_2 : decode cX4_needArgument 2 = .ok (.if_icmp .lt 8, 3) := by decide +kernel
theorem dX4_needArgument_5 : decode cX4_needArgument 5 = .ok (.iload_n 0, 1) := by decide +kernel
theorem dX4_needArgument_6 : decode cX4_needArgument 6 = .ok (.iload_n 2, 1) := by decide +kernel
theorem dX4_needArgument_7 : decode cX4_needArgument 7 = .ok (.if_icmp .le 13, 3) := by decide +kernel
theorem dX4_needArgument_10 : decode cX4_needArgument 10 = .ok (.new 183, 3) := by decide +kernel
theorem dX4_needArgument_13 : decode cX4_needArgument 13 = .ok (.dup, 1) := by decide +kernel
theorem dX4_needArgument_14 : decode cX4_needArgument 14 = .ok (.ldc 185, 2) := by decide +kernel
theorem dX4_needArgument_16 : decode cX4_needArgument 16 = .ok (.invokespecial 187, 3) := by decide +kernel
theorem dX4_needArgument_19 : decode cX4_needArgument 19 = .ok (.athrow, 1) := by decide +kernel
theorem dX4_needArgument_20 : decode cX4_needArgument 20 = .ok (.return_, 1) := by decide +kernel
theorem dX4_sum_0 : decode cX4_sum 0 = .ok (.iconst 0, 1) := by decide +kernel
theorem dX4_sum_1 : decode cX4_sum 1 = .ok (.istore_n 1, 1) := by decide +kernel
theorem dX4_sum_2 : decode cX4_sum 2 = .ok (.iconst 0, 1) := by decide +kernel
theorem dX4_sum_3 : decode cX4_sum 3 = .ok (.istore_n 2, 1) := by decide +kernel
theorem dX4_sum_4 : decode cX4_sum 4 = .ok (.iload_n 2, 1) := by decide +kernel
theorem dX4_sum_5 : decode cX4_sum 5 = .ok (.aload_n 0, 1) := by decide +kernel
theorem dX4_sum_6 : decode cX4_sum 6 = .ok (.arraylength, 1) := by decide +kernel
theorem dX4_sum_7 : decode cX4_sum 7 = .ok (.if_icmp .ge 15, 3) := by decide +kernel
theorem dX4_sum_10 : decode cX4_sum 10 = .ok (.iload_n 1, 1) := by decide +kernel
theorem dX4_sum_11 : decode cX4_sum 11 = .ok (.aload_n 0, 1) := by decide +kernel
theorem dX4_sum_12 : decode cX4_sum 12 = .ok (.iload_n 2, 1) := by decide +kernel
theorem dX4_sum_13 : decode cX4_sum 13 = .ok (.iaload, 1) := by decide +kernel
theorem dX4_sum_14 : decode cX4_sum 14 = .ok (.iadd, 1) := by decide +kernel
theorem dX4_sum_15 : decode cX4_sum 15 = .ok (.istore_n 1, 1) := by decide +kernel
theorem dX4_sum_16 : decode cX4_sum 16 = .ok (.iinc 2 1, 3) := by decide +kernel
theorem dX4_sum_19 : decode cX4_sum 19 = .ok (.goto (-15), 3) := by decide +kernel
theorem dX4_sum_22 : decode cX4_sum 22 = .ok (.iload_n 1, 1) := by decide +kernel
theorem dX4_sum_23 : decode cX4_sum 23 = .ok (.ireturn, 1) := by decide +kernel
theorem dX4_countTrue_0 : decode cX4_countTrue 0 = .ok (.iconst 0, 1) := by decide +kernel
theorem dX4_countTrue_1 : decode cX4_countTrue 1 = .ok (.istore_n 1, 1) := by decide +kernel
theorem dX4_countTrue_2 : decode cX4_countTrue 2 = .ok (.iconst 0, 1) := by decide +kernel
theorem dX4_countTrue_3 : decode cX4_countTrue 3 = .ok (.istore_n 2, 1) := by decide +kernel
theorem dX4_countTrue_4 : decode cX4_countTrue 4 = .ok (.iload_n 2, 1) := by decide +kernel
theorem dX4_countTrue_5 : decode cX4_countTrue 5 = .ok (.aload_n 0, 1) := by decide +kernel
theorem dX4_countTrue_6 : decode cX4_countTrue 6 = .ok (.arraylength, 1) := by decide +kernel
theorem dX4_countTrue_7 : decode cX4_countTrue 7 = .ok (.if_icmp .ge 18, 3) := by decide +kernel
theorem dX4_countTrue_10 : decode cX4_countTrue 10 = .ok (.aload_n 0, 1) := by decide +kernel
theorem dX4_countTrue_11 : decode cX4_countTrue 11 = .ok (.iload_n 2, 1) := by decide +kernel
theorem dX4_countTrue_12 : decode cX4_countTrue 12 = .ok (.baload, 1) := by decide +kernel
theorem dX4_countTrue_13 : decode cX4_countTrue 13 = .ok (.ifCond .eq 6, 3) := by decide +kernel
theorem dX4_countTrue_16 : decode cX4_countTrue 16 = .ok (.iinc 1 1, 3) := by decide +kernel
theorem dX4_countTrue_19 : decode cX4_countTrue 19 = .ok (.iinc 2 1, 3) := by decide +kernel
theorem dX4_countTrue_22 : decode cX4_countTrue 22 = .ok (.goto (-18), 3) := by decide +kernel
theorem dX4_countTrue_25 : decode cX4_countTrue 25 = .ok (.iload_n 1, 1) := by decide +kernel
theorem dX4_countTrue_26 : decode cX4_countTrue 26 = .ok (.ireturn, 1) := by decide +kernel
theorem dX5_init_0 : decode cX5_init 0 = .ok (.aload_n 0, 1) := by decide +kernel
theorem dX5_init_1 : decode cX5_init 1 = .ok (.invokespecial 1, 3) := by decide +kernel
theorem dX5_init_4 : decode cX5_init 4 = .ok (.aload_n 0, 1) := by decide +kernel
theorem dX5_init_5 : decode cX5_init 5 = .ok (.bipush 50, 2) := by decide +kernel
theorem dX5_init_7 : decode cX5_init 7 = .ok (.newarray .int, 2) := by decide +kernel
theorem dX5_init_9 : decode cX5_init 9 = .ok (.putfield 9, 3) := by decide +kernel
theorem dX5_init_12 : decode cX5_init 12 = .ok (.aload_n 0, 1) := by decide +kernel
theorem dX5_init_13 : decode cX5_init 13 = .ok (.bipush 6, 2) := by decide +kernel
theorem dX5_init_15 : decode cX5_init 15 = .ok (.newarray .int, 2) := by decide +kernel
theorem dX5_init_17 : decode cX5_init 17 = .ok (.putfield 13, 3) := by decide +kernel
theorem dX5_init_20 : decode cX5_init 20 = .ok (.aload_n 0, 1) := by decide +kernel
theorem dX5_init_21 : decode cX5_init 21 = .ok (.bipush 6, 2) := by decide +kernel
theorem dX5_init_23 : decode cX5_init 23 = .ok (.newarray .int, 2) := by decide +kernel
theorem dX5_init_25 : decode cX5_init 25 = .ok (.putfield 16, 3) := by decide +kernel
theorem dX5_init_28 : decode cX5_init 28 = .ok (.aload_n 0, 1) := by decide +kernel
theorem dX5_init_29 : decode cX5_init 29 = .ok (.bipush 72, 2) := by decide +kernel
theorem dX5_init_31 : decode cX5_init 31 = .ok (.newarray .int, 2) := by decide +kernel
theorem dX5_init_33 : decode cX5_init 33 = .ok (.putfield 19, 3) := by decide +kernel
theorem dX5_init_36 : decode cX5_init 36 = .ok (.aload_n 0, 1) := by decide +kernel
theorem dX5_init_37 : decode cX5_init 37 = .ok (.iconst 2, 1) := by decide +kernel
theorem dX5_init_38 : decode cX5_init 38 = .ok (.newarray .int, 2) := by decide +kernel
theorem dX5_init_40 : decode cX5_init 40 = .ok (.putfield 22, 3) := by decide +kernel
theorem dX5_init_43 : decode cX5_init 43 = .ok (.aload_n 0, 1) := by decide +kernel
theorem dX5_init_44 : decode cX5_init 44 = .ok (.bipush 50, 2) := by decide +kernel
theorem dX5_init_46 : decode cX5_init 46 = .ok (.newarray .int, 2) := by decide +kernel
theorem dX5_init_48 : decode cX5_init 48 = .ok (.putfield 25, 3) := by decide +kernel
theorem dX5_init_51 : decode cX5_init 51 = .ok (.return_, 1) := by decide +kernel
theorem dX5_thrown_0 : decode cX5_thrown 0 = .ok (.aload_n 0, 1) := by decide +kernel
theorem dX5_thrown_1 : decode cX5_thrown 1 = .ok (.getfield 28, 3) := by decide +kernel
theorem dX5_thrown_4 : decode cX5_thrown 4 = .ok (.ireturn, 1) := by decide +kernel
theorem dX5_fail_0 : decode cX5_fail 0 = .ok (.aload_n 0, 1) := by decide +kernel
theorem dX5_fail_1 : decode cX5_fail 1 = .ok (.iload_n 1, 1) := by decide +kernel
theorem dX5_fail_2 : decode cX5_fail 2 = .ok (.putfield 28, 3) := by decide +kernel
theorem dX5_fail_5 : decode cX5_fail 5 = .ok (.iconst 0, 1) := by decide +kernel
theorem dX5_fail_6 : decode cX5_fail 6 = .ok (.ireturn, 1) := by decide +kernel
theorem dX5_isIn_0 : decode cX5_isIn 0 = .ok (.iload_n 0, 1) := by decide +kernel
theorem dX5_isIn_1 : decode cX5_isIn 1 = .ok (.iload_n 1, 1) := by decide +kernel
theorem dX5_isIn_2 : decode cX5_isIn 2 = .ok (.if_icmp .lt 12, 3) := by decide +kernel
theorem dX5_isIn_5 : decode cX5_isIn 5 = .ok (.iload_n 0, 1) := by decide +kernel
theorem dX5_isIn_6 : decode cX5_isIn 6 = .ok (.iload_n 2, 1) := by decide +kernel
theorem dX5_isIn_7 : decode cX5_isIn 7 = .ok (.if_icmp .gt 7, 3) := by decide +kernel
theorem dX5_isIn_10 : decode cX5_isIn 10 = .ok (.iconst 1, 1) := by decide +kernel
theorem dX5_isIn_11 : decode cX5_isIn 11 = .ok (.goto 4, 3) := by decide +kernel
theorem dX5_isIn_14 : decode cX5_isIn 14 = .ok (.iconst 0, 1) := by decide +kernel
theorem dX5_isIn_15 : decode cX5_isIn 15 = .ok (.ireturn, 1) := by decide +kernel
set_option maxRecDepth 20000 in
theorem ggX5_isCell_X5_isIn : GoodIn wsX5_isCell wsX5_isIn := goodIn_r _ [4] (by decide +kernel) (by decide +kernel)
set_option maxRecDepth 20000 in
theorem gX5_isCell_X5_isIn : GoodIn wsX5_isCell (va_wsS RX5 32 yX5_isIn wsX5_isIn) := goodIn_app (goodIn_of _ (by decide +kernel)) ggX5_isCell_X5_isIn
theorem dX5_isCell_0 : decode cX5_isCell 0 = .ok (.iload_n 0, 1) := by decide +kernel
theorem dX5_isCell_1 : decode cX5_isCell 1 = .ok (.iconst 0, 1) := by decide +kernel
theorem dX5_isCell_2 : decode cX5_isCell 2 = .ok (.bipush 9, 2) := by decide +kernel
theorem dX5_isCell_4 : decode cX5_isCell 4 = .ok (.invokestatic 32, 3) := by decide +kernel
theorem dX5_isCell_7 : decode cX5_isCell 7 = .ok (.ifCond .eq 16, 3) := by decide +kernel
theorem dX5_isCell_10 : decode cX5_isCell 10 = .ok (.iload_n 1, 1) := by decide +kernel
theorem dX5_isCell_11 : decode cX5_isCell 11 = .ok (.iconst 0, 1) := by decide +kernel
theorem dX5_isCell_12 : decode cX5_isCell 12 = .ok (.iconst 4, 1) := by decide +kernel
theorem dX5_isCell_13 : decode cX5_isCell 13 = .ok (.invokestatic 32, 3) := by decide +kernel
theorem dX5_isCell_16 : decode cX5_isCell 16 = .ok (.ifCond .eq 7, 3) := by decide +kernel
theorem dX5_isCell_19 : decode cX5_isCell 19 = .ok (.iconst 1, 1) := by decide +kernel
theorem dX5_isCell_20 : decode cX5_isCell 20 = .ok (.goto 4, 3) := by decide +kernel
theorem dX5_isCell_23 : decode cX5_isCell 23 = .ok (.iconst 0, 1) := by decide +kernel
theorem dX5_isCell_24 : decode cX5_isCell 24 = .ok (.ireturn, 1) := by decide +kernel
set_option maxRecDepth 20000 in
theorem ggX5_isRoom_X5_isIn : GoodIn wsX5_isRoom wsX5_isIn := goodIn_r _ [5] (by decide +kernel) (by decide +kernel)
set_option maxRecDepth 20000 in
theorem gX5_isRoom_X5_isIn : GoodIn wsX5_isRoom (va_wsS RX5 32 yX5_isIn wsX5_isIn) := goodIn_app (goodIn_of _ (by decide +kernel)) ggX5_isRoom_X5_isIn
theorem dX5_isRoom_0 : decode cX5_isRoom 0 = .ok (.iload_n 1, 1) := by decide +kernel
theorem dX5_isRoom_1 : decode cX5_isRoom 1 = .ok (.iconst 0, 1) := by decide +kernel
theorem dX5_isRoom_2 : decode cX5_isRoom 2 = .ok (.aload_n 0, 1) := by decide +kernel
theorem dX5_isRoom_3 : decode cX5_isRoom 3 = .ok (.getfield 36, 3) := by decide +kernel
theorem dX5_isRoom_6 : decode cX5_isRoom 6 = .ok (.iconst 1, 1) := by decide +kernel
theorem dX5_isRoom_7 : decode cX5_isRoom 7 = .ok (.isub, 1) := by decide +kernel
theorem dX5_isRoom_8 : decode cX5_isRoom 8 = .ok (.invokestatic 32, 3) := by decide +kernel
theorem dX5_isRoom_11 : decode cX5_isRoom 11 = .ok (.ireturn, 1) := by decide +kernel
set_option maxRecDepth 20000 in
theorem ggX5_isGuest_X5_isIn : GoodIn wsX5_isGuest wsX5_isIn := goodIn_r _ [5] (by decide +kernel) (by decide +kernel)
set_option maxRecDepth 20000 in
theorem gX5_isGuest_X5_isIn : GoodIn wsX5_isGuest (va_wsS RX5 32 yX5_isIn wsX5_isIn) := goodIn_app (goodIn_of _ (by decide +kernel)) ggX5_isGuest_X5_isIn
theorem dX5_isGuest_0 : decode cX5_isGuest 0 = .ok (.iload_n 1, 1) := by decide +kernel
theorem dX5_isGuest_1 : decode cX5_isGuest 1 = .ok (.iconst 0, 1) := by decide +kernel
theorem dX5_isGuest_2 : decode cX5_isGuest 2 = .ok (.aload_n 0, 1) := by decide +kernel
theorem dX5_isGuest_3 : decode cX5_isGuest 3 = .ok (.getfield 39, 3) := by decide +kernel
theorem dX5_isGuest_6 : decode cX5_isGuest 6 = .ok (.iconst 1, 1) := by decide +kernel
theorem dX5_isGuest_7 : decode cX5_isGuest 7 = .ok (.isub, 1) := by decide +kernel
theorem dX5_isGuest_8 : decode cX5_isGuest 8 = .ok (.invokestatic 32, 3) := by decide +kernel
theorem dX5_isGuest_11 : decode cX5_isGuest 11 = .ok (.ireturn, 1) := by decide +kernel
theorem dX5_pe_0 : decode cX5_pe 0 = .ok (.aload_n 0, 1) := by decide +kernel
theorem dX5_pe_1 : decode cX5_pe 1 = .ok (.getfield 19, 3) := by decide +kernel
theorem dX5_pe_4 : decode cX5_pe 4 = .ok (.bipush 6, 2) := by decide +kernel
theorem dX5_pe_6 : decode cX5_pe 6 = .ok (.iload_n 1, 1) := by decide +kernel
theorem dX5_pe_7 : decode cX5_pe 7 = .ok (.imul, 1) := by decide +kernel
theorem dX5_pe_8 : decode cX5_pe 8 = .ok (.iload_n 2, 1) := by decide +kernel
theorem dX5_pe_9 : decode cX5_pe 9 = .ok (.iadd, 1) := by decide +kernel
theorem dX5_pe_10 : decode cX5_pe 10 = .ok (.iaload, 1) := by decide +kernel
theorem dX5_pe_11 : decode cX5_pe 11 = .ok (.ireturn, 1) := by decide +kernel
theorem dX5_put_0 : decode cX5_put 0 = .ok (.aload_n 0, 1) := by decide +kernel
theorem dX5_put_1 : decode cX5_put 1 = .ok (.getfield 19, 3) := by decide +kernel
theorem dX5_put_4 : decode cX5_put 4 = .ok (.bipush 6, 2) := by decide +kernel
theorem dX5_put_6 : decode cX5_put 6 = .ok (.iload_n 1, 1) := by decide +kernel
theorem dX5_put_7 : decode cX5_put 7 = .ok (.imul, 1) := by decide +kernel
theorem dX5_put_8 : decode cX5_put 8 = .ok (.iload_n 2, 1) := by decide +kernel
theorem dX5_put_9 : decode cX5_put 9 = .ok (.iadd, 1) := by decide +kernel
theorem dX5_put_10 : decode cX5_put 10 = .ok (.iload_n 3, 1) := by decide +kernel
theorem dX5_put_11 : decode cX5_put 11 = .ok (.iastore, 1) := by decide +kernel
theorem dX5_put_12 : decode cX5_put 12 = .ok (.return_, 1) := by decide +kernel
theorem dX5_moon_0 : decode cX5_moon 0 = .ok (.iconst 4, 1) := by decide +kernel
theorem dX5_moon_1 : decode cX5_moon 1 = .ok (.iload_n 0, 1) := by decide +kernel
theorem dX5_moon_2 : decode cX5_moon 2 = .ok (.bipush 8, 2) := by decide +kernel
theorem dX5_moon_4 : decode cX5_moon 4 = .ok (.irem, 1) := by decide +kernel
theorem dX5_moon_5 : decode cX5_moon 5 = .ok (.iconst 4, 1) := by decide +kernel
theorem dX5_moon_6 : decode cX5_moon 6 = .ok (.isub, 1) := by decide +kernel
theorem dX5_moon_7 : decode cX5_moon 7 = .ok (.invokestatic 42, 3) := by decide +kernel
theorem dX5_moon_10 : decode cX5_moon 10 = .ok (.isub, 1) := by decide +kernel
theorem dX5_moon_11 : decode cX5_moon 11 = .ok (.ireturn, 1) := by decide +kernel
set_option maxRecDepth 20000 in
theorem ggX5_swarm_X5_isCell : GoodIn wsX5_swarm wsX5_isCell := goodIn_r _ [6, 7, 8, 5, 9] (by decide +kernel) (by decide +kernel)
set_option maxRecDepth 20000 in
theorem gX5_swarm_X5_isCell : GoodIn wsX5_swarm (va_wsS RX5 48 yX5_isCell wsX5_isCell) := goodIn_app (goodIn_of _ (by decide +kernel)) ggX5_swarm_X5_isCell
set_option maxRecDepth 20000 in
theorem ggX5_swarm_X5_fail : GoodIn wsX5_swarm wsX5_fail := goodIn_r _ [13, 1, 14, 15, 16, 17, 18, 19, 20, 21, 22] (by decide +kernel) (by decide +kernel)
set_option maxRecDepth 20000 in
theorem gX5_swarm_X5_fail : GoodIn wsX5_swarm (wsV RX5 52 RX5 yX5_fail wsX5_fail) := goodIn_app (goodIn_of _ (by decide +kernel)) ggX5_swarm_X5_fail
set_option maxRecDepth 20000 in
theorem ggX5_swarm_X5_isIn : GoodIn wsX5_swarm wsX5_isIn := goodIn_r _ [9] (by decide +kernel) (by decide +kernel)
set_option maxRecDepth 20000 in
theorem gX5_swarm_X5_isIn : GoodIn wsX5_swarm (va_wsS RX5 32 yX5_isIn wsX5_isIn) := goodIn_app (goodIn_of _ (by decide +kernel)) ggX5_swarm_X5_isIn
theorem dX5_swarm_0 : decode cX5_swarm 0 = .ok (.aload_n 0, 1) := by decide +kernel
theorem dX5_swarm_1 : decode cX5_swarm 1 = .ok (.iconst 0, 1) := by decide +kernel
theorem dX5_swarm_2 : decode cX5_swarm 2 = .ok (.putfield 28, 3) := by decide +kernel
theorem dX5_swarm_5 : decode cX5_swarm 5 = .ok (.iload_n 1, 1) := by decide +kernel
theorem dX5_swarm_6 : decode cX5_swarm 6 = .ok (.iload_n 2, 1) := by decide +kernel
theorem dX5_swarm_7 : decode cX5_swarm 7 = .ok (.invokestatic 48, 3) := by decide +kernel
theorem dX5_swarm_10 : decode cX5_swarm 10 = .ok (.ifCond .ne 9, 3) := by decide +kernel
theorem dX5_swarm_13 : decode cX5_swarm 13 = .ok (.aload_n 0, 1) := by decide +kernel
theorem dX5_swarm_14 : decode cX5_swarm 14 = .ok (.iconst 1, 1) := by decide +kernel
theorem dX5_swarm_15 : decode cX5_swarm 15 = .ok (.invokevirtual 52, 3) := by decide +kernel
theorem dX5_swarm_18 : decode cX5_swarm 18 = .ok (.ireturn, 1) := by decide +kernel
theorem dX5_swarm_19 : decode cX5_swarm 19 = .ok (.iload_n 3, 1) := by decide +kernel
theorem dX5_swarm_20 : decode cX5_swarm 20 = .ok (.iconst 0, 1) := by decide +kernel
theorem dX5_swarm_21 : decode cX5_swarm 21 = .ok (.bipush 40, 2) := by decide +kernel
theorem dX5_swarm_23 : decode cX5_swarm 23 = .ok (.invokestatic 32, 3) := by decide +kernel
theorem dX5_swarm_26 : decode cX5_swarm 26 = .ok (.ifCond .ne 9, 3) := by decide +kernel
theorem dX5_swarm_29 : decode cX5_swarm 29 = .ok (.aload_n 0, 1) := by decide +kernel
theorem dX5_swarm_30 : decode cX5_swarm 30 = .ok (.iconst 2, 1) := by decide +kernel
theorem dX5_swarm_31 : decode cX5_swarm 31 = .ok (.invokevirtual 52, 3) := by decide +kernel
theorem dX5_swarm_34 : decode cX5_swarm 34 = .ok (.ireturn, 1) := by decide +kernel
theorem dX5_swarm_35 : decode cX5_swarm 35 = .ok (.aload_n 0, 1) := by decide +kernel
theorem dX5_swarm_36 : decode cX5_swarm 36 = .ok (.getfield 9, 3) := by decide +kernel
theorem dX5_swarm_39 : decode cX5_swarm 39 = .ok (.bipush 10, 2) := by decide +kernel
theorem dX5_swarm_41 : decode cX5_swarm 41 = .ok (.iload_n 2, 1) := by decide +kernel
theorem dX5_swarm_42 : decode cX5_swarm 42 = .ok (.imul, 1) := by decide +kernel
theorem dX5_swarm_43 : decode cX5_swarm 43 = .ok (.iload_n 1, 1) := by decide +kernel
theorem dX5_swarm_44 : decode cX5_swarm 44 = .ok (.iadd, 1) := by decide +kernel
theorem dX5_swarm_45 : decode cX5_swarm 45 = .ok (.iaload, 1) := by decide +kernel
theorem dX5_swarm_46 : decode cX5_swarm 46 = .ok (.istore 4, 2) := by decide +kernel
theorem dX5_swarm_48 : decode cX5_swarm 48 = .ok (.aload_n 0, 1) := by decide +kernel
theorem dX5_swarm_49 : decode cX5_swarm 49 = .ok (.getfield 9, 3) := by decide +kernel
theorem dX5_swarm_52 : decode cX5_swarm 52 = .ok (.bipush 10, 2) := by decide +kernel
theorem dX5_swarm_54 : decode cX5_swarm 54 = .ok (.iload_n 2, 1) := by decide +kernel
theorem dX5_swarm_55 : decode cX5_swarm 55 = .ok (.imul, 1) := by decide +kernel
theorem dX5_swarm_56 : decode cX5_swarm 56 = .ok (.iload_n 1, 1) := by decide +kernel
theorem dX5_swarm_57 : decode cX5_swarm 57 = .ok (.iadd, 1) := by decide +kernel
theorem dX5_swarm_58 : decode cX5_swarm 58 = .ok (.iload_n 3, 1) := by decide +kernel
theorem dX5_swarm_59 : decode cX5_swarm 59 = .ok (.iastore, 1) := by decide +kernel
theorem dX5_swarm_60 : decode cX5_swarm 60 = .ok (.iload 4, 2) := by decide +kernel
theorem dX5_swarm_62 : decode cX5_swarm 62 = .ok (.ireturn, 1) := by decide +kernel
set_option maxRecDepth 20000 in
theorem ggX5_cell_X5_isCell : GoodIn wsX5_cell wsX5_isCell := goodIn_r _ [6, 7, 8, 5, 9] (by decide +kernel) (by decide +kernel)
set_option maxRecDepth 20000 in
theorem gX5_cell_X5_isCell : GoodIn wsX5_cell (va_wsS RX5 48 yX5_isCell wsX5_isCell) := goodIn_app (goodIn_of _ (by decide +kernel)) ggX5_cell_X5_isCell
set_option maxRecDepth 20000 in
theorem ggX5_cell_X5_fail : GoodIn wsX5_cell wsX5_fail := goodIn_r _ [13, 1, 14, 15, 16, 17, 18, 19, 20, 21, 22] (by decide +kernel) (by decide +kernel)
set_option maxRecDepth 20000 in
theorem gX5_cell_X5_fail : GoodIn wsX5_cell (wsV RX5 52 RX5 yX5_fail wsX5_fail) := goodIn_app (goodIn_of _ (by decide +kernel)) ggX5_cell_X5_fail
theorem dX5_cell_0 : decode cX5_cell 0 = .ok (.aload_n 0, 1) := by decide +kernel
theorem dX5_cell_1 : decode cX5_cell 1 = .ok (.iconst 0, 1) := by decide +kernel
theorem dX5_cell_2 : decode cX5_cell 2 = .ok (.putfield 28, 3) := by decide +kernel
theorem dX5_cell_5 : decode cX5_cell 5 = .ok (.iload_n 1, 1) := by decide +kernel
theorem dX5_cell_6 : decode cX5_cell 6 = .ok (.iload_n 2, 1) := by decide +kernel
theorem dX5_cell_7 : decode cX5_cell 7 = .ok (.invokestatic 48, 3) := by decide +kernel
theorem dX5_cell_10 : decode cX5_cell 10 = .ok (.ifCond .eq 17, 3) := by decide +kernel
theorem dX5_cell_13 : decode cX5_cell 13 = .ok (.aload_n 0, 1) := by decide +kernel
theorem dX5_cell_14 : decode cX5_cell 14 = .ok (.getfield 9, 3) := by decide +kernel
theorem dX5_cell_17 : decode cX5_cell 17 = .ok (.bipush 10, 2) := by decide +kernel
theorem dX5_cell_19 : decode cX5_cell 19 = .ok (.iload_n 2, 1) := by decide +kernel
theorem dX5_cell_20 : decode cX5_cell 20 = .ok (.imul, 1) := by decide +kernel
theorem dX5_cell_21 : decode cX5_cell 21 = .ok (.iload_n 1, 1) := by decide +kernel
theorem dX5_cell_22 : decode cX5_cell 22 = .ok (.iadd, 1) := by decide +kernel
theorem dX5_cell_23 : decode cX5_cell 23 = .ok (.iaload, 1) := by decide +kernel
theorem dX5_cell_24 : decode cX5_cell 24 = .ok (.goto 8, 3) := by decide +kernel
theorem dX5_cell_27 : decode cX5_cell 27 = .ok (.aload_n 0, 1) := by decide +kernel
theorem dX5_cell_28 : decode cX5_cell 28 = .ok (.iconst 1, 1) := by decide +kernel
theorem dX5_cell_29 : decode cX5_cell 29 = .ok (.invokevirtual 52, 3) := by decide +kernel
theorem dX5_cell_32 : decode cX5_cell 32 = .ok (.ireturn, 1) := by decide +kernel
set_option maxRecDepth 20000 in
theorem ggX5_open_X5_isIn : GoodIn wsX5_open wsX5_isIn := goodIn_r _ [8] (by decide +kernel) (by decide +kernel)
set_option maxRecDepth 20000 in
theorem gX5_open_X5_isIn : GoodIn wsX5_open (va_wsS RX5 32 yX5_isIn wsX5_isIn) := goodIn_app (goodIn_of _ (by decide +kernel)) ggX5_open_X5_isIn
set_option maxRecDepth 20000 in
theorem ggX5_open_X5_fail : GoodIn wsX5_open wsX5_fail := goodIn_r _ [12, 1, 13, 14, 15, 16, 17, 18, 19, 20, 21] (by decide +kernel) (by decide +kernel)
set_option maxRecDepth 20000 in
theorem gX5_open_X5_fail : GoodIn wsX5_open (wsV RX5 52 RX5 yX5_fail wsX5_fail) := goodIn_app (goodIn_of _ (by decide +kernel)) ggX5_open_X5_fail
theorem dX5_open_0 : decode cX5_open 0 = .ok (.aload_n 0, 1) := by decide +kernel
theorem dX5_open_1 : decode cX5_open 1 = .ok (.iconst 0, 1) := by decide +kernel
theorem dX5_open_2 : decode cX5_open 2 = .ok (.putfield 28, 3) := by decide +kernel
theorem dX5_open_5 : decode cX5_open 5 = .ok (.iload_n 1, 1) := by decide +kernel
theorem dX5_open_6 : decode cX5_open 6 = .ok (.iconst 0, 1) := by decide +kernel
theorem dX5_open_7 : decode cX5_open 7 = .ok (.bipush 9, 2) := by decide +kernel
theorem dX5_open_9 : decode cX5_open 9 = .ok (.invokestatic 32, 3) := by decide +kernel
theorem dX5_open_12 : decode cX5_open 12 = .ok (.ifCond .ne 9, 3) := by decide +kernel
theorem dX5_open_15 : decode cX5_open 15 = .ok (.aload_n 0, 1) := by decide +kernel
theorem dX5_open_16 : decode cX5_open 16 = .ok (.iconst 1, 1) := by decide +kernel
theorem dX5_open_17 : decode cX5_open 17 = .ok (.invokevirtual 52, 3) := by decide +kernel
theorem dX5_open_20 : decode cX5_open 20 = .ok (.ireturn, 1) := by decide +kernel
theorem dX5_open_21 : decode cX5_open 21 = .ok (.aload_n 0, 1) := by decide +kernel
theorem dX5_open_22 : decode cX5_open 22 = .ok (.getfield 36, 3) := by decide +kernel
theorem dX5_open_25 : decode cX5_open 25 = .ok (.bipush 6, 2) := by decide +kernel
theorem dX5_open_27 : decode cX5_open 27 = .ok (.if_icmp .ne 9, 3) := by decide +kernel
theorem dX5_open_30 : decode cX5_open 30 = .ok (.aload_n 0, 1) := by decide +kernel
theorem dX5_open_31 : decode cX5_open 31 = .ok (.iconst 2, 1) := by decide +kernel
theorem dX5_open_32 : decode cX5_open 32 = .ok (.invokevirtual 52, 3) := by decide +kernel
theorem dX5_open_35 : decode cX5_open 35 = .ok (.ireturn, 1) := by decide +kernel
theorem dX5_open_36 : decode cX5_open 36 = .ok (.aload_n 0, 1) := by decide +kernel
theorem dX5_open_37 : decode cX5_open 37 = .ok (.getfield 13, 3) := by decide +kernel
theorem dX5_open_40 : decode cX5_open 40 = .ok (.aload_n 0, 1) := by decide +kernel
theorem dX5_open_41 : decode cX5_open 41 = .ok (.getfield 36, 3) := by decide +kernel
theorem dX5_open_44 : decode cX5_open 44 = .ok (.iload_n 1, 1) := by decide +kernel
theorem dX5_open_45 : decode cX5_open 45 = .ok (.iastore, 1) := by decide +kernel
theorem dX5_open_46 : decode cX5_open 46 = .ok (.aload_n 0, 1) := by decide +kernel
theorem dX5_open_47 : decode cX5_open 47 = .ok (.getfield 16, 3) := by decide +kernel
theorem dX5_open_50 : decode cX5_open 50 = .ok (.aload_n 0, 1) := by decide +kernel
theorem dX5_open_51 : decode cX5_open 51 = .ok (.getfield 36, 3) := by decide +kernel
theorem dX5_open_54 : decode cX5_open 54 = .ok (.iconst 1, 1) := by decide +kernel
theorem dX5_open_55 : decode cX5_open 55 = .ok (.iastore, 1) := by decide +kernel
theorem dX5_open_56 : decode cX5_open 56 = .ok (.aload_n 0, 1) := by decide +kernel
theorem dX5_open_57 : decode cX5_open 57 = .ok (.dup, 1) := by decide +kernel
theorem dX5_open_58 : decode cX5_open 58 = .ok (.getfield 36, 3) := by decide +kernel
theorem dX5_open_61 : decode cX5_open 61 = .ok (.iconst 1, 1) := by decide +kernel
theorem dX5_open_62 : decode cX5_open 62 = .ok (.iadd, 1) := by decide +kernel
theorem dX5_open_63 : decode cX5_open 63 = .ok (.putfield 36, 3) := by decide +kernel
theorem dX5_open_66 : decode cX5_open 66 = .ok (.aload_n 0, 1) := by decide +kernel
theorem dX5_open_67 : decode cX5_open 67 = .ok (.getfield 36, 3) := by decide +kernel
theorem dX5_open_70 : decode cX5_open 70 = .ok (.iconst 1, 1) := by decide +kernel
theorem dX5_open_71 : decode cX5_open 71 = .ok (.isub, 1) := by decide +kernel
theorem dX5_open_72 : decode cX5_open 72 = .ok (.ireturn, 1) := by decide +kernel
set_option maxRecDepth 20000 in
theorem ggX5_lamp_X5_isRoom : GoodIn wsX5_lamp wsX5_isRoom := goodIn_r _ [7, 8, 9, 10, 6, 11, 12, 13, 14, 15, 16, 17, 18, 19, 20] (by decide +kernel) (by decide +kernel)
set_option maxRecDepth 20000 in
theorem gX5_lamp_X5_isRoom : GoodIn wsX5_lamp (wsV RX5 55 RX5 yX5_isRoom wsX5_isRoom) := goodIn_app (goodIn_of _ (by decide +kernel)) ggX5_lamp_X5_isRoom
theorem dX5_lamp_0 : decode cX5_lamp 0 = .ok (.aload_n 0, 1) := by decide +kernel
theorem dX5_lamp_1 : decode cX5_lamp 1 = .ok (.aload_n 0, 1) := by decide +kernel
theorem dX5_lamp_2 : decode cX5_lamp 2 = .ok (.iload_n 1, 1) := by decide +kernel
theorem dX5_lamp_3 : decode cX5_lamp 3 = .ok (.invokevirtual 55, 3) := by decide +kernel
theorem dX5_lamp_6 : decode cX5_lamp 6 = .ok (.ifCond .eq 7, 3) := by decide +kernel
theorem dX5_lamp_9 : decode cX5_lamp 9 = .ok (.iconst 0, 1) := by decide +kernel
theorem dX5_lamp_10 : decode cX5_lamp 10 = .ok (.goto 4, 3) := by decide +kernel
theorem dX5_lamp_13 : decode cX5_lamp 13 = .ok (.iconst 1, 1) := by decide +kernel
theorem dX5_lamp_14 : decode cX5_lamp 14 = .ok (.putfield 28, 3) := by decide +kernel
theorem dX5_lamp_17 : decode cX5_lamp 17 = .ok (.aload_n 0, 1) := by decide +kernel
theorem dX5_lamp_18 : decode cX5_lamp 18 = .ok (.getfield 28, 3) := by decide +kernel
theorem dX5_lamp_21 : decode cX5_lamp 21 = .ok (.ifCond .eq 5, 3) := by decide +kernel
theorem dX5_lamp_24 : decode cX5_lamp 24 = .ok (.iconst 0, 1) := by decide +kernel
theorem dX5_lamp_25 : decode cX5_lamp 25 = .ok (.ireturn, 1) := by decide +kernel
theorem dX5_lamp_26 : decode cX5_lamp 26 = .ok (.aload_n 0, 1) := by decide +kernel
theorem dX5_lamp_27 : decode cX5_lamp 27 = .ok (.getfield 16, 3) := by decide +kernel
theorem dX5_lamp_30 : decode cX5_lamp 30 = .ok (.iload_n 1, 1) := by decide +kernel
theorem dX5_lamp_31 : decode cX5_lamp 31 = .ok (.iconst 1, 1) := by decide +kernel
theorem dX5_lamp_32 : decode cX5_lamp 32 = .ok (.aload_n 0, 1) := by decide +kernel
theorem dX5_lamp_33 : decode cX5_lamp 33 = .ok (.getfield 16, 3) := by decide +kernel
theorem dX5_lamp_36 : decode cX5_lamp 36 = .ok (.iload_n 1, 1) := by decide +kernel
theorem dX5_lamp_37 : decode cX5_lamp 37 = .ok (.iaload, 1) := by decide +kernel
theorem dX5_lamp_38 : decode cX5_lamp 38 = .ok (.isub, 1) := by decide +kernel
theorem dX5_lamp_39 : decode cX5_lamp 39 = .ok (.iastore, 1) := by decide +kernel
theorem dX5_lamp_40 : decode cX5_lamp 40 = .ok (.aload_n 0, 1) := by decide +kernel
theorem dX5_lamp_41 : decode cX5_lamp 41 = .ok (.getfield 16, 3) := by decide +kernel
theorem dX5_lamp_44 : decode cX5_lamp 44 = .ok (.iload_n 1, 1) := by decide +kernel
theorem dX5_lamp_45 : decode cX5_lamp 45 = .ok (.iaload, 1) := by decide +kernel
theorem dX5_lamp_46 : decode cX5_lamp 46 = .ok (.iconst 1, 1) := by decide +kernel
theorem dX5_lamp_47 : decode cX5_lamp 47 = .ok (.if_icmp .ne 7, 3) := by decide +kernel
theorem dX5_lamp_50 : decode cX5_lamp 50 = .ok (.iconst 1, 1) := by decide +kernel
theorem dX5_lamp_51 : decode cX5_lamp 51 = .ok (.goto 4, 3) := by decide +kernel
theorem dX5_lamp_54 : decode cX5_lamp 54 = .ok (.iconst 0, 1) := by decide +kernel
theorem dX5_lamp_55 : decode cX5_lamp 55 = .ok (.ireturn, 1) := by decide +kernel
set_option maxRecDepth 20000 in
theorem ggX5_isThere_X5_pe : GoodIn wsX5_isThere wsX5_pe := goodIn_r _ [5, 6, 7, 8, 9, 10, 11, 12, 13, 14, 15] (by decide +kernel) (by decide +kernel)
set_option maxRecDepth 20000 in
theorem gX5_isThere_X5_pe : GoodIn wsX5_isThere (wsV RX5 59 RX5 yX5_pe wsX5_pe) := goodIn_app (goodIn_of _ (by decide +kernel)) ggX5_isThere_X5_pe
theorem dX5_isThere_0 : decode cX5_isThere 0 = .ok (.aload_n 0, 1) := by decide +kernel
theorem dX5_isThere_1 : decode cX5_isThere 1 = .ok (.iload_n 1, 1) := by decide +kernel
theorem dX5_isThere_2 : decode cX5_isThere 2 = .ok (.iconst 5, 1) := by decide +kernel
theorem dX5_isThere_3 : decode cX5_isThere 3 = .ok (.invokevirtual 59, 3) := by decide +kernel
theorem dX5_isThere_6 : decode cX5_isThere 6 = .ok (.ifCond .ne 17, 3) := by decide +kernel
theorem dX5_isThere_9 : decode cX5_isThere 9 = .ok (.aload_n 0, 1) := by decide +kernel
theorem dX5_isThere_10 : decode cX5_isThere 10 = .ok (.iload_n 1, 1) := by decide +kernel
theorem dX5_isThere_11 : decode cX5_isThere 11 = .ok (.iconst 0, 1) := by decide +kernel
theorem dX5_isThere_12 : decode cX5_isThere 12 = .ok (.invokevirtual 59, 3) := by decide +kernel
theorem dX5_isThere_15 : decode cX5_isThere 15 = .ok (.iload_n 2, 1) := by decide +kernel
theorem dX5_isThere_16 : decode cX5_isThere 16 = .ok (.if_icmp .ne 7, 3) := by decide +kernel
theorem dX5_isThere_19 : decode cX5_isThere 19 = .ok (.iconst 1, 1) := by decide +kernel
theorem dX5_isThere_20 : decode cX5_isThere 20 = .ok (.goto 4, 3) := by decide +kernel
theorem dX5_isThere_23 : decode cX5_isThere 23 = .ok (.iconst 0, 1) := by decide +kernel
theorem dX5_isThere_24 : decode cX5_isThere 24 = .ok (.ireturn, 1) := by decide +kernel
set_option maxRecDepth 20000 in
theorem ggX5_roomTold_X5_isThere : GoodIn wsX5_roomTold wsX5_isThere := goodIn_r _ [8, 9, 10, 11, 7, 12, 13, 14, 15, 16, 17, 18, 19, 20, 21, 22] (by decide +kernel) (by decide +kernel)
set_option maxRecDepth 20000 in
theorem gX5_roomTold_X5_isThere : GoodIn wsX5_roomTold (wsV RX5 63 RX5 yX5_isThere wsX5_isThere) := goodIn_app (goodIn_of _ (by decide +kernel)) ggX5_roomTold_X5_isThere
set_option maxRecDepth 20000 in
theorem ggX5_roomTold_X5_pe : GoodIn wsX5_roomTold wsX5_pe := goodIn_r _ [12, 13, 14, 15, 16, 17, 18, 19, 20, 21, 22] (by decide +kernel) (by decide +kernel)
set_option maxRecDepth 20000 in
theorem gX5_roomTold_X5_pe : GoodIn wsX5_roomTold (wsV RX5 59 RX5 yX5_pe wsX5_pe) := goodIn_app (goodIn_of _ (by decide +kernel)) ggX5_roomTold_X5_pe
theorem dX5_roomTold_0 : decode cX5_roomTold 0 = .ok (.iload_n 2, 1) := by decide +kernel
theorem dX5_roomTold_1 : decode cX5_roomTold 1 = .ok (.iconst 2, 1) := by decide +kernel
theorem dX5_roomTold_2 : decode cX5_roomTold 2 = .ok (.if_icmp .ge 23, 3) := by decide +kernel
theorem dX5_roomTold_5 : decode cX5_roomTold 5 = .ok (.iload_n 2, 1) := by decide +kernel
theorem dX5_roomTold_6 : decode cX5_roomTold 6 = .ok (.ifCond .ne 12, 3) := by decide +kernel
theorem dX5_roomTold_9 : decode cX5_roomTold 9 = .ok (.aload_n 0, 1) := by decide +kernel
theorem dX5_roomTold_10 : decode cX5_roomTold 10 = .ok (.getfield 13, 3) := by decide +kernel
theorem dX5_roomTold_13 : decode cX5_roomTold 13 = .ok (.iload_n 1, 1) := by decide +kernel
theorem dX5_roomTold_14 : decode cX5_roomTold 14 = .ok (.iaload, 1) := by decide +kernel
theorem dX5_roomTold_15 : decode cX5_roomTold 15 = .ok (.goto 9, 3) := by decide +kernel
theorem dX5_roomTold_18 : decode cX5_roomTold 18 = .ok (.aload_n 0, 1) := by decide +kernel
theorem dX5_roomTold_19 : decode cX5_roomTold 19 = .ok (.getfield 16, 3) := by decide +kernel
theorem dX5_roomTold_22 : decode cX5_roomTold 22 = .ok (.iload_n 1, 1) := by decide +kernel
theorem dX5_roomTold_23 : decode cX5_roomTold 23 = .ok (.iaload, 1) := by decide +kernel
theorem dX5_roomTold_24 : decode cX5_roomTold 24 = .ok (.ireturn, 1) := by decide +kernel
theorem dX5_roomTold_25 : decode cX5_roomTold 25 = .ok (.iconst 0, 1) := by decide +kernel
theorem dX5_roomTold_26 : decode cX5_roomTold 26 = .ok (.istore_n 3, 1) := by decide +kernel
theorem dX5_roomTold_27 : decode cX5_roomTold 27 = .ok (.iconst 0, 1) := by decide +kernel
theorem dX5_roomTold_28 : decode cX5_roomTold 28 = .ok (.istore 4, 2) := by decide +kernel
theorem dX5_roomTold_30 : decode cX5_roomTold 30 = .ok (.iload 4, 2) := by decide +kernel
theorem dX5_roomTold_32 : decode cX5_roomTold 32 = .ok (.aload_n 0, 1) := by decide +kernel
theorem dX5_roomTold_33 : decode cX5_roomTold 33 = .ok (.getfield 39, 3) := by decide +kernel
theorem dX5_roomTold_36 : decode cX5_roomTold 36 = .ok (.if_icmp .ge 47, 3) := by decide +kernel
theorem dX5_roomTold_39 : decode cX5_roomTold 39 = .ok (.aload_n 0, 1) := by decide +kernel
theorem dX5_roomTold_40 : decode cX5_roomTold 40 = .ok (.iload 4, 2) := by decide +kernel
theorem dX5_roomTold_42 : decode cX5_roomTold 42 = .ok (.iload_n 1, 1) := by decide +kernel
theorem dX5_roomTold_43 : decode cX5_roomTold 43 = .ok (.invokevirtual 63, 3) := by decide +kernel
theorem dX5_roomTold_46 : decode cX5_roomTold 46 = .ok (.ifCond .eq 31, 3) := by decide +kernel
theorem dX5_roomTold_49 : decode cX5_roomTold 49 = .ok (.iload_n 3, 1) := by decide +kernel
theorem dX5_roomTold_50 : decode cX5_roomTold 50 = .ok (.iload_n 2, 1) := by decide +kernel
theorem dX5_roomTold_51 : decode cX5_roomTold 51 = .ok (.iconst 2, 1) := by decide +kernel
theorem dX5_roomTold_52 : decode cX5_roomTold 52 = .ok (.if_icmp .ne 7, 3) := by decide +kernel
theorem dX5_roomTold_55 : decode cX5_roomTold 55 = .ok (.iconst 1, 1) := by decide +kernel
theorem dX5_roomTold_56 : decode cX5_roomTold 56 = .ok (.goto 19, 3) := by decide +kernel
theorem dX5_roomTold_59 : decode cX5_roomTold 59 = .ok (.aload_n 0, 1) := by decide +kernel
theorem dX5_roomTold_60 : decode cX5_roomTold 60 = .ok (.iload 4, 2) := by decide +kernel
theorem dX5_roomTold_62 : decode cX5_roomTold 62 = .ok (.iload_n 2, 1) := by decide +kernel
theorem dX5_roomTold_63 : decode cX5_roomTold 63 = .ok (.iconst 3, 1) := by decide +kernel
theorem dX5_roomTold_64 : decode cX5_roomTold 64 = .ok (.if_icmp .ne 7, 3) := by decide +kernel
theorem dX5_roomTold_67 : decode cX5_roomTold 67 = .ok (.iconst 1, 1) := by decide +kernel
