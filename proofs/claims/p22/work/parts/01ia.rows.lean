set_option maxRecDepth 20000 in
theorem gL_build_X4_swarm : GoodIn wsL_build (wsV RL 41 RX4 yX4_swarm wsX4_swarm) := goodIn_app (goodIn_of _ (by decide +kernel)) ggL_build_X4_swarm
set_option maxRecDepth 20000 in
theorem goodIn_cons {big a : List Cond} {c : Cond} (h : c ∈ big) (hg : goodWord c = true) (ha : GoodIn big a) : GoodIn big (c :: a) := fun w hw => (List.mem_cons.mp hw).elim (fun e => e ▸ ⟨h, good_of_word hg⟩) (ha w)
theorem ggL_build_L_act : GoodIn wsL_build wsL_act := goodIn_ca (goodIn_ca (goodIn_ca (goodIn_cons (c := Cond.code yL_act cL_act 13 (some .boolean)) (show Cond.code yL_act cL_act 13 (some .boolean) ∈ wsL_build from List.mem_of_getElem? (i := 60) rfl) rfl (goodIn_r _ [61, 62, 11, 4, 21, 22, 18, 23, 24, 63, 64, 3, 65, 13, 66, 67, 68, 28, 69, 70, 71, 30, 36, 37, 38, 39, 40, 72, 73, 74, 75, 76, 77, 78, 79, 80, 81, 82, 83, 84, 85, 86, 87, 88, 89, 90, 91, 34, 35, 92, 93, 94, 95, 96, 97, 98, 99, 100, 101, 102, 103, 104, 25, 26, 27, 29, 31, 32, 33, 41, 42, 43, 44, 45, 46, 47, 48, 49, 50, 51, 52, 53, 54, 55, 56, 57, 105, 106, 107, 108, 109, 110, 111, 112, 113, 114, 115, 116, 117, 118, 119, 120, 121, 122, 123, 124, 125, 126, 127, 128, 129, 130, 131, 132, 133, 134, 135, 136, 137, 138, 139, 140, 141, 142, 143, 144, 145, 146, 147, 148, 149, 150, 151, 152, 153, 154, 155, 156, 157, 158, 159, 160, 161, 162, 163, 164, 165, 166, 167, 168, 169, 170, 171, 172, 173, 174, 175, 176, 177, 178, 179, 180, 181, 182, 183, 184, 185, 186, 187, 188, 189, 191, 192, 193, 190, 194, 195, 196, 197, 198, 199, 200] (by decide +kernel) (by decide +kernel))) (goodIn_sub (fun _ h => List.mem_cons_of_mem _ (List.mem_append_right _ h)) (by decide +kernel))) (goodIn_sub (fun _ h => List.mem_cons_of_mem _ (List.mem_append_left _ (List.mem_append_right _ h))) (by decide +kernel))) (goodIn_sub (fun _ h => List.mem_cons_of_mem _ (List.mem_append_left _ (List.mem_append_left _ (List.mem_append_right _ h)))) (by decide +kernel))
set_option maxRecDepth 20000 in
theorem gL_build_L_act : GoodIn wsL_build (va_wsS RL 63 yL_act wsL_act) := goodIn_app (goodIn_of _ (by decide +kernel)) ggL_build_L_act
theorem dL_build_0 : decode cL_build 0 = .ok (.new 10, 3) := by decide +kernel
theorem dL_build_3 : decode cL_build 3 = .ok (.dup, 1) := by decide +kernel
theorem dL_build_4 : decode cL_build 4 = .ok (.invokespecial 58, 3) := by decide +kernel
theorem dL_build_7 : decode cL_build 7 = .ok (.astore_n 2, 1) := by decide +kernel
theorem dL_build_8 : decode cL_build 8 = .ok (.iconst 0, 1) := by decide +kernel
theorem dL_build_9 : decode cL_build 9 = .ok (.istore_n 3, 1) := by decide +kernel
theorem dL_build_10 : decode cL_build 10 = .ok (.iload_n 3, 1) := by decide +kernel
theorem dL_build_11 : decode cL_build 11 = .ok (.bipush 12, 2) := by decide +kernel
theorem dL_build_13 : decode cL_build 13 = .ok (.if_icmp .ge 81, 3) := by decide +kernel
theorem dL_build_16 : decode cL_build 16 = .ok (.aload_n 1, 1) := by decide +kernel
theorem dL_build_17 : decode cL_build 17 = .ok (.iload_n 3, 1) := by decide +kernel
theorem dL_build_18 : decode cL_build 18 = .ok (.invokestatic 59, 3) := by decide +kernel
theorem dL_build_21 : decode cL_build 21 = .ok (.bipush 7, 2) := by decide +kernel
theorem dL_build_23 : decode cL_build 23 = .ok (.iload_n 3, 1) := by decide +kernel
theorem dL_build_24 : decode cL_build 24 = .ok (.imul, 1) := by decide +kernel
theorem dL_build_25 : decode cL_build 25 = .ok (.iadd, 1) := by decide +kernel
theorem dL_build_26 : decode cL_build 26 = .ok (.istore 4, 2) := by decide +kernel
theorem dL_build_28 : decode cL_build 28 = .ok (.iload 4, 2) := by decide +kernel
theorem dL_build_30 : decode cL_build 30 = .ok (.iconst 4, 1) := by decide +kernel
theorem dL_build_31 : decode cL_build 31 = .ok (.ishr, 1) := by decide +kernel
theorem dL_build_32 : decode cL_build 32 = .ok (.bipush 41, 2) := by decide +kernel
theorem dL_build_34 : decode cL_build 34 = .ok (.invokestatic 18, 3) := by decide +kernel
theorem dL_build_37 : decode cL_build 37 = .ok (.istore 5, 2) := by decide +kernel
theorem dL_build_39 : decode cL_build 39 = .ok (.aload_n 2, 1) := by decide +kernel
theorem dL_build_40 : decode cL_build 40 = .ok (.getfield 38, 3) := by decide +kernel
theorem dL_build_43 : decode cL_build 43 = .ok (.iload 4, 2) := by decide +kernel
theorem dL_build_45 : decode cL_build 45 = .ok (.bipush 10, 2) := by decide +kernel
theorem dL_build_47 : decode cL_build 47 = .ok (.invokestatic 18, 3) := by decide +kernel
theorem dL_build_50 : decode cL_build 50 = .ok (.aaload, 1) := by decide +kernel
theorem dL_build_51 : decode cL_build 51 = .ok (.iload 4, 2) := by decide +kernel
theorem dL_build_53 : decode cL_build 53 = .ok (.iconst 2, 1) := by decide +kernel
theorem dL_build_54 : decode cL_build 54 = .ok (.ishr, 1) := by decide +kernel
theorem dL_build_55 : decode cL_build 55 = .ok (.iconst 5, 1) := by decide +kernel
theorem dL_build_56 : decode cL_build 56 = .ok (.invokestatic 18, 3) := by decide +kernel
theorem dL_build_59 : decode cL_build 59 = .ok (.iload 5, 2) := by decide +kernel
theorem dL_build_61 : decode cL_build 61 = .ok (.iastore, 1) := by decide +kernel
theorem dL_build_62 : decode cL_build 62 = .ok (.aload_n 0, 1) := by decide +kernel
theorem dL_build_63 : decode cL_build 63 = .ok (.iload 4, 2) := by decide +kernel
theorem dL_build_65 : decode cL_build 65 = .ok (.bipush 10, 2) := by decide +kernel
theorem dL_build_67 : decode cL_build 67 = .ok (.invokestatic 18, 3) := by decide +kernel
theorem dL_build_70 : decode cL_build 70 = .ok (.iload 4, 2) := by decide +kernel
theorem dL_build_72 : decode cL_build 72 = .ok (.iconst 2, 1) := by decide +kernel
theorem dL_build_73 : decode cL_build 73 = .ok (.ishr, 1) := by decide +kernel
theorem dL_build_74 : decode cL_build 74 = .ok (.iconst 5, 1) := by decide +kernel
theorem dL_build_75 : decode cL_build 75 = .ok (.invokestatic 18, 3) := by decide +kernel
theorem dL_build_78 : decode cL_build 78 = .ok (.iload 5, 2) := by decide +kernel
theorem dL_build_80 : decode cL_build 80 = .ok (.invokevirtual 41, 3) := by decide +kernel
theorem dL_build_83 : decode cL_build 83 = .ok (.ifCond .ge 5, 3) := by decide +kernel
theorem dL_build_86 : decode cL_build 86 = .ok (.aconst_null, 1) := by decide +kernel
theorem dL_build_87 : decode cL_build 87 = .ok (.areturn, 1) := by decide +kernel
theorem dL_build_88 : decode cL_build 88 = .ok (.iinc 3 1, 3) := by decide +kernel
theorem dL_build_91 : decode cL_build 91 = .ok (.goto (-81), 3) := by decide +kernel
theorem dL_build_94 : decode cL_build 94 = .ok (.iconst 0, 1) := by decide +kernel
theorem dL_build_95 : decode cL_build 95 = .ok (.istore_n 3, 1) := by decide +kernel
theorem dL_build_96 : decode cL_build 96 = .ok (.iload_n 3, 1) := by decide +kernel
theorem dL_build_97 : decode cL_build 97 = .ok (.bipush 24, 2) := by decide +kernel
theorem dL_build_99 : decode cL_build 99 = .ok (.if_icmp .ge 58, 3) := by decide +kernel
theorem dL_build_102 : decode cL_build 102 = .ok (.aload_n 0, 1) := by decide +kernel
theorem dL_build_103 : decode cL_build 103 = .ok (.aload_n 2, 1) := by decide +kernel
theorem dL_build_104 : decode cL_build 104 = .ok (.aload_n 1, 1) := by decide +kernel
theorem dL_build_105 : decode cL_build 105 = .ok (.iload_n 3, 1) := by decide +kernel
theorem dL_build_106 : decode cL_build 106 = .ok (.bipush 12, 2) := by decide +kernel
theorem dL_build_108 : decode cL_build 108 = .ok (.irem, 1) := by decide +kernel
theorem dL_build_109 : decode cL_build 109 = .ok (.invokestatic 59, 3) := by decide +kernel
theorem dL_build_112 : decode cL_build 112 = .ok (.iload_n 3, 1) := by decide +kernel
theorem dL_build_113 : decode cL_build 113 = .ok (.bipush 12, 2) := by decide +kernel
theorem dL_build_115 : decode cL_build 115 = .ok (.idiv, 1) := by decide +kernel
theorem dL_build_116 : decode cL_build 116 = .ok (.iconst 4, 1) := by decide +kernel
theorem dL_build_117 : decode cL_build 117 = .ok (.imul, 1) := by decide +kernel
theorem dL_build_118 : decode cL_build 118 = .ok (.ishr, 1) := by decide +kernel
theorem dL_build_119 : decode cL_build 119 = .ok (.sipush 173, 3) := by decide +kernel
theorem dL_build_122 : decode cL_build 122 = .ok (.iload_n 3, 1) := by decide +kernel
theorem dL_build_123 : decode cL_build 123 = .ok (.imul, 1) := by decide +kernel
theorem dL_build_124 : decode cL_build 124 = .ok (.iadd, 1) := by decide +kernel
theorem dL_build_125 : decode cL_build 125 = .ok (.iload_n 3, 1) := by decide +kernel
theorem dL_build_126 : decode cL_build 126 = .ok (.bipush 10, 2) := by decide +kernel
theorem dL_build_128 : decode cL_build 128 = .ok (.if_icmp .ge 13, 3) := by decide +kernel
theorem dL_build_131 : decode cL_build 131 = .ok (.sipush 1024, 3) := by decide +kernel
theorem dL_build_134 : decode cL_build 134 = .ok (.iload_n 3, 1) := by decide +kernel
theorem dL_build_135 : decode cL_build 135 = .ok (.iconst 5, 1) := by decide +kernel
theorem dL_build_136 : decode cL_build 136 = .ok (.irem, 1) := by decide +kernel
theorem dL_build_137 : decode cL_build 137 = .ok (.imul, 1) := by decide +kernel
theorem dL_build_138 : decode cL_build 138 = .ok (.goto 4, 3) := by decide +kernel
theorem dL_build_141 : decode cL_build 141 = .ok (.iconst 0, 1) := by decide +kernel
theorem dL_build_142 : decode cL_build 142 = .ok (.iadd, 1) := by decide +kernel
theorem dL_build_143 : decode cL_build 143 = .ok (.invokestatic 63, 3) := by decide +kernel
theorem dL_build_146 : decode cL_build 146 = .ok (.ifCond .ne 5, 3) := by decide +kernel
theorem dL_build_149 : decode cL_build 149 = .ok (.aconst_null, 1) := by decide +kernel
theorem dL_build_150 : decode cL_build 150 = .ok (.areturn, 1) := by decide +kernel
theorem dL_build_151 : decode cL_build 151 = .ok (.iinc 3 1, 3) := by decide +kernel
theorem dL_build_154 : decode cL_build 154 = .ok (.goto (-58), 3) := by decide +kernel
theorem dL_build_157 : decode cL_build 157 = .ok (.aload_n 2, 1) := by decide +kernel
theorem dL_build_158 : decode cL_build 158 = .ok (.areturn, 1) := by decide +kernel
set_option maxRecDepth 20000 in
theorem ggL_law_X4_init : GoodIn wsL_law wsX4_init := goodIn_r _ [8, 9, 10, 11, 12, 13, 14, 15, 16, 17, 18, 19, 20, 21, 22, 23, 24, 25, 26, 27, 28, 29, 30, 31, 32, 33, 34, 35, 36, 5, 37, 38, 39, 40, 41, 42, 43, 44, 45, 46, 47, 48, 49, 50, 51, 492, 493, 494, 495, 496, 497, 485, 486, 498, 499, 500, 501, 502, 503, 504, 505, 506, 507, 508] (by decide +kernel) (by decide +kernel)
set_option maxRecDepth 20000 in
theorem gL_law_X4_init : GoodIn wsL_law (wsX4_init) := ggL_law_X4_init
set_option maxRecDepth 20000 in
theorem ggL_law_L_build : GoodIn wsL_law wsL_build := goodIn_ca (goodIn_ca (goodIn_ca (goodIn_app (a := [Cond.code yL_build cL_build 6 (some (.object "FireflyInnLaw$Sim")), Cond.classLink RL 10 RX5, Cond.instantiable RX5 5, Cond.initialized RX5, Cond.fieldLink RL 38 "FireflyInnLaw$Sim" "hedge" "[[I", Cond.instanceMethod yX5_init, Cond.code yX5_init cX5_init 1 none, Cond.methodLink RX5 1 objectInit, Cond.instanceMethod objectInit, Cond.code objectInit ⟨#[0xb1]⟩ 1 none, Cond.classLink RX5 7 "[[I", Cond.arrayClass .int, Cond.fieldLink RX5 9 "FireflyInnLaw$Sim" "hedge" "[[I", Cond.classLink RX5 14 "[I", Cond.fieldLink RX5 16 "FireflyInnLaw$Sim" "rooms" "[[I", Cond.fieldLink RX5 19 "FireflyInnLaw$Sim" "guests" "[[I", Cond.methodLink RL 59 yL_cell, Cond.static yL_cell, Cond.initialized RL, Cond.code yL_cell cL_cell 2 (some .int), Cond.constant RL 8 (790386105), Cond.methodLink RL 18 yL_below, Cond.static yL_below, Cond.code yL_below cL_below 2 (some .int), Cond.constant RL 7 (2147483647), Cond.methodLink RL 41 yX4_swarm, Cond.instanceMethod yX4_swarm, Cond.selects RX4 yX4_swarm yX4_swarm, Cond.initialized RX4, Cond.code yX4_swarm cX4_swarm 5 (some .int), Cond.fieldLink RX4 12 "FireflyInn" "now" "LFireflyInn$Inn;", Cond.methodLink RX4 19 yX4_needIndex, Cond.static yX4_needIndex, Cond.code yX4_needIndex cX4_needIndex 2 none, Cond.classLink RX4 168 "java/lang/IndexOutOfBoundsException", Cond.initialized "java/lang/IndexOutOfBoundsException", Cond.methodLink RX4 23 yX4_needArgument, Cond.static yX4_needArgument, Cond.code yX4_needArgument cX4_needArgument 3 none, Cond.classLink RX4 183 "java/lang/IllegalArgumentException", Cond.initialized "java/lang/IllegalArgumentException", Cond.methodLink RX4 31 yX1_at, Cond.instanceMethod yX1_at, Cond.selects RX1 yX1_at yX1_at, Cond.initialized RX1, Cond.code yX1_at cX1_at 3 (some .int), Cond.fieldLink RX1 9 "FireflyInn$Hedge" "cells" "[I", Cond.methodLink RX1 15 yX1_isInside, Cond.static yX1_isInside, Cond.code yX1_isInside cX1_isInside 2 (some .boolean), Cond.methodLink RX4 37 yX1_put, Cond.instanceMethod yX1_put, Cond.selects RX1 yX1_put yX1_put, Cond.code yX1_put cX1_put 4 none, Cond.methodLink RX1 19 Lib.Math.min.name, Cond.static Lib.Math.min.name, Cond.initialized "java/lang/Math", Cond.code Lib.Math.min.name Lib.Math.min.code 2 (some .int), Cond.methodLink RL 63 yL_act, Cond.static yL_act]) (goodIn_r _ [55, 56, 57, 58, 59, 60, 61, 62, 10, 11, 63, 5, 64, 65, 66, 67, 68, 69, 54, 70, 71, 72, 73, 74, 75, 76, 77, 78, 2, 79, 15, 80, 81, 82, 83, 84, 85, 86, 87, 88, 89, 90, 91, 92, 22, 93, 37, 94, 95, 96, 97, 98, 99, 100, 101, 102, 103, 104, 105, 106] (by decide +kernel) (by decide +kernel)) (goodIn_cons (c := Cond.code yL_act cL_act 13 (some .boolean)) (show Cond.code yL_act cL_act 13 (some .boolean) ∈ wsL_law from (List.mem_append_left _ (List.mem_append_left _ (List.mem_append_left _ (List.mem_append_left _ (List.mem_append_left _ (List.mem_append_left _ (List.mem_append_left _ (List.mem_append_left _ (List.mem_append_left _ (List.mem_append_left _ (List.mem_append_right _ (List.mem_append_right _ (List.mem_append_right _ (List.mem_append_right _ (List.mem_append_left _ (show Cond.code yL_act cL_act 13 (some .boolean) ∈ wsL_law0_r5 from List.mem_of_getElem? (i := 11) rfl))))))))))))))))) rfl (goodIn_r _ [108, 3, 109, 110, 111, 112, 113, 114, 115, 116, 117, 118, 119, 120, 26, 121, 122, 123, 124, 125, 126, 41, 42, 127, 128, 129, 130, 131, 132, 133, 134, 135, 136, 137, 138, 139, 140, 141, 142, 143, 144, 145, 146, 147, 148, 149, 150, 151, 152, 153, 154, 30, 155, 156, 157, 158, 159, 160, 46, 47, 50, 51, 161, 162, 163, 164, 165, 166, 167, 168, 169, 170, 171, 172, 173, 174, 175, 176, 177, 178, 179, 180, 181, 182, 183, 184, 185, 186, 187, 188, 189, 190, 191, 192, 193, 194, 195, 196, 197, 198, 199, 200, 201, 49, 202, 203, 204, 205, 206, 207, 208, 209, 210, 211, 212, 213, 487, 488, 489, 490, 491, 485, 486, 492, 493, 494, 495, 496, 497, 498, 499, 500, 501, 502, 503, 504, 505, 506, 507, 508] (by decide +kernel) (by decide +kernel)))) (goodIn_sub (fun _ h => List.mem_append_left _ (List.mem_append_left _ (List.mem_append_right _ h))) (by decide +kernel))) (goodIn_sub (fun _ h => List.mem_append_left _ (List.mem_append_right _ h)) (by decide +kernel))) (goodIn_sub (fun _ h => List.mem_append_right _ h) (by decide +kernel))
set_option maxRecDepth 20000 in
theorem gL_law_L_build : GoodIn wsL_law (va_wsS RL 68 yL_build wsL_build) := goodIn_app (goodIn_of _ (by decide +kernel)) ggL_law_L_build
set_option maxRecDepth 20000 in
theorem ggL_law_L_cell : GoodIn wsL_law wsL_cell := goodIn_r _ [70, 71] (by decide +kernel) (by decide +kernel)
