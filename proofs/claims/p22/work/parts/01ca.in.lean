theorem app_in {a b big : List Cond} (ha : ∀ w ∈ a, w ∈ big) (hb : ∀ w ∈ b, w ∈ big) : ∀ w ∈ a ++ b, w ∈ big := fun w h => (List.mem_append.mp h).elim (ha w) (hb w)
set_option maxRecDepth 20000 in
theorem wsL_law0_r1_in : ∀ w ∈ wsL_law0_r1, w ∈ lw_tbl := fun w h => (goodIn_r wsL_law0_r1 [19, 20, 5, 646, 660, 43, 21, 22, 23, 24, 25, 26, 27, 28, 6, 111, 112, 30, 31, 32, 33, 34, 7, 89] (by decide +kernel) (by decide +kernel) w h).1
set_option maxRecDepth 20000 in
theorem wsL_law0_r2_in : ∀ w ∈ wsL_law0_r2, w ∈ lw_tbl := fun w h => (goodIn_r wsL_law0_r2 [44, 45, 8, 91, 61, 62, 9, 93, 60, 95, 36, 37, 38, 39, 47, 48, 49, 50, 51, 64, 65, 66, 67, 68] (by decide +kernel) (by decide +kernel) w h).1
set_option maxRecDepth 20000 in
theorem wsL_law0_r3_in : ∀ w ∈ wsL_law0_r3, w ∈ lw_tbl := fun w h => (goodIn_r wsL_law0_r3 [69, 70, 71, 72, 631, 632, 4, 633, 634, 635, 10, 642, 637, 638, 639, 640, 641, 476, 643, 645, 529, 530, 531, 532] (by decide +kernel) (by decide +kernel) w h).1
