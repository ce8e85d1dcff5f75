set_option maxRecDepth 20000 in
theorem wsL_law0_r7_in : ∀ w ∈ wsL_law0_r7, w ∈ lw_tbl := fun w h => (goodIn_r wsL_law0_r7 [576, 577, 578, 579, 585, 586, 587, 588, 589, 590, 591, 592, 73, 594, 595, 596, 597, 598, 599, 600, 601, 253, 255, 2] (by decide +kernel) (by decide +kernel) w h).1
set_option maxRecDepth 20000 in
theorem wsL_law0_r8_in : ∀ w ∈ wsL_law0_r8, w ∈ lw_tbl := fun w h => (goodIn_r wsL_law0_r8 [256, 257, 258, 259, 260, 602, 604, 3, 605, 606, 288, 289, 290, 270, 608, 267, 268, 269, 609, 610, 611, 612, 613, 614] (by decide +kernel) (by decide +kernel) w h).1
set_option maxRecDepth 20000 in
theorem wsL_law0_r9_in : ∀ w ∈ wsL_law0_r9, w ∈ lw_tbl := fun w h => (goodIn_r wsL_law0_r9 [615, 616, 617, 618, 619, 620, 621, 284, 285, 286, 622, 623, 624, 625, 626, 272, 273, 274, 627, 628, 629, 630, 291, 292] (by decide +kernel) (by decide +kernel) w h).1
