set_option maxRecDepth 20000 in
theorem wsL_law0_r31_in : ∀ w ∈ wsL_law0_r31, w ∈ lw_tb6 := fun w h => (goodIn_p wsL_law0_r31 [699, 708, 719] (by decide +kernel) (by decide +kernel) w h).1
set_option maxRecDepth 20000 in
theorem wsL_law0_r32_in : ∀ w ∈ wsL_law0_r32, w ∈ lw_tb6 := fun w h => (goodIn_p wsL_law0_r32 [727, 731, 736, 741, 745] (by decide +kernel) (by decide +kernel) w h).1
set_option maxRecDepth 20000 in
theorem wsL_law0_r33_in : ∀ w ∈ wsL_law0_r33, w ∈ lw_tb6 := fun w h => (goodIn_p wsL_law0_r33 [753, 762, 770, 1245] rfl (by decide +kernel) w h).1
set_option maxRecDepth 20000 in
theorem wsL_law0_r34_in : ∀ w ∈ wsL_law0_r34, w ∈ lw_tb6 := fun w h => (goodIn_p wsL_law0_r34 [1099, 1174, 1137, 1133] (by decide +kernel) (by decide +kernel) w h).1
set_option maxRecDepth 20000 in
theorem wsL_law0_r35_in : ∀ w ∈ wsL_law0_r35, w ∈ lw_tb6 := fun w h => (goodIn_p wsL_law0_r35 [1103, 1170, 1143, 1080, 1084, 1095] (by decide +kernel) (by decide +kernel) w h).1
set_option maxRecDepth 20000 in
theorem wsL_law0_r36_in : ∀ w ∈ wsL_law0_r36, w ∈ lw_tb6 := fun w h => (goodIn_p wsL_law0_r36 [1088, 1092, 1110, 1115, 1120] (by decide +kernel) (by decide +kernel) w h).1
