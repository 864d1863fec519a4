set_option maxRecDepth 20000 in
theorem wsL_law0_r37_in : ∀ w ∈ wsL_law0_r37, w ∈ lw_tb6 := fun w h => (goodIn_p wsL_law0_r37 [1124, 1129, 1147, 1152, 1156, 1161] (by decide +kernel) (by decide +kernel) w h).1
set_option maxRecDepth 20000 in
theorem wsL_law0_r38_in : ∀ w ∈ wsL_law0_r38, w ∈ lw_tb6 := fun w h => (goodIn_p wsL_law0_r38 [1165, 1177, 1182, 1186, 1191] (by decide +kernel) (by decide +kernel) w h).1
set_option maxRecDepth 20000 in
theorem wsL_law0_r39_in : ∀ w ∈ wsL_law0_r39, w ∈ lw_tb6 := fun w h => (goodIn_p wsL_law0_r39 [1195, 1201, 1205, 1210, 1214] (by decide +kernel) (by decide +kernel) w h).1
set_option maxRecDepth 20000 in
theorem wsL_law0_r40_in : ∀ w ∈ wsL_law0_r40, w ∈ lw_tb6 := fun w h => (goodIn_p wsL_law0_r40 [1218, 1222, 1226, 1230, 1234, 1238] (by decide +kernel) (by decide +kernel) w h).1
set_option maxRecDepth 20000 in
theorem wsL_law0_r41_in : ∀ w ∈ wsL_law0_r41, w ∈ lw_tb6 := fun w h => (goodIn_p wsL_law0_r41 [1242, 654, 659, 324, 398] (by decide +kernel) (by decide +kernel) w h).1
