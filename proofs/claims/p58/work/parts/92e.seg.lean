set_option maxRecDepth 20000 in
theorem wsL_law0_r25_in : ∀ w ∈ wsL_law0_r25, w ∈ lw_tb6 := fun w h => (goodIn_p wsL_law0_r25 [619, 423, 427, 642] (by decide +kernel) (by decide +kernel) w h).1
set_option maxRecDepth 20000 in
theorem wsL_law0_r26_in : ∀ w ∈ wsL_law0_r26, w ∈ lw_tb6 := fun w h => (goodIn_p wsL_law0_r26 [646, 433, 327, 437, 1024, 1029] (by decide +kernel) (by decide +kernel) w h).1
set_option maxRecDepth 20000 in
theorem wsL_law0_r27_in : ∀ w ∈ wsL_law0_r27, w ∈ lw_tb6 := fun w h => (goodIn_p wsL_law0_r27 [1033, 1037, 1041, 1045, 1049] (by decide +kernel) (by decide +kernel) w h).1
set_option maxRecDepth 20000 in
theorem wsL_law0_r28_in : ∀ w ∈ wsL_law0_r28, w ∈ lw_tb6 := fun w h => (goodIn_p wsL_law0_r28 [1053, 703, 1057, 1061, 1065] (by decide +kernel) (by decide +kernel) w h).1
set_option maxRecDepth 20000 in
theorem wsL_law0_r29_in : ∀ w ∈ wsL_law0_r29, w ∈ lw_tb6 := fun w h => (goodIn_p wsL_law0_r29 [1069, 1073, 1077, 666] (by decide +kernel) (by decide +kernel) w h).1
set_option maxRecDepth 20000 in
theorem wsL_law0_r30_in : ∀ w ∈ wsL_law0_r30, w ∈ lw_tb6 := fun w h => (goodIn_p wsL_law0_r30 [419, 675, 683, 691] (by decide +kernel) (by decide +kernel) w h).1
