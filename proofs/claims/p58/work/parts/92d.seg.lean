set_option maxRecDepth 20000 in
theorem wsL_law0_r19_in : ∀ w ∈ wsL_law0_r19, w ∈ lw_tb6 := fun w h => (goodIn_p wsL_law0_r19 [464, 468, 471, 482, 502] (by decide +kernel) (by decide +kernel) w h).1
set_option maxRecDepth 20000 in
theorem wsL_law0_r20_in : ∀ w ∈ wsL_law0_r20, w ∈ lw_tb6 := fun w h => (goodIn_p wsL_law0_r20 [507, 511, 516, 520] (by decide +kernel) (by decide +kernel) w h).1
set_option maxRecDepth 20000 in
theorem wsL_law0_r21_in : ∀ w ∈ wsL_law0_r21, w ∈ lw_tb6 := fun w h => (goodIn_p wsL_law0_r21 [525, 529, 533, 536, 541] (by decide +kernel) (by decide +kernel) w h).1
set_option maxRecDepth 20000 in
theorem wsL_law0_r22_in : ∀ w ∈ wsL_law0_r22, w ∈ lw_tb6 := fun w h => (goodIn_p wsL_law0_r22 [547, 551, 555, 560, 565] (by decide +kernel) (by decide +kernel) w h).1
set_option maxRecDepth 20000 in
theorem wsL_law0_r23_in : ∀ w ∈ wsL_law0_r23, w ∈ lw_tb6 := fun w h => (goodIn_p wsL_law0_r23 [571, 577, 581, 585, 589] (by decide +kernel) (by decide +kernel) w h).1
set_option maxRecDepth 20000 in
theorem wsL_law0_r24_in : ∀ w ∈ wsL_law0_r24, w ∈ lw_tb6 := fun w h => (goodIn_p wsL_law0_r24 [595, 600, 604, 609, 614] (by decide +kernel) (by decide +kernel) w h).1
