set_option maxRecDepth 20000 in
theorem wsL_law0_r13_in : ∀ w ∈ wsL_law0_r13, w ∈ lw_tb6 := fun w h => (goodIn_p wsL_law0_r13 [872, 876, 879, 882, 885, 888] (by decide +kernel) (by decide +kernel) w h).1
set_option maxRecDepth 20000 in
theorem wsL_law0_r14_in : ∀ w ∈ wsL_law0_r14, w ∈ lw_tb6 := fun w h => (goodIn_p wsL_law0_r14 [891, 895, 913, 916, 919, 922] (by decide +kernel) (by decide +kernel) w h).1
set_option maxRecDepth 20000 in
theorem wsL_law0_r15_in : ∀ w ∈ wsL_law0_r15, w ∈ lw_tb6 := fun w h => (goodIn_p wsL_law0_r15 [929, 932, 938, 941, 944, 947] (by decide +kernel) (by decide +kernel) w h).1
set_option maxRecDepth 20000 in
theorem wsL_law0_r16_in : ∀ w ∈ wsL_law0_r16, w ∈ lw_tb6 := fun w h => (goodIn_p wsL_law0_r16 [485, 474, 479, 955, 960, 963] (by decide +kernel) (by decide +kernel) w h).1
set_option maxRecDepth 20000 in
theorem wsL_law0_r17_in : ∀ w ∈ wsL_law0_r17, w ∈ lw_tb6 := fun w h => (goodIn_p wsL_law0_r17 [969, 975, 977, 981, 984, 987] (by decide +kernel) (by decide +kernel) w h).1
set_option maxRecDepth 20000 in
theorem wsL_law0_r18_in : ∀ w ∈ wsL_law0_r18, w ∈ lw_tb6 := fun w h => (goodIn_p wsL_law0_r18 [1003, 1006, 492, 1010, 450] (by decide +kernel) (by decide +kernel) w h).1
