set_option maxRecDepth 20000 in
theorem wsL_law0_r7_in : ∀ w ∈ wsL_law0_r7, w ∈ lw_tb6 := fun w h => (goodIn_p wsL_law0_r7 [296, 289, 293, 300, 441, 775] (by decide +kernel) (by decide +kernel) w h).1
set_option maxRecDepth 20000 in
theorem wsL_law0_r8_in : ∀ w ∈ wsL_law0_r8, w ∈ lw_tb6 := fun w h => (goodIn_p wsL_law0_r8 [781, 784, 454, 458] (by decide +kernel) (by decide +kernel) w h).1
set_option maxRecDepth 20000 in
theorem wsL_law0_r9_in : ∀ w ∈ wsL_law0_r9, w ∈ lw_tb6 := fun w h => (goodIn_p wsL_law0_r9 [792, 795, 802, 806, 809] (by decide +kernel) (by decide +kernel) w h).1
set_option maxRecDepth 20000 in
theorem wsL_law0_r10_in : ∀ w ∈ wsL_law0_r10, w ∈ lw_tb6 := fun w h => (goodIn_p wsL_law0_r10 [813, 817, 821, 824, 829] (by decide +kernel) (by decide +kernel) w h).1
set_option maxRecDepth 20000 in
theorem wsL_law0_r11_in : ∀ w ∈ wsL_law0_r11, w ∈ lw_tb6 := fun w h => (goodIn_p wsL_law0_r11 [832, 848, 852] (by decide +kernel) (by decide +kernel) w h).1
set_option maxRecDepth 20000 in
theorem wsL_law0_r12_in : ∀ w ∈ wsL_law0_r12, w ∈ lw_tb6 := fun w h => (goodIn_p wsL_law0_r12 [855, 488, 858, 861, 864, 868] (by decide +kernel) (by decide +kernel) w h).1
