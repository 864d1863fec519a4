theorem in_app {a b t : List Cond} (h1 : ∀ w ∈ a, w ∈ t) (h2 : ∀ w ∈ b, w ∈ t) : ∀ w ∈ a ++ b, w ∈ t := fun w h => (List.mem_append.mp h).elim (h1 w) (h2 w)
theorem wsX70_tb : ∀ w ∈ wsX70, w ∈ lw_tb6 := by decide +kernel
theorem wsX40_tb : ∀ w ∈ wsX40, w ∈ lw_tb6 := by decide +kernel
theorem wsX30_tb : ∀ w ∈ wsX30, w ∈ lw_tb6 := by decide +kernel
theorem wsX00_tb : ∀ w ∈ wsX00, w ∈ lw_tb6 := by decide +kernel
theorem wsX50_tb : ∀ w ∈ wsX50, w ∈ lw_tb6 := by decide +kernel
theorem wsX20_tb : ∀ w ∈ wsX20, w ∈ lw_tb6 := by decide +kernel
theorem wsX10_tb : ∀ w ∈ wsX10, w ∈ lw_tb6 := by decide +kernel
theorem wsX60_tb : ∀ w ∈ wsX60, w ∈ lw_tb6 := by decide +kernel
theorem wsJ40_tb : ∀ w ∈ wsJ40, w ∈ lw_tb6 := by decide +kernel
theorem wsJ00_tb : ∀ w ∈ wsJ00, w ∈ lw_tb6 := by decide +kernel
theorem wsL_law_in0 : ∀ w ∈ wsL_law0, w ∈ lw_tb6 := (in_app (in_app (in_app (in_app (in_app (in_app (in_app (in_app (in_app (in_app (in_app (in_app wsL_law0_r1_in (in_app wsL_law0_r2_in (in_app wsL_law0_r3_in (in_app wsL_law0_r4_in (in_app wsL_law0_r5_in (in_app wsL_law0_r6_in (in_app wsL_law0_r7_in (in_app wsL_law0_r8_in (in_app wsL_law0_r9_in (in_app wsL_law0_r10_in (in_app wsL_law0_r11_in (in_app wsL_law0_r12_in (in_app wsL_law0_r13_in (in_app wsL_law0_r14_in (in_app wsL_law0_r15_in (in_app wsL_law0_r16_in (in_app wsL_law0_r17_in (in_app wsL_law0_r18_in (in_app wsL_law0_r19_in (in_app wsL_law0_r20_in (in_app wsL_law0_r21_in (in_app wsL_law0_r22_in (in_app wsL_law0_r23_in (in_app wsL_law0_r24_in (in_app wsL_law0_r25_in (in_app wsL_law0_r26_in (in_app wsL_law0_r27_in (in_app wsL_law0_r28_in (in_app wsL_law0_r29_in (in_app wsL_law0_r30_in (in_app wsL_law0_r31_in (in_app wsL_law0_r32_in (in_app wsL_law0_r33_in (in_app wsL_law0_r34_in (in_app wsL_law0_r35_in (in_app wsL_law0_r36_in (in_app wsL_law0_r37_in (in_app wsL_law0_r38_in (in_app wsL_law0_r39_in (in_app wsL_law0_r40_in wsL_law0_r41_in)))))))))))))))))))))))))))))))))))))))) wsX70_tb) wsX40_tb) wsX30_tb) wsX00_tb) wsX50_tb) wsX20_tb) wsX10_tb) wsX60_tb) wsJ40_tb) wsJ00_tb) (fun w h => absurd h List.not_mem_nil))
theorem wsL_law_x0 : ∀ w ∈ (vx_atS RX7 90 "java/lang/IllegalStateException" ["java/lang/RuntimeException", "java/lang/Exception"]).filter goodWord, w ∈ lw_tb6 := by decide +kernel
theorem wsL_law_x1 : ∀ w ∈ (vx_atS RX7 100 "java/lang/IndexOutOfBoundsException" ["java/lang/RuntimeException", "java/lang/Exception"]).filter goodWord, w ∈ lw_tb6 := by decide +kernel
theorem wsL_law_x2 : ∀ w ∈ (vx_atS RX7 111 "java/lang/IllegalArgumentException" ["java/lang/RuntimeException", "java/lang/Exception"]).filter goodWord, w ∈ lw_tb6 := by decide +kernel
theorem wsL_law_in : ∀ w ∈ wsL_law, w ∈ lw_tb6 := fun w h => (List.mem_append.mp h).elim (fun h => (List.mem_append.mp h).elim (fun h => (List.mem_append.mp h).elim (fun h => wsL_law_in0 w h) (fun h => wsL_law_x0 w h)) (fun h => wsL_law_x1 w h)) (fun h => wsL_law_x2 w h)
theorem inlX0 : ∀ w ∈ wsX00, w ∈ wsL_law := fun _ h => List.mem_append_left _ (List.mem_append_left _ (List.mem_append_left _ (List.mem_append_left _ (List.mem_append_left _ (List.mem_append_left _ (List.mem_append_left _ (List.mem_append_left _ (List.mem_append_left _ (List.mem_append_left _ (List.mem_append_right _ h))))))))))
theorem inX0 : ∀ w ∈ wsX00, w ∈ lw_tb6 := fun w h => wsL_law_in w (inlX0 w h)
theorem inlX1 : ∀ w ∈ wsX10, w ∈ wsL_law := fun _ h => List.mem_append_left _ (List.mem_append_left _ (List.mem_append_left _ (List.mem_append_left _ (List.mem_append_left _ (List.mem_append_left _ (List.mem_append_left _ (List.mem_append_right _ h)))))))
theorem inX1 : ∀ w ∈ wsX10, w ∈ lw_tb6 := fun w h => wsL_law_in w (inlX1 w h)
theorem inlX2 : ∀ w ∈ wsX20, w ∈ wsL_law := fun _ h => List.mem_append_left _ (List.mem_append_left _ (List.mem_append_left _ (List.mem_append_left _ (List.mem_append_left _ (List.mem_append_left _ (List.mem_append_left _ (List.mem_append_left _ (List.mem_append_right _ h))))))))
theorem inX2 : ∀ w ∈ wsX20, w ∈ lw_tb6 := fun w h => wsL_law_in w (inlX2 w h)
theorem inlX3 : ∀ w ∈ wsX30, w ∈ wsL_law := fun _ h => List.mem_append_left _ (List.mem_append_left _ (List.mem_append_left _ (List.mem_append_left _ (List.mem_append_left _ (List.mem_append_left _ (List.mem_append_left _ (List.mem_append_left _ (List.mem_append_left _ (List.mem_append_left _ (List.mem_append_left _ (List.mem_append_right _ h)))))))))))
theorem inX3 : ∀ w ∈ wsX30, w ∈ lw_tb6 := fun w h => wsL_law_in w (inlX3 w h)
theorem inlX4 : ∀ w ∈ wsX40, w ∈ wsL_law := fun _ h => List.mem_append_left _ (List.mem_append_left _ (List.mem_append_left _ (List.mem_append_left _ (List.mem_append_left _ (List.mem_append_left _ (List.mem_append_left _ (List.mem_append_left _ (List.mem_append_left _ (List.mem_append_left _ (List.mem_append_left _ (List.mem_append_left _ (List.mem_append_right _ h))))))))))))
theorem inX4 : ∀ w ∈ wsX40, w ∈ lw_tb6 := fun w h => wsL_law_in w (inlX4 w h)
theorem inlX5 : ∀ w ∈ wsX50, w ∈ wsL_law := fun _ h => List.mem_append_left _ (List.mem_append_left _ (List.mem_append_left _ (List.mem_append_left _ (List.mem_append_left _ (List.mem_append_left _ (List.mem_append_left _ (List.mem_append_left _ (List.mem_append_left _ (List.mem_append_right _ h)))))))))
theorem inX5 : ∀ w ∈ wsX50, w ∈ lw_tb6 := fun w h => wsL_law_in w (inlX5 w h)
theorem inlX6 : ∀ w ∈ wsX60, w ∈ wsL_law := fun _ h => List.mem_append_left _ (List.mem_append_left _ (List.mem_append_left _ (List.mem_append_left _ (List.mem_append_left _ (List.mem_append_left _ (List.mem_append_right _ h))))))
theorem inX6 : ∀ w ∈ wsX60, w ∈ lw_tb6 := fun w h => wsL_law_in w (inlX6 w h)
theorem inlX7 : ∀ w ∈ wsX70, w ∈ wsL_law := fun _ h => List.mem_append_left _ (List.mem_append_left _ (List.mem_append_left _ (List.mem_append_left _ (List.mem_append_left _ (List.mem_append_left _ (List.mem_append_left _ (List.mem_append_left _ (List.mem_append_left _ (List.mem_append_left _ (List.mem_append_left _ (List.mem_append_left _ (List.mem_append_left _ (List.mem_append_right _ h)))))))))))))
theorem inX7 : ∀ w ∈ wsX70, w ∈ lw_tb6 := fun w h => wsL_law_in w (inlX7 w h)
theorem inlJ0 : ∀ w ∈ wsJ00, w ∈ wsL_law := fun _ h => List.mem_append_left _ (List.mem_append_left _ (List.mem_append_left _ (List.mem_append_left _ (List.mem_append_right _ h))))
theorem inJ0 : ∀ w ∈ wsJ00, w ∈ lw_tb6 := fun w h => wsL_law_in w (inlJ0 w h)
theorem inlJ4 : ∀ w ∈ wsJ40, w ∈ wsL_law := fun _ h => List.mem_append_left _ (List.mem_append_left _ (List.mem_append_left _ (List.mem_append_left _ (List.mem_append_left _ (List.mem_append_right _ h)))))
theorem inJ4 : ∀ w ∈ wsJ40, w ∈ lw_tb6 := fun w h => wsL_law_in w (inlJ4 w h)
