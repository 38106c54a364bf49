theorem wsL_law_g0 : GoodIn lw_tbl wsL_law0 := goodIn_app (goodIn_app (goodIn_app (goodIn_app (goodIn_app wsL_law_p1 (goodIn_app wsL_law_p2 (goodIn_app wsL_law_p3 (goodIn_app wsL_law_p4 (goodIn_app wsL_law_p5 (goodIn_app wsL_law_p6 (goodIn_app wsL_law_p7 (goodIn_app wsL_law_p8 (goodIn_app wsL_law_p9 (goodIn_app wsL_law_p10 (goodIn_app wsL_law_p11 (goodIn_app wsL_law_p12 (goodIn_app wsL_law_p13 (goodIn_app wsL_law_p14 (goodIn_app wsL_law_p15 (goodIn_app wsL_law_p16 (goodIn_app wsL_law_p17 (goodIn_app wsL_law_p18 (goodIn_app wsL_law_p19 (goodIn_app wsL_law_p20 (goodIn_app wsL_law_p21 (goodIn_app wsL_law_p22 (goodIn_app wsL_law_p23 (goodIn_app wsL_law_p24 (goodIn_app wsL_law_p25 (goodIn_app wsL_law_p26 wsL_law_p27)))))))))))))))))))))))))) wsL_law_q1) wsL_law_q2) wsL_law_q0) (fun _ h => absurd h List.not_mem_nil)
theorem wsL_law_in0 : ∀ w ∈ wsL_law0, w ∈ lw_tbl := fun w h => (wsL_law_g0 w h).1
theorem wsL_law_x0 : ∀ w ∈ (vx_atS RX1 42 "java/lang/IllegalStateException" ["java/lang/RuntimeException", "java/lang/Exception"]).filter goodWord, w ∈ lw_tbl := by decide +kernel
theorem wsL_law_x1 : ∀ w ∈ (vx_atS RX1 179 "java/lang/IllegalArgumentException" ["java/lang/RuntimeException", "java/lang/Exception"]).filter goodWord, w ∈ lw_tbl := by decide +kernel
theorem wsL_law_x2 : ∀ w ∈ (vx_atS RX1 109 "java/lang/IndexOutOfBoundsException" ["java/lang/RuntimeException", "java/lang/Exception"]).filter goodWord, w ∈ lw_tbl := by decide +kernel
theorem wsL_law_in : ∀ w ∈ wsL_law, w ∈ lw_tbl := fun w h => (List.mem_append.mp h).elim (fun h => (List.mem_append.mp h).elim (fun h => (List.mem_append.mp h).elim (fun h => wsL_law_in0 w h) (fun h => wsL_law_x0 w h)) (fun h => wsL_law_x1 w h)) (fun h => wsL_law_x2 w h)
theorem inlX0 : ∀ w ∈ wsX00, w ∈ wsL_law := fun _ h => List.mem_append_left _ (List.mem_append_left _ (List.mem_append_left _ (List.mem_append_left _ (List.mem_append_right _ h))))
theorem inX0 : ∀ w ∈ wsX00, w ∈ lw_tbl := fun w h => wsL_law_in w (inlX0 w h)
theorem inlX1 : ∀ w ∈ wsX10, w ∈ wsL_law := fun _ h => List.mem_append_left _ (List.mem_append_left _ (List.mem_append_left _ (List.mem_append_left _ (List.mem_append_left _ (List.mem_append_left _ (List.mem_append_right _ h))))))
theorem inX1 : ∀ w ∈ wsX10, w ∈ lw_tbl := fun w h => wsL_law_in w (inlX1 w h)
theorem inlX2 : ∀ w ∈ wsX20, w ∈ wsL_law := fun _ h => List.mem_append_left _ (List.mem_append_left _ (List.mem_append_left _ (List.mem_append_left _ (List.mem_append_left _ (List.mem_append_right _ h)))))
theorem inX2 : ∀ w ∈ wsX20, w ∈ lw_tbl := fun w h => wsL_law_in w (inlX2 w h)
theorem inJx8e188 : ∀ w ∈ wsJx8e1880, w ∈ lw_tbl := by decide +kernel
theorem inJ9 : ∀ w ∈ wsJ90, w ∈ lw_tbl := by decide +kernel
theorem inJ0 : ∀ w ∈ wsJ00, w ∈ lw_tbl := by decide +kernel
theorem inJ10 : ∀ w ∈ wsJ100, w ∈ lw_tbl := by decide +kernel

