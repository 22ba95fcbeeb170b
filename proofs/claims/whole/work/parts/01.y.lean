theorem ap2 {a b c : List Cond} (h : ∀ w ∈ a, w ∈ c) (k : ∀ w ∈ b, w ∈ c) : ∀ w ∈ a ++ b, w ∈ c := fun w q => (List.mem_append.mp q).elim (h w) (k w)
theorem in_twsX80 : ∀ w ∈ wsX80, w ∈ lw_tbl := by decide +kernel
theorem in_twsX90 : ∀ w ∈ wsX90, w ∈ lw_tbl := by decide +kernel
theorem in_twsX40 : ∀ w ∈ wsX40, w ∈ lw_tbl := by decide +kernel
theorem in_twsX10 : ∀ w ∈ wsX10, w ∈ lw_tbl := by decide +kernel
theorem in_twsX30 : ∀ w ∈ wsX30, w ∈ lw_tbl := by decide +kernel
theorem in_twsX60 : ∀ w ∈ wsX60, w ∈ lw_tbl := by decide +kernel
theorem in_twsX00 : ∀ w ∈ wsX00, w ∈ lw_tbl := by decide +kernel
theorem in_twsX70 : ∀ w ∈ wsX70, w ∈ lw_tbl := by decide +kernel
theorem wsL_law_in : ∀ w ∈ wsL_law, w ∈ lw_tbl := ap2 (ap2 (ap2 (ap2 (ap2 (ap2 (ap2 (ap2 (ap2 (ap2 in_wsL_law_r1 (ap2 in_wsL_law_r2 (ap2 in_wsL_law_r3 (ap2 in_wsL_law_r4 (ap2 in_wsL_law_r5 (ap2 in_wsL_law_r6 (ap2 in_wsL_law_r7 (ap2 in_wsL_law_r8 (ap2 in_wsL_law_r9 (ap2 in_wsL_law_r10 (ap2 in_wsL_law_r11 (ap2 in_wsL_law_r12 (ap2 in_wsL_law_r13 (ap2 in_wsL_law_r14 (ap2 in_wsL_law_r15 (ap2 in_wsL_law_r16 (ap2 in_wsL_law_r17 (ap2 in_wsL_law_r18 (ap2 in_wsL_law_r19 (ap2 in_wsL_law_r20 (ap2 in_wsL_law_r21 (ap2 in_wsL_law_r22 (ap2 in_wsL_law_r23 (ap2 in_wsL_law_r24 (ap2 in_wsL_law_r25 (ap2 in_wsL_law_r26 (in_wsL_law_r27))))))))))))))))))))))))))) in_twsX80) in_twsX90) in_twsX40) in_twsX10) in_twsX30) in_twsX60) in_twsX00) in_twsX70) (fun _ h => absurd h List.not_mem_nil)
theorem inlX0 : ∀ w ∈ wsX00, w ∈ wsL_law := fun _ h => List.mem_append_left _ (List.mem_append_left _ (List.mem_append_right _ h))
theorem inX0 : ∀ w ∈ wsX00, w ∈ lw_tbl := fun w h => wsL_law_in w (inlX0 w h)
theorem inlX1 : ∀ w ∈ wsX10, w ∈ wsL_law := fun _ h => List.mem_append_left _ (List.mem_append_left _ (List.mem_append_left _ (List.mem_append_left _ (List.mem_append_left _ (List.mem_append_right _ h)))))
theorem inX1 : ∀ w ∈ wsX10, w ∈ lw_tbl := fun w h => wsL_law_in w (inlX1 w h)
theorem inX2 : ∀ w ∈ wsX20, w ∈ lw_tbl := by decide +kernel
theorem inlX3 : ∀ w ∈ wsX30, w ∈ wsL_law := fun _ h => List.mem_append_left _ (List.mem_append_left _ (List.mem_append_left _ (List.mem_append_left _ (List.mem_append_right _ h))))
theorem inX3 : ∀ w ∈ wsX30, w ∈ lw_tbl := fun w h => wsL_law_in w (inlX3 w h)
theorem inlX4 : ∀ w ∈ wsX40, w ∈ wsL_law := fun _ h => List.mem_append_left _ (List.mem_append_left _ (List.mem_append_left _ (List.mem_append_left _ (List.mem_append_left _ (List.mem_append_left _ (List.mem_append_right _ h))))))
theorem inX4 : ∀ w ∈ wsX40, w ∈ lw_tbl := fun w h => wsL_law_in w (inlX4 w h)
theorem inX5 : ∀ w ∈ wsX50, w ∈ lw_tbl := by decide +kernel
theorem inlX6 : ∀ w ∈ wsX60, w ∈ wsL_law := fun _ h => List.mem_append_left _ (List.mem_append_left _ (List.mem_append_left _ (List.mem_append_right _ h)))
theorem inX6 : ∀ w ∈ wsX60, w ∈ lw_tbl := fun w h => wsL_law_in w (inlX6 w h)
theorem inlX7 : ∀ w ∈ wsX70, w ∈ wsL_law := fun _ h => List.mem_append_left _ (List.mem_append_right _ h)
theorem inX7 : ∀ w ∈ wsX70, w ∈ lw_tbl := fun w h => wsL_law_in w (inlX7 w h)
theorem inlX8 : ∀ w ∈ wsX80, w ∈ wsL_law := fun _ h => List.mem_append_left _ (List.mem_append_left _ (List.mem_append_left _ (List.mem_append_left _ (List.mem_append_left _ (List.mem_append_left _ (List.mem_append_left _ (List.mem_append_left _ (List.mem_append_right _ h))))))))
theorem inX8 : ∀ w ∈ wsX80, w ∈ lw_tbl := fun w h => wsL_law_in w (inlX8 w h)
theorem inlX9 : ∀ w ∈ wsX90, w ∈ wsL_law := fun _ h => List.mem_append_left _ (List.mem_append_left _ (List.mem_append_left _ (List.mem_append_left _ (List.mem_append_left _ (List.mem_append_left _ (List.mem_append_left _ (List.mem_append_right _ h)))))))
theorem inX9 : ∀ w ∈ wsX90, w ∈ lw_tbl := fun w h => wsL_law_in w (inlX9 w h)
theorem inJx145de : ∀ w ∈ wsJx145de0, w ∈ lw_tbl := by decide +kernel
theorem inJxb160c : ∀ w ∈ wsJxb160c0, w ∈ lw_tbl := by decide +kernel
theorem inJxe99ae : ∀ w ∈ wsJxe99ae0, w ∈ lw_tbl := by decide +kernel
theorem inJx29ce0 : ∀ w ∈ wsJx29ce00, w ∈ lw_tbl := by decide +kernel
theorem inJxf58ca : ∀ w ∈ wsJxf58ca0, w ∈ lw_tbl := by decide +kernel
theorem inJ9 : ∀ w ∈ wsJ90, w ∈ lw_tbl := by decide +kernel
theorem inJxd2413 : ∀ w ∈ wsJxd24130, w ∈ lw_tbl := by decide +kernel
theorem inJxfd54e : ∀ w ∈ wsJxfd54e0, w ∈ lw_tbl := by decide +kernel
theorem inJx3cf43 : ∀ w ∈ wsJx3cf430, w ∈ lw_tbl := by decide +kernel
theorem inJ7 : ∀ w ∈ wsJ70, w ∈ lw_tbl := by decide +kernel
