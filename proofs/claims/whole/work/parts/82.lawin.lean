set_option maxRecDepth 20000 in
theorem i_wsX60 : ∀ w ∈ wsX60, w ∈ lw_tbl := by decide +kernel
set_option maxRecDepth 20000 in
theorem i_wsX70 : ∀ w ∈ wsX70, w ∈ lw_tbl := by decide +kernel
set_option maxRecDepth 20000 in
theorem i_wsX00 : ∀ w ∈ wsX00, w ∈ lw_tbl := by decide +kernel
set_option maxRecDepth 20000 in
theorem i_wsX10 : ∀ w ∈ wsX10, w ∈ lw_tbl := by decide +kernel
set_option maxRecDepth 20000 in
theorem i_wsX40 : ∀ w ∈ wsX40, w ∈ lw_tbl := by decide +kernel
set_option maxRecDepth 20000 in
theorem i_wsX30 : ∀ w ∈ wsX30, w ∈ lw_tbl := by decide +kernel
set_option maxRecDepth 20000 in
theorem i_wsX50 : ∀ w ∈ wsX50, w ∈ lw_tbl := by decide +kernel
set_option maxRecDepth 20000 in
theorem i_wsX20 : ∀ w ∈ wsX20, w ∈ lw_tbl := by decide +kernel
set_option maxRecDepth 20000 in
theorem wsL_law_in : ∀ w ∈ wsL_law, w ∈ lw_tbl := (List.forall_mem_append.mpr ⟨(List.forall_mem_append.mpr ⟨(List.forall_mem_append.mpr ⟨(List.forall_mem_append.mpr ⟨(List.forall_mem_append.mpr ⟨(List.forall_mem_append.mpr ⟨(List.forall_mem_append.mpr ⟨(List.forall_mem_append.mpr ⟨(List.forall_mem_append.mpr ⟨(List.forall_mem_append.mpr ⟨i_wsL_law_r1, (List.forall_mem_append.mpr ⟨i_wsL_law_r2, (List.forall_mem_append.mpr ⟨i_wsL_law_r3, (List.forall_mem_append.mpr ⟨i_wsL_law_r4, (List.forall_mem_append.mpr ⟨i_wsL_law_r5, (List.forall_mem_append.mpr ⟨i_wsL_law_r6, (List.forall_mem_append.mpr ⟨i_wsL_law_r7, (List.forall_mem_append.mpr ⟨i_wsL_law_r8, (List.forall_mem_append.mpr ⟨i_wsL_law_r9, (List.forall_mem_append.mpr ⟨i_wsL_law_r10, (List.forall_mem_append.mpr ⟨i_wsL_law_r11, (List.forall_mem_append.mpr ⟨i_wsL_law_r12, (List.forall_mem_append.mpr ⟨i_wsL_law_r13, (List.forall_mem_append.mpr ⟨i_wsL_law_r14, (List.forall_mem_append.mpr ⟨i_wsL_law_r15, (List.forall_mem_append.mpr ⟨i_wsL_law_r16, (List.forall_mem_append.mpr ⟨i_wsL_law_r17, (List.forall_mem_append.mpr ⟨i_wsL_law_r18, (List.forall_mem_append.mpr ⟨i_wsL_law_r19, (List.forall_mem_append.mpr ⟨i_wsL_law_r20, (List.forall_mem_append.mpr ⟨i_wsL_law_r21, (List.forall_mem_append.mpr ⟨i_wsL_law_r22, (List.forall_mem_append.mpr ⟨i_wsL_law_r23, (List.forall_mem_append.mpr ⟨i_wsL_law_r24, (List.forall_mem_append.mpr ⟨i_wsL_law_r25, (List.forall_mem_append.mpr ⟨i_wsL_law_r26, (List.forall_mem_append.mpr ⟨i_wsL_law_r27, (List.forall_mem_append.mpr ⟨i_wsL_law_r28, (List.forall_mem_append.mpr ⟨i_wsL_law_r29, (List.forall_mem_append.mpr ⟨i_wsL_law_r30, (List.forall_mem_append.mpr ⟨i_wsL_law_r31, (List.forall_mem_append.mpr ⟨i_wsL_law_r32, (List.forall_mem_append.mpr ⟨i_wsL_law_r33, i_wsL_law_r34⟩)⟩)⟩)⟩)⟩)⟩)⟩)⟩)⟩)⟩)⟩)⟩)⟩)⟩)⟩)⟩)⟩)⟩)⟩)⟩)⟩)⟩)⟩)⟩)⟩)⟩)⟩)⟩)⟩)⟩)⟩)⟩)⟩), i_wsX60⟩), i_wsX70⟩), i_wsX00⟩), i_wsX10⟩), i_wsX40⟩), i_wsX30⟩), i_wsX50⟩), i_wsX20⟩), (fun _ h => absurd h List.not_mem_nil)⟩)
theorem inlX0 : ∀ w ∈ wsX00, w ∈ wsL_law := fun _ h => List.mem_append_left _ (List.mem_append_left _ (List.mem_append_left _ (List.mem_append_left _ (List.mem_append_left _ (List.mem_append_left _ (List.mem_append_right _ h))))))
theorem inlX1 : ∀ w ∈ wsX10, w ∈ wsL_law := fun _ h => List.mem_append_left _ (List.mem_append_left _ (List.mem_append_left _ (List.mem_append_left _ (List.mem_append_left _ (List.mem_append_right _ h)))))
theorem inlX2 : ∀ w ∈ wsX20, w ∈ wsL_law := fun _ h => List.mem_append_left _ (List.mem_append_right _ h)
theorem inlX3 : ∀ w ∈ wsX30, w ∈ wsL_law := fun _ h => List.mem_append_left _ (List.mem_append_left _ (List.mem_append_left _ (List.mem_append_right _ h)))
theorem inlX4 : ∀ w ∈ wsX40, w ∈ wsL_law := fun _ h => List.mem_append_left _ (List.mem_append_left _ (List.mem_append_left _ (List.mem_append_left _ (List.mem_append_right _ h))))
theorem inlX5 : ∀ w ∈ wsX50, w ∈ wsL_law := fun _ h => List.mem_append_left _ (List.mem_append_left _ (List.mem_append_right _ h))
theorem inlX6 : ∀ w ∈ wsX60, w ∈ wsL_law := fun _ h => List.mem_append_left _ (List.mem_append_left _ (List.mem_append_left _ (List.mem_append_left _ (List.mem_append_left _ (List.mem_append_left _ (List.mem_append_left _ (List.mem_append_left _ (List.mem_append_right _ h))))))))
theorem inlX7 : ∀ w ∈ wsX70, w ∈ wsL_law := fun _ h => List.mem_append_left _ (List.mem_append_left _ (List.mem_append_left _ (List.mem_append_left _ (List.mem_append_left _ (List.mem_append_left _ (List.mem_append_left _ (List.mem_append_right _ h)))))))
