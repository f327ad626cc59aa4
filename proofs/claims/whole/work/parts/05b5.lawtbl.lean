set_option maxRecDepth 100000 in
theorem inb_wsX70 : ∀ w ∈ wsX70, w ∈ lw_tbl := by decide +kernel
set_option maxRecDepth 100000 in
theorem inb_wsX80 : ∀ w ∈ wsX80, w ∈ lw_tbl := by decide +kernel
set_option maxRecDepth 100000 in
theorem inb_wsX50 : ∀ w ∈ wsX50, w ∈ lw_tbl := by decide +kernel
set_option maxRecDepth 100000 in
theorem inb_wsX40 : ∀ w ∈ wsX40, w ∈ lw_tbl := by decide +kernel
set_option maxRecDepth 100000 in
theorem inb_wsX60 : ∀ w ∈ wsX60, w ∈ lw_tbl := by decide +kernel
set_option maxRecDepth 100000 in
theorem inb_wsX00 : ∀ w ∈ wsX00, w ∈ lw_tbl := by decide +kernel
set_option maxRecDepth 100000 in
theorem inb_wsX20 : ∀ w ∈ wsX20, w ∈ lw_tbl := by decide +kernel
set_option maxRecDepth 100000 in
theorem inb_wsX10 : ∀ w ∈ wsX10, w ∈ lw_tbl := by decide +kernel
set_option maxRecDepth 100000 in
theorem inb_wsX30 : ∀ w ∈ wsX30, w ∈ lw_tbl := by decide +kernel
set_option maxRecDepth 100000 in
theorem inb_e0 : ∀ w ∈ (vx_atE RX7 80 "java/lang/IllegalArgumentException" ["java/lang/RuntimeException", "java/lang/Exception"]).filter goodWord, w ∈ lw_tbl := by decide +kernel
set_option maxRecDepth 100000 in
theorem inb_e1 : ∀ w ∈ (vx_atE RX7 91 "java/lang/IllegalStateException" ["java/lang/RuntimeException", "java/lang/Exception"]).filter goodWord, w ∈ lw_tbl := by decide +kernel
set_option maxRecDepth 100000 in
theorem inb_e2 : ∀ w ∈ (vx_atE RX7 287 "java/lang/IndexOutOfBoundsException" ["java/lang/RuntimeException", "java/lang/Exception"]).filter goodWord, w ∈ lw_tbl := by decide +kernel
set_option maxRecDepth 100000 in
theorem inb_e3 : ∀ w ∈ (vx_atE RX7 144 "java/lang/UnsupportedOperationException" ["java/lang/RuntimeException", "java/lang/Exception"]).filter goodWord, w ∈ lw_tbl := by decide +kernel
set_option maxRecDepth 100000 in
theorem inb_e4 : ∀ w ∈ (vx_atE RX7 175 "java/util/NoSuchElementException" ["java/lang/RuntimeException", "java/lang/Exception"]).filter goodWord, w ∈ lw_tbl := by decide +kernel
theorem wsL_law0_in : ∀ w ∈ wsL_law0, w ∈ lw_tbl := List.forall_mem_append.mpr ⟨List.forall_mem_append.mpr ⟨List.forall_mem_append.mpr ⟨List.forall_mem_append.mpr ⟨List.forall_mem_append.mpr ⟨List.forall_mem_append.mpr ⟨List.forall_mem_append.mpr ⟨List.forall_mem_append.mpr ⟨List.forall_mem_append.mpr ⟨List.forall_mem_append.mpr ⟨List.forall_mem_append.mpr ⟨inb_r1, List.forall_mem_append.mpr ⟨inb_r2, List.forall_mem_append.mpr ⟨inb_r3, List.forall_mem_append.mpr ⟨inb_r4, List.forall_mem_append.mpr ⟨inb_r5, List.forall_mem_append.mpr ⟨inb_r6, List.forall_mem_append.mpr ⟨inb_r7, List.forall_mem_append.mpr ⟨inb_r8, List.forall_mem_append.mpr ⟨inb_r9, List.forall_mem_append.mpr ⟨inb_r10, List.forall_mem_append.mpr ⟨inb_r11, List.forall_mem_append.mpr ⟨inb_r12, List.forall_mem_append.mpr ⟨inb_r13, List.forall_mem_append.mpr ⟨inb_r14, List.forall_mem_append.mpr ⟨inb_r15, List.forall_mem_append.mpr ⟨inb_r16, List.forall_mem_append.mpr ⟨inb_r17, List.forall_mem_append.mpr ⟨inb_r18, List.forall_mem_append.mpr ⟨inb_r19, List.forall_mem_append.mpr ⟨inb_r20, List.forall_mem_append.mpr ⟨inb_r21, List.forall_mem_append.mpr ⟨inb_r22, List.forall_mem_append.mpr ⟨inb_r23, List.forall_mem_append.mpr ⟨inb_r24, List.forall_mem_append.mpr ⟨inb_r25, List.forall_mem_append.mpr ⟨inb_r26, List.forall_mem_append.mpr ⟨inb_r27, List.forall_mem_append.mpr ⟨inb_r28, List.forall_mem_append.mpr ⟨inb_r29, List.forall_mem_append.mpr ⟨inb_r30, List.forall_mem_append.mpr ⟨inb_r31, List.forall_mem_append.mpr ⟨inb_r32, List.forall_mem_append.mpr ⟨inb_r33, List.forall_mem_append.mpr ⟨inb_r34, inb_r35⟩⟩⟩⟩⟩⟩⟩⟩⟩⟩⟩⟩⟩⟩⟩⟩⟩⟩⟩⟩⟩⟩⟩⟩⟩⟩⟩⟩⟩⟩⟩⟩⟩⟩, inb_wsX70⟩, inb_wsX80⟩, inb_wsX50⟩, inb_wsX40⟩, inb_wsX60⟩, inb_wsX00⟩, inb_wsX20⟩, inb_wsX10⟩, inb_wsX30⟩, nlt_⟩
theorem wsL_law_in : ∀ w ∈ wsL_law, w ∈ lw_tbl := List.forall_mem_append.mpr ⟨List.forall_mem_append.mpr ⟨List.forall_mem_append.mpr ⟨List.forall_mem_append.mpr ⟨List.forall_mem_append.mpr ⟨wsL_law0_in, inb_e0⟩, inb_e1⟩, inb_e2⟩, inb_e3⟩, inb_e4⟩
