/-! places in the lists of members of nest mates, of strings, of exceptions -/
theorem nf_0 : (RX7, 112, "ReviewBench$Change", "draft", "LReviewBench$Text;") ∈ gNF := List.mem_of_getElem? (i := 0) rfl
theorem nf_1 : (RX7, 124, "ReviewBench$Change", "roundCount", "I") ∈ gNF := List.mem_of_getElem? (i := 1) rfl
theorem nf_2 : (RX7, 145, "ReviewBench$Change", "before", "I") ∈ gNF := List.mem_of_getElem? (i := 2) rfl
theorem nf_3 : (RX7, 160, "ReviewBench$Change", "priority", "I") ∈ gNF := List.mem_of_getElem? (i := 3) rfl
theorem nf_4 : (RX7, 188, "ReviewBench$Remark", "resolved", "Z") ∈ gNF := List.mem_of_getElem? (i := 4) rfl
theorem nf_5 : (RX7, 194, "ReviewBench$Remark", "change", "LReviewBench$Change;") ∈ gNF := List.mem_of_getElem? (i := 5) rfl
theorem nf_6 : (RX7, 204, "ReviewBench$Change", "author", "I") ∈ gNF := List.mem_of_getElem? (i := 6) rfl
theorem nf_7 : (RX7, 209, "ReviewBench$Change", "approvedRounds", "[I") ∈ gNF := List.mem_of_getElem? (i := 7) rfl
theorem nf_8 : (RX7, 301, "ReviewBench$Change", "landed", "Z") ∈ gNF := List.mem_of_getElem? (i := 8) rfl
theorem nf_9 : (RX7, 314, "ReviewBench$Remark", "round", "I") ∈ gNF := List.mem_of_getElem? (i := 9) rfl
theorem nf_10 : (RX7, 325, "ReviewBench$Change", "base", "LReviewBench$Text;") ∈ gNF := List.mem_of_getElem? (i := 10) rfl
theorem nf_11 : (RX7, 332, "ReviewBench$Merger", "conflict", "Z") ∈ gNF := List.mem_of_getElem? (i := 11) rfl
theorem nf_12 : (RX7, 335, "ReviewBench$Merger", "merged", "LReviewBench$Text;") ∈ gNF := List.mem_of_getElem? (i := 12) rfl
theorem nf_13 : (RX7, 342, "ReviewBench$Change", "number", "I") ∈ gNF := List.mem_of_getElem? (i := 13) rfl
theorem nf_14 : (RX7, 357, "ReviewBench$Remark", "line", "I") ∈ gNF := List.mem_of_getElem? (i := 14) rfl
theorem nm_0 : (RX7, 11, yX5_init) ∈ gNM := List.mem_of_getElem? (i := 0) rfl
theorem nm_1 : (RX7, 37, yX4_init) ∈ gNM := List.mem_of_getElem? (i := 1) rfl
theorem nm_2 : (RX7, 44, yX6_init) ∈ gNM := List.mem_of_getElem? (i := 2) rfl
theorem nm_3 : (RX7, 51, yX0_init) ∈ gNM := List.mem_of_getElem? (i := 3) rfl
theorem nm_4 : (RX7, 58, yX2_init) ∈ gNM := List.mem_of_getElem? (i := 4) rfl
theorem nm_5 : (RX0, 33, yX7_place) ∈ gNM := List.mem_of_getElem? (i := 5) rfl
theorem nm_6 : (RX0, 37, yX7_cell) ∈ gNM := List.mem_of_getElem? (i := 6) rfl
theorem nm_7 : (RX0, 46, yX7_put) ∈ gNM := List.mem_of_getElem? (i := 7) rfl
theorem nm_8 : (RX1, 11, yX5_init) ∈ gNM := List.mem_of_getElem? (i := 8) rfl
theorem nm_9 : (RX1, 59, yX7_cell) ∈ gNM := List.mem_of_getElem? (i := 9) rfl
theorem nm_10 : (RX1, 63, yX7_withBit) ∈ gNM := List.mem_of_getElem? (i := 10) rfl
theorem nm_11 : (RX2, 11, yX4_init) ∈ gNM := List.mem_of_getElem? (i := 11) rfl
theorem nm_12 : (RX2, 23, yX5_init) ∈ gNM := List.mem_of_getElem? (i := 12) rfl
theorem nm_13 : (RX4, 32, yX7_cell) ∈ gNM := List.mem_of_getElem? (i := 13) rfl
theorem nm_14 : (RX4, 45, yX7_place) ∈ gNM := List.mem_of_getElem? (i := 14) rfl
theorem nm_15 : (RX4, 54, yX7_put) ∈ gNM := List.mem_of_getElem? (i := 15) rfl
theorem nm_16 : (RX5, 19, yX7_put) ∈ gNM := List.mem_of_getElem? (i := 16) rfl
theorem nm_17 : (RX6, 21, yX7_put) ∈ gNM := List.mem_of_getElem? (i := 17) rfl
theorem nm_18 : (RX6, 33, yX7_cell) ∈ gNM := List.mem_of_getElem? (i := 18) rfl
theorem st_0 : (78, "the low content is greater than the high one") ∈ gST := List.mem_of_getElem? (i := 0) rfl
theorem st_1 : (89, "all ranges are given") ∈ gST := List.mem_of_getElem? (i := 1) rfl
theorem st_2 : (99, "all changes are open") ∈ gST := List.mem_of_getElem? (i := 2) rfl
theorem st_3 : (119, "the draft is full") ∈ gST := List.mem_of_getElem? (i := 3) rfl
theorem st_4 : (127, "the change has all its rounds") ∈ gST := List.mem_of_getElem? (i := 4) rfl
theorem st_5 : (142, "a change can't land after itself") ∈ gST := List.mem_of_getElem? (i := 5) rfl
theorem st_6 : (158, "no such priority") ∈ gST := List.mem_of_getElem? (i := 6) rfl
theorem st_7 : (173, "no such line in the present round") ∈ gST := List.mem_of_getElem? (i := 7) rfl
theorem st_8 : (179, "all comments are made") ∈ gST := List.mem_of_getElem? (i := 8) rfl
theorem st_9 : (192, "the comment is resolved") ∈ gST := List.mem_of_getElem? (i := 9) rfl
theorem st_10 : (207, "the author can't approve") ∈ gST := List.mem_of_getElem? (i := 10) rfl
theorem st_11 : (223, "there is a reason against landing") ∈ gST := List.mem_of_getElem? (i := 11) rfl
theorem st_12 : (231, "there is no reason against landing") ∈ gST := List.mem_of_getElem? (i := 12) rfl
theorem st_13 : (236, "no approval is missing") ∈ gST := List.mem_of_getElem? (i := 13) rfl
theorem st_14 : (238, "no such position") ∈ gST := List.mem_of_getElem? (i := 14) rfl
theorem st_15 : (264, "the line has no owner") ∈ gST := List.mem_of_getElem? (i := 15) rfl
theorem st_16 : (285, "no such change") ∈ gST := List.mem_of_getElem? (i := 16) rfl
theorem st_17 : (288, "no such comment") ∈ gST := List.mem_of_getElem? (i := 17) rfl
theorem st_18 : (297, "no such user") ∈ gST := List.mem_of_getElem? (i := 18) rfl
theorem st_19 : (299, "no such content") ∈ gST := List.mem_of_getElem? (i := 19) rfl
theorem st_20 : (304, "the change has landed") ∈ gST := List.mem_of_getElem? (i := 20) rfl
theorem st_21 : (306, "the change has no round") ∈ gST := List.mem_of_getElem? (i := 21) rfl
theorem st_22 : (308, "the change has no such round") ∈ gST := List.mem_of_getElem? (i := 22) rfl
theorem st_23 : (310, "no such line") ∈ gST := List.mem_of_getElem? (i := 23) rfl
theorem st_24 : (312, "the user has not approved the change") ∈ gST := List.mem_of_getElem? (i := 24) rfl
theorem st_25 : (317, "the comment was made in a later round") ∈ gST := List.mem_of_getElem? (i := 25) rfl
theorem st_26 : (319, "the comment is gone") ∈ gST := List.mem_of_getElem? (i := 26) rfl
theorem ex_0 : "java/lang/IllegalArgumentException" ∈ gEX := List.mem_of_getElem? (i := 0) rfl
theorem ex_1 : "java/lang/IllegalStateException" ∈ gEX := List.mem_of_getElem? (i := 1) rfl
theorem ex_2 : "java/lang/IndexOutOfBoundsException" ∈ gEX := List.mem_of_getElem? (i := 2) rfl
theorem ex_3 : "java/lang/UnsupportedOperationException" ∈ gEX := List.mem_of_getElem? (i := 3) rfl
theorem ex_4 : "java/util/NoSuchElementException" ∈ gEX := List.mem_of_getElem? (i := 4) rfl
theorem nmw_0 {Z : gZ} {U : State} (h : gN Z U) : va_Nw (.methodLinkNest RX7 11 yX5_init "ReviewBench") U := by
  have h2 := h.2.1 (RX7, 11, yX5_init) nm_0
  exact h2
theorem nmw_1 {Z : gZ} {U : State} (h : gN Z U) : va_Nw (.methodLinkNest RX7 37 yX4_init "ReviewBench") U := by
  have h2 := h.2.1 (RX7, 37, yX4_init) nm_1
  exact h2
theorem nmw_2 {Z : gZ} {U : State} (h : gN Z U) : va_Nw (.methodLinkNest RX7 44 yX6_init "ReviewBench") U := by
  have h2 := h.2.1 (RX7, 44, yX6_init) nm_2
  exact h2
theorem nmw_3 {Z : gZ} {U : State} (h : gN Z U) : va_Nw (.methodLinkNest RX7 51 yX0_init "ReviewBench") U := by
  have h2 := h.2.1 (RX7, 51, yX0_init) nm_3
  exact h2
theorem nmw_4 {Z : gZ} {U : State} (h : gN Z U) : va_Nw (.methodLinkNest RX7 58 yX2_init "ReviewBench") U := by
  have h2 := h.2.1 (RX7, 58, yX2_init) nm_4
  exact h2
theorem nmw_5 {Z : gZ} {U : State} (h : gN Z U) : va_Nw (.methodLinkNest RX0 33 yX7_place "ReviewBench") U := by
  have h2 := h.2.1 (RX0, 33, yX7_place) nm_5
  exact h2
theorem nmw_6 {Z : gZ} {U : State} (h : gN Z U) : va_Nw (.methodLinkNest RX0 37 yX7_cell "ReviewBench") U := by
  have h2 := h.2.1 (RX0, 37, yX7_cell) nm_6
  exact h2
theorem nmw_7 {Z : gZ} {U : State} (h : gN Z U) : va_Nw (.methodLinkNest RX0 46 yX7_put "ReviewBench") U := by
  have h2 := h.2.1 (RX0, 46, yX7_put) nm_7
  exact h2
theorem nmw_8 {Z : gZ} {U : State} (h : gN Z U) : va_Nw (.methodLinkNest RX1 11 yX5_init "ReviewBench") U := by
  have h2 := h.2.1 (RX1, 11, yX5_init) nm_8
  exact h2
theorem nmw_9 {Z : gZ} {U : State} (h : gN Z U) : va_Nw (.methodLinkNest RX1 59 yX7_cell "ReviewBench") U := by
  have h2 := h.2.1 (RX1, 59, yX7_cell) nm_9
  exact h2
theorem nmw_10 {Z : gZ} {U : State} (h : gN Z U) : va_Nw (.methodLinkNest RX1 63 yX7_withBit "ReviewBench") U := by
  have h2 := h.2.1 (RX1, 63, yX7_withBit) nm_10
  exact h2
theorem nmw_11 {Z : gZ} {U : State} (h : gN Z U) : va_Nw (.methodLinkNest RX2 11 yX4_init "ReviewBench") U := by
  have h2 := h.2.1 (RX2, 11, yX4_init) nm_11
  exact h2
theorem nmw_12 {Z : gZ} {U : State} (h : gN Z U) : va_Nw (.methodLinkNest RX2 23 yX5_init "ReviewBench") U := by
  have h2 := h.2.1 (RX2, 23, yX5_init) nm_12
  exact h2
theorem nmw_13 {Z : gZ} {U : State} (h : gN Z U) : va_Nw (.methodLinkNest RX4 32 yX7_cell "ReviewBench") U := by
  have h2 := h.2.1 (RX4, 32, yX7_cell) nm_13
  exact h2
theorem nmw_14 {Z : gZ} {U : State} (h : gN Z U) : va_Nw (.methodLinkNest RX4 45 yX7_place "ReviewBench") U := by
  have h2 := h.2.1 (RX4, 45, yX7_place) nm_14
  exact h2
theorem nmw_15 {Z : gZ} {U : State} (h : gN Z U) : va_Nw (.methodLinkNest RX4 54 yX7_put "ReviewBench") U := by
  have h2 := h.2.1 (RX4, 54, yX7_put) nm_15
  exact h2
theorem nmw_16 {Z : gZ} {U : State} (h : gN Z U) : va_Nw (.methodLinkNest RX5 19 yX7_put "ReviewBench") U := by
  have h2 := h.2.1 (RX5, 19, yX7_put) nm_16
  exact h2
theorem nmw_17 {Z : gZ} {U : State} (h : gN Z U) : va_Nw (.methodLinkNest RX6 21 yX7_put "ReviewBench") U := by
  have h2 := h.2.1 (RX6, 21, yX7_put) nm_17
  exact h2
theorem nmw_18 {Z : gZ} {U : State} (h : gN Z U) : va_Nw (.methodLinkNest RX6 33 yX7_cell "ReviewBench") U := by
  have h2 := h.2.1 (RX6, 33, yX7_cell) nm_18
  exact h2
