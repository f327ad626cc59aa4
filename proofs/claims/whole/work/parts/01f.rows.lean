theorem dX7_editsByWays_0 : decode cX7_editsByWays 0 = .ok (.aload_n 0, 1) := by decide +kernel
theorem dX7_editsByWays_1 : decode cX7_editsByWays 1 = .ok (.iload_n 1, 1) := by decide +kernel
theorem dX7_editsByWays_2 : decode cX7_editsByWays 2 = .ok (.invokevirtual 104, 3) := by decide +kernel
theorem dX7_editsByWays_5 : decode cX7_editsByWays 5 = .ok (.astore 4, 2) := by decide +kernel
theorem dX7_editsByWays_7 : decode cX7_editsByWays 7 = .ok (.aload_n 0, 1) := by decide +kernel
theorem dX7_editsByWays_8 : decode cX7_editsByWays 8 = .ok (.getfield 45, 3) := by decide +kernel
theorem dX7_editsByWays_11 : decode cX7_editsByWays 11 = .ok (.aload 4, 2) := by decide +kernel
theorem dX7_editsByWays_13 : decode cX7_editsByWays 13 = .ok (.iload_n 2, 1) := by decide +kernel
theorem dX7_editsByWays_14 : decode cX7_editsByWays 14 = .ok (.invokestatic 251, 3) := by decide +kernel
theorem dX7_editsByWays_17 : decode cX7_editsByWays 17 = .ok (.aload 4, 2) := by decide +kernel
theorem dX7_editsByWays_19 : decode cX7_editsByWays 19 = .ok (.iload_n 3, 1) := by decide +kernel
theorem dX7_editsByWays_20 : decode cX7_editsByWays 20 = .ok (.invokestatic 251, 3) := by decide +kernel
theorem dX7_editsByWays_23 : decode cX7_editsByWays 23 = .ok (.invokevirtual 260, 3) := by decide +kernel
theorem dX7_editsByWays_26 : decode cX7_editsByWays 26 = .ok (.ireturn, 1) := by decide +kernel
set_option maxRecDepth 20000 in
theorem ggX7_ownerOf_X7_checkContent : GoodIn wsX7_ownerOf wsX7_checkContent := goodIn_ca (goodIn_r _ [7, 8, 9] (by decide +kernel) (by decide +kernel)) (goodIn_sub (fun _ h => List.mem_cons_of_mem _ (List.mem_append_right _ h)) (by decide +kernel))
set_option maxRecDepth 20000 in
theorem gX7_ownerOf_X7_checkContent : GoodIn wsX7_ownerOf (va_wsS RX7 73 yX7_checkContent wsX7_checkContent) := goodIn_app (goodIn_of _ (by decide +kernel)) ggX7_ownerOf_X7_checkContent
set_option maxRecDepth 20000 in
theorem ggX7_ownerOf_X7_cell : GoodIn wsX7_ownerOf wsX7_cell := goodIn_r _ [12] (by decide +kernel) (by decide +kernel)
set_option maxRecDepth 20000 in
theorem gX7_ownerOf_X7_cell : GoodIn wsX7_ownerOf (va_wsS RX7 240 yX7_cell wsX7_cell) := goodIn_app (goodIn_of _ (by decide +kernel)) ggX7_ownerOf_X7_cell
theorem dX7_ownerOf_0 : decode cX7_ownerOf 0 = .ok (.iload_n 1, 1) := by decide +kernel
theorem dX7_ownerOf_1 : decode cX7_ownerOf 1 = .ok (.invokestatic 73, 3) := by decide +kernel
theorem dX7_ownerOf_4 : decode cX7_ownerOf 4 = .ok (.aload_n 0, 1) := by decide +kernel
theorem dX7_ownerOf_5 : decode cX7_ownerOf 5 = .ok (.getfield 16, 3) := by decide +kernel
theorem dX7_ownerOf_8 : decode cX7_ownerOf 8 = .ok (.iload_n 1, 1) := by decide +kernel
theorem dX7_ownerOf_9 : decode cX7_ownerOf 9 = .ok (.invokestatic 240, 3) := by decide +kernel
theorem dX7_ownerOf_12 : decode cX7_ownerOf 12 = .ok (.istore_n 2, 1) := by decide +kernel
theorem dX7_ownerOf_13 : decode cX7_ownerOf 13 = .ok (.iload_n 2, 1) := by decide +kernel
theorem dX7_ownerOf_14 : decode cX7_ownerOf 14 = .ok (.iconst (-1), 1) := by decide +kernel
theorem dX7_ownerOf_15 : decode cX7_ownerOf 15 = .ok (.if_icmp .ne 14, 3) := by decide +kernel
theorem dX7_ownerOf_18 : decode cX7_ownerOf 18 = .ok (.new 171, 3) := by decide +kernel
theorem dX7_ownerOf_21 : decode cX7_ownerOf 21 = .ok (.dup, 1) := by decide +kernel
theorem dX7_ownerOf_22 : decode cX7_ownerOf 22 = .ok (.ldc_w 264, 3) := by decide +kernel
theorem dX7_ownerOf_25 : decode cX7_ownerOf 25 = .ok (.invokespecial 175, 3) := by decide +kernel
theorem dX7_ownerOf_28 : decode cX7_ownerOf 28 = .ok (.athrow, 1) := by decide +kernel
theorem dX7_ownerOf_29 : decode cX7_ownerOf 29 = .ok (.iload_n 2, 1) := by decide +kernel
theorem dX7_ownerOf_30 : decode cX7_ownerOf 30 = .ok (.ireturn, 1) := by decide +kernel
set_option maxRecDepth 20000 in
theorem ggX7_needs_X7_changeOf : GoodIn wsX7_needs wsX7_changeOf := goodIn_ca (goodIn_r _ [5, 6, 7, 8, 102, 103, 104, 105, 106, 107, 108, 109, 110, 111, 112, 113, 114] (by decide +kernel) (by decide +kernel)) (goodIn_sub (fun _ h => List.mem_cons_of_mem _ (List.mem_append_right _ h)) (by decide +kernel))
set_option maxRecDepth 20000 in
theorem gX7_needs_X7_changeOf : GoodIn wsX7_needs (wsV RX7 104 RX7 yX7_changeOf wsX7_changeOf) := goodIn_app (goodIn_of _ (by decide +kernel)) ggX7_needs_X7_changeOf
set_option maxRecDepth 20000 in
theorem ggX7_needs_X7_checkUser : GoodIn wsX7_needs wsX7_checkUser := goodIn_ca (goodIn_r _ [11, 6, 7] (by decide +kernel) (by decide +kernel)) (goodIn_sub (fun _ h => List.mem_cons_of_mem _ (List.mem_append_right _ h)) (by decide +kernel))
set_option maxRecDepth 20000 in
theorem gX7_needs_X7_checkUser : GoodIn wsX7_needs (va_wsS RX7 69 yX7_checkUser wsX7_checkUser) := goodIn_app (goodIn_of _ (by decide +kernel)) ggX7_needs_X7_checkUser
set_option maxRecDepth 20000 in
theorem ggX7_needs_X7_neededUsers : GoodIn wsX7_needs wsX7_neededUsers := goodIn_r _ [15, 16, 17, 18, 19, 20, 21, 22, 23, 24, 25, 26, 27, 28, 29, 30, 4, 31, 32, 33, 34, 35, 36, 37, 38, 39, 40, 41, 42, 43, 44, 45, 46, 47, 48, 49, 50, 51, 52, 53, 54, 55, 56, 57, 58, 59, 60, 61, 62, 63, 64, 65, 66, 67, 68, 69, 70, 71, 72, 73, 74, 75, 76, 77, 78, 79, 80, 81, 82, 83, 84, 85, 86, 87, 88, 89, 90, 91, 92, 93, 94, 95, 96, 97, 98, 115, 116, 117, 118, 119, 120, 121, 122, 123, 124, 125, 102, 103, 104, 105, 106, 107, 108, 109, 110, 111, 112, 113, 114, 126, 127, 128, 129, 130, 131] (by decide +kernel) (by decide +kernel)
set_option maxRecDepth 20000 in
theorem gX7_needs_X7_neededUsers : GoodIn wsX7_needs (wsV RX7 233 RX7 yX7_neededUsers wsX7_neededUsers) := goodIn_app (goodIn_of _ (by decide +kernel)) ggX7_needs_X7_neededUsers
set_option maxRecDepth 20000 in
theorem ggX7_needs_X7_hasBit : GoodIn wsX7_needs wsX7_hasBit := goodIn_r _ [101] (by decide +kernel) (by decide +kernel)
set_option maxRecDepth 20000 in
theorem gX7_needs_X7_hasBit : GoodIn wsX7_needs (va_wsS RX7 136 yX7_hasBit wsX7_hasBit) := goodIn_app (goodIn_of _ (by decide +kernel)) ggX7_needs_X7_hasBit
theorem dX7_needs_0 : decode cX7_needs 0 = .ok (.aload_n 0, 1) := by decide +kernel
theorem dX7_needs_1 : decode cX7_needs 1 = .ok (.iload_n 1, 1) := by decide +kernel
theorem dX7_needs_2 : decode cX7_needs 2 = .ok (.invokevirtual 104, 3) := by decide +kernel
theorem dX7_needs_5 : decode cX7_needs 5 = .ok (.astore_n 3, 1) := by decide +kernel
theorem dX7_needs_6 : decode cX7_needs 6 = .ok (.iload_n 2, 1) := by decide +kernel
theorem dX7_needs_7 : decode cX7_needs 7 = .ok (.invokestatic 69, 3) := by decide +kernel
theorem dX7_needs_10 : decode cX7_needs 10 = .ok (.aload_n 0, 1) := by decide +kernel
theorem dX7_needs_11 : decode cX7_needs 11 = .ok (.aload_n 3, 1) := by decide +kernel
theorem dX7_needs_12 : decode cX7_needs 12 = .ok (.invokevirtual 233, 3) := by decide +kernel
theorem dX7_needs_15 : decode cX7_needs 15 = .ok (.iload_n 2, 1) := by decide +kernel
theorem dX7_needs_16 : decode cX7_needs 16 = .ok (.invokestatic 136, 3) := by decide +kernel
theorem dX7_needs_19 : decode cX7_needs 19 = .ok (.ireturn, 1) := by decide +kernel
set_option maxRecDepth 20000 in
theorem ggX7_placeIn_X7_remarkOf : GoodIn wsX7_placeIn wsX7_remarkOf := goodIn_ca (goodIn_r _ [5, 6, 7, 8, 86, 87, 88, 89, 90, 91, 92, 93, 94, 95, 96, 97, 98] (by decide +kernel) (by decide +kernel)) (goodIn_sub (fun _ h => List.mem_cons_of_mem _ (List.mem_append_left _ (List.mem_append_right _ h))) (by decide +kernel))
set_option maxRecDepth 20000 in
theorem gX7_placeIn_X7_remarkOf : GoodIn wsX7_placeIn (wsV RX7 184 RX7 yX7_remarkOf wsX7_remarkOf) := goodIn_app (goodIn_of _ (by decide +kernel)) ggX7_placeIn_X7_remarkOf
set_option maxRecDepth 20000 in
theorem ggX7_placeIn_X7_checkPlaceAsked : GoodIn wsX7_placeIn wsX7_checkPlaceAsked := goodIn_ca (goodIn_r _ [11, 12, 13, 14, 15, 4, 16, 99, 100, 101, 102, 103, 104, 105, 106, 107, 108, 109, 110, 111, 112, 113] (by decide +kernel) (by decide +kernel)) (goodIn_sub (fun _ h => List.mem_cons_of_mem _ (List.mem_append_right _ h)) (by decide +kernel))
set_option maxRecDepth 20000 in
theorem gX7_placeIn_X7_checkPlaceAsked : GoodIn wsX7_placeIn (va_wsS RX7 266 yX7_checkPlaceAsked wsX7_checkPlaceAsked) := goodIn_app (goodIn_of _ (by decide +kernel)) ggX7_placeIn_X7_checkPlaceAsked
set_option maxRecDepth 20000 in
theorem ggX7_placeIn_X7_placeForwards : GoodIn wsX7_placeIn wsX7_placeForwards := goodIn_r _ [20, 21, 22, 23, 24, 25, 26, 27, 28, 29, 30, 31, 32, 33, 34, 35, 36, 37, 38, 39, 40, 41, 42, 43, 44, 45, 46, 47, 48, 49, 50, 51, 52, 53, 54, 4, 55, 56, 57, 58, 59, 60, 61, 62, 63, 64, 65, 66, 67, 68, 69, 70, 71, 72, 73, 74, 75, 76, 77, 78, 79, 80, 81, 82, 99, 100, 101, 102, 86, 87, 88, 89, 90, 91, 92, 93, 94, 95, 96, 97, 98, 103, 104, 105, 106, 107, 108, 109, 110, 111, 112, 113, 114, 115, 116, 117, 118, 119] (by decide +kernel) (by decide +kernel)
set_option maxRecDepth 20000 in
theorem gX7_placeIn_X7_placeForwards : GoodIn wsX7_placeIn (wsV RX7 270 RX7 yX7_placeForwards wsX7_placeForwards) := goodIn_app (goodIn_of _ (by decide +kernel)) ggX7_placeIn_X7_placeForwards
set_option maxRecDepth 20000 in
theorem ggX7_placeIn_X7_placeOrThrow : GoodIn wsX7_placeIn wsX7_placeOrThrow := goodIn_ca (goodIn_r _ [85, 12, 13] (by decide +kernel) (by decide +kernel)) (goodIn_sub (fun _ h => List.mem_cons_of_mem _ (List.mem_append_right _ h)) (by decide +kernel))
set_option maxRecDepth 20000 in
theorem gX7_placeIn_X7_placeOrThrow : GoodIn wsX7_placeIn (va_wsS RX7 274 yX7_placeOrThrow wsX7_placeOrThrow) := goodIn_app (goodIn_of _ (by decide +kernel)) ggX7_placeIn_X7_placeOrThrow
theorem dX7_placeIn_0 : decode cX7_placeIn 0 = .ok (.aload_n 0, 1) := by decide +kernel
theorem dX7_placeIn_1 : decode cX7_placeIn 1 = .ok (.iload_n 1, 1) := by decide +kernel
theorem dX7_placeIn_2 : decode cX7_placeIn 2 = .ok (.invokevirtual 184, 3) := by decide +kernel
theorem dX7_placeIn_5 : decode cX7_placeIn 5 = .ok (.astore_n 3, 1) := by decide +kernel
theorem dX7_placeIn_6 : decode cX7_placeIn 6 = .ok (.aload_n 3, 1) := by decide +kernel
theorem dX7_placeIn_7 : decode cX7_placeIn 7 = .ok (.iload_n 2, 1) := by decide +kernel
theorem dX7_placeIn_8 : decode cX7_placeIn 8 = .ok (.invokestatic 266, 3) := by decide +kernel
theorem dX7_placeIn_11 : decode cX7_placeIn 11 = .ok (.aload_n 0, 1) := by decide +kernel
theorem dX7_placeIn_12 : decode cX7_placeIn 12 = .ok (.aload_n 3, 1) := by decide +kernel
theorem dX7_placeIn_13 : decode cX7_placeIn 13 = .ok (.iload_n 2, 1) := by decide +kernel
theorem dX7_placeIn_14 : decode cX7_placeIn 14 = .ok (.invokevirtual 270, 3) := by decide +kernel
theorem dX7_placeIn_17 : decode cX7_placeIn 17 = .ok (.invokestatic 274, 3) := by decide +kernel
theorem dX7_placeIn_20 : decode cX7_placeIn 20 = .ok (.ireturn, 1) := by decide +kernel
set_option maxRecDepth 20000 in
theorem ggX7_placeByComparing_X7_remarkOf : GoodIn wsX7_placeByComparing wsX7_remarkOf := goodIn_ca (goodIn_r _ [5, 6, 7, 8, 72, 73, 74, 75, 76, 77, 78, 79, 80, 81, 82, 83, 84] (by decide +kernel) (by decide +kernel)) (goodIn_sub (fun _ h => List.mem_cons_of_mem _ (List.mem_append_left _ (List.mem_append_right _ h))) (by decide +kernel))
set_option maxRecDepth 20000 in
theorem gX7_placeByComparing_X7_remarkOf : GoodIn wsX7_placeByComparing (wsV RX7 184 RX7 yX7_remarkOf wsX7_remarkOf) := goodIn_app (goodIn_of _ (by decide +kernel)) ggX7_placeByComparing_X7_remarkOf
set_option maxRecDepth 20000 in
theorem ggX7_placeByComparing_X7_checkPlaceAsked : GoodIn wsX7_placeByComparing wsX7_checkPlaceAsked := goodIn_ca (goodIn_r _ [11, 12, 13, 14, 15, 4, 16, 85, 86, 87, 88, 89, 90, 91, 92, 93, 94, 95, 96, 97, 98, 99] (by decide +kernel) (by decide +kernel)) (goodIn_sub (fun _ h => List.mem_cons_of_mem _ (List.mem_append_right _ h)) (by decide +kernel))
set_option maxRecDepth 20000 in
theorem gX7_placeByComparing_X7_checkPlaceAsked : GoodIn wsX7_placeByComparing (va_wsS RX7 266 yX7_checkPlaceAsked wsX7_checkPlaceAsked) := goodIn_app (goodIn_of _ (by decide +kernel)) ggX7_placeByComparing_X7_checkPlaceAsked
set_option maxRecDepth 20000 in
theorem ggX7_placeByComparing_X7_placeBackwards : GoodIn wsX7_placeByComparing wsX7_placeBackwards := goodIn_r _ [20, 21, 22, 23, 24, 25, 26, 27, 28, 29, 30, 31, 32, 33, 34, 35, 36, 4, 37, 38, 39, 40, 41, 42, 43, 44, 45, 46, 47, 48, 49, 50, 51, 52, 53, 54, 55, 56, 57, 58, 59, 60, 61, 62, 63, 64, 65, 66, 67, 68, 85, 86, 87, 88, 89, 90, 91, 92, 93, 94, 95, 96, 97, 98, 99, 100, 101, 72, 73, 74, 75, 76, 77, 78, 79, 80, 81, 82, 83, 84, 102] (by decide +kernel) (by decide +kernel)
set_option maxRecDepth 20000 in
theorem gX7_placeByComparing_X7_placeBackwards : GoodIn wsX7_placeByComparing (wsV RX7 277 RX7 yX7_placeBackwards wsX7_placeBackwards) := goodIn_app (goodIn_of _ (by decide +kernel)) ggX7_placeByComparing_X7_placeBackwards
set_option maxRecDepth 20000 in
theorem ggX7_placeByComparing_X7_placeOrThrow : GoodIn wsX7_placeByComparing wsX7_placeOrThrow := goodIn_ca (goodIn_r _ [71, 12, 13] (by decide +kernel) (by decide +kernel)) (goodIn_sub (fun _ h => List.mem_cons_of_mem _ (List.mem_append_right _ h)) (by decide +kernel))
set_option maxRecDepth 20000 in
theorem gX7_placeByComparing_X7_placeOrThrow : GoodIn wsX7_placeByComparing (va_wsS RX7 274 yX7_placeOrThrow wsX7_placeOrThrow) := goodIn_app (goodIn_of _ (by decide +kernel)) ggX7_placeByComparing_X7_placeOrThrow
theorem dX7_placeByComparing_0 : decode cX7_placeByComparing 0 = .ok (.aload_n 0, 1) := by decide +kernel
theorem dX7_placeByComparing_1 : decode cX7_placeByComparing 1 = .ok (.iload_n 1, 1) := by decide +kernel
theorem dX7_placeByComparing_2 : decode cX7_placeByComparing 2 = .ok (.invokevirtual 184, 3) := by decide +kernel
theorem dX7_placeByComparing_5 : decode cX7_placeByComparing 5 = .ok (.astore_n 3, 1) := by decide +kernel
theorem dX7_placeByComparing_6 : decode cX7_placeByComparing 6 = .ok (.aload_n 3, 1) := by decide +kernel
theorem dX7_placeByComparing_7 : decode cX7_placeByComparing 7 = .ok (.iload_n 2, 1) := by decide +kernel
theorem dX7_placeByComparing_8 : decode cX7_placeByComparing 8 = .ok (.invokestatic 266, 3) := by decide +kernel
theorem dX7_placeByComparing_11 : decode cX7_placeByComparing 11 = .ok (.aload_n 0, 1) := by decide +kernel
theorem dX7_placeByComparing_12 : decode cX7_placeByComparing 12 = .ok (.aload_n 3, 1) := by decide +kernel
theorem dX7_placeByComparing_13 : decode cX7_placeByComparing 13 = .ok (.iload_n 2, 1) := by decide +kernel
theorem dX7_placeByComparing_14 : decode cX7_placeByComparing 14 = .ok (.invokevirtual 277, 3) := by decide +kernel
theorem dX7_placeByComparing_17 : decode cX7_placeByComparing 17 = .ok (.invokestatic 274, 3) := by decide +kernel
theorem dX7_placeByComparing_20 : decode cX7_placeByComparing 20 = .ok (.ireturn, 1) := by decide +kernel
set_option maxRecDepth 20000 in
theorem ggX7_isOpen_X7_remarkOf : GoodIn wsX7_isOpen wsX7_remarkOf := goodIn_ca (goodIn_r _ [5, 6, 7, 8, 13, 14, 15, 16, 17, 18, 19, 20, 21, 22, 23, 24, 25] (by decide +kernel) (by decide +kernel)) (goodIn_sub (fun _ h => List.mem_cons_of_mem _ (List.mem_append_right _ h)) (by decide +kernel))
set_option maxRecDepth 20000 in
theorem gX7_isOpen_X7_remarkOf : GoodIn wsX7_isOpen (wsV RX7 184 RX7 yX7_remarkOf wsX7_remarkOf) := goodIn_app (goodIn_of _ (by decide +kernel)) ggX7_isOpen_X7_remarkOf
theorem dX7_isOpen_0 : decode cX7_isOpen 0 = .ok (.aload_n 0, 1) := by decide +kernel
theorem dX7_isOpen_1 : decode cX7_isOpen 1 = .ok (.iload_n 1, 1) := by decide +kernel
theorem dX7_isOpen_2 : decode cX7_isOpen 2 = .ok (.invokevirtual 184, 3) := by decide +kernel
theorem dX7_isOpen_5 : decode cX7_isOpen 5 = .ok (.getfield 188, 3) := by decide +kernel
theorem dX7_isOpen_8 : decode cX7_isOpen 8 = .ok (.ifCond .ne 7, 3) := by decide +kernel
theorem dX7_isOpen_11 : decode cX7_isOpen 11 = .ok (.iconst 1, 1) := by decide +kernel
theorem dX7_isOpen_12 : decode cX7_isOpen 12 = .ok (.goto 4, 3) := by decide +kernel
theorem dX7_isOpen_15 : decode cX7_isOpen 15 = .ok (.iconst 0, 1) := by decide +kernel
theorem dX7_isOpen_16 : decode cX7_isOpen 16 = .ok (.ireturn, 1) := by decide +kernel
set_option maxRecDepth 20000 in
theorem ggX7_openComments_X7_changeOf : GoodIn wsX7_openComments wsX7_changeOf := goodIn_ca (goodIn_r _ [5, 6, 7, 8, 14, 15, 16, 17, 18, 19, 20, 21, 22, 23, 24, 25, 26] (by decide +kernel) (by decide +kernel)) (goodIn_sub (fun _ h => List.mem_cons_of_mem _ (List.mem_append_right _ h)) (by decide +kernel))
set_option maxRecDepth 20000 in
theorem gX7_openComments_X7_changeOf : GoodIn wsX7_openComments (wsV RX7 104 RX7 yX7_changeOf wsX7_changeOf) := goodIn_app (goodIn_of _ (by decide +kernel)) ggX7_openComments_X7_changeOf
set_option maxRecDepth 20000 in
theorem ggX7_openComments_X7_countOpen : GoodIn wsX7_openComments wsX7_countOpen := goodIn_r _ [12, 13, 14, 15, 16, 17, 18, 19, 20, 21, 22, 23, 24, 25, 26, 27, 28, 29, 30] (by decide +kernel) (by decide +kernel)
set_option maxRecDepth 20000 in
theorem gX7_openComments_X7_countOpen : GoodIn wsX7_openComments (wsV RX7 198 RX7 yX7_countOpen wsX7_countOpen) := goodIn_app (goodIn_of _ (by decide +kernel)) ggX7_openComments_X7_countOpen
theorem dX7_openComments_0 : decode cX7_openComments 0 = .ok (.aload_n 0, 1) := by decide +kernel
theorem dX7_openComments_1 : decode cX7_openComments 1 = .ok (.aload_n 0, 1) := by decide +kernel
theorem dX7_openComments_2 : decode cX7_openComments 2 = .ok (.iload_n 1, 1) := by decide +kernel
theorem dX7_openComments_3 : decode cX7_openComments 3 = .ok (.invokevirtual 104, 3) := by decide +kernel
theorem dX7_openComments_6 : decode cX7_openComments 6 = .ok (.invokevirtual 198, 3) := by decide +kernel
theorem dX7_openComments_9 : decode cX7_openComments 9 = .ok (.ireturn, 1) := by decide +kernel
set_option maxRecDepth 20000 in
theorem ggX7_hasApproved_X7_changeOf : GoodIn wsX7_hasApproved wsX7_changeOf := goodIn_ca (goodIn_r _ [5, 6, 7, 8, 20, 21, 22, 23, 24, 25, 26, 27, 28, 29, 30, 31, 32] (by decide +kernel) (by decide +kernel)) (goodIn_sub (fun _ h => List.mem_cons_of_mem _ (List.mem_append_right _ h)) (by decide +kernel))
set_option maxRecDepth 20000 in
theorem gX7_hasApproved_X7_changeOf : GoodIn wsX7_hasApproved (wsV RX7 104 RX7 yX7_changeOf wsX7_changeOf) := goodIn_app (goodIn_of _ (by decide +kernel)) ggX7_hasApproved_X7_changeOf
set_option maxRecDepth 20000 in
theorem ggX7_hasApproved_X7_checkUser : GoodIn wsX7_hasApproved wsX7_checkUser := goodIn_ca (goodIn_r _ [11, 6, 7] (by decide +kernel) (by decide +kernel)) (goodIn_sub (fun _ h => List.mem_cons_of_mem _ (List.mem_append_right _ h)) (by decide +kernel))
set_option maxRecDepth 20000 in
theorem gX7_hasApproved_X7_checkUser : GoodIn wsX7_hasApproved (va_wsS RX7 69 yX7_checkUser wsX7_checkUser) := goodIn_app (goodIn_of _ (by decide +kernel)) ggX7_hasApproved_X7_checkUser
set_option maxRecDepth 20000 in
theorem ggX7_hasApproved_X1_isApprovedBy : GoodIn wsX7_hasApproved wsX1_isApprovedBy := goodIn_r _ [16, 17, 18, 4, 19, 33, 34, 35, 36, 37, 38, 39, 40, 41, 42, 43] (by decide +kernel) (by decide +kernel)
set_option maxRecDepth 20000 in
theorem gX7_hasApproved_X1_isApprovedBy : GoodIn wsX7_hasApproved (wsV RX7 280 RX1 yX1_isApprovedBy wsX1_isApprovedBy) := goodIn_app (goodIn_of _ (by decide +kernel)) ggX7_hasApproved_X1_isApprovedBy
theorem dX7_hasApproved_0 : decode cX7_hasApproved 0 = .ok (.aload_n 0, 1) := by decide +kernel
theorem dX7_hasApproved_1 : decode cX7_hasApproved 1 = .ok (.iload_n 1, 1) := by decide +kernel
theorem dX7_hasApproved_2 : decode cX7_hasApproved 2 = .ok (.invokevirtual 104, 3) := by decide +kernel
theorem dX7_hasApproved_5 : decode cX7_hasApproved 5 = .ok (.astore_n 3, 1) := by decide +kernel
theorem dX7_hasApproved_6 : decode cX7_hasApproved 6 = .ok (.iload_n 2, 1) := by decide +kernel
theorem dX7_hasApproved_7 : decode cX7_hasApproved 7 = .ok (.invokestatic 69, 3) := by decide +kernel
theorem dX7_hasApproved_10 : decode cX7_hasApproved 10 = .ok (.aload_n 3, 1) := by decide +kernel
theorem dX7_hasApproved_11 : decode cX7_hasApproved 11 = .ok (.iload_n 2, 1) := by decide +kernel
theorem dX7_hasApproved_12 : decode cX7_hasApproved 12 = .ok (.invokevirtual 280, 3) := by decide +kernel
theorem dX7_hasApproved_15 : decode cX7_hasApproved 15 = .ok (.ireturn, 1) := by decide +kernel
set_option maxRecDepth 20000 in
theorem ggX7_isStale_X7_changeOf : GoodIn wsX7_isStale wsX7_changeOf := goodIn_ca (goodIn_r _ [5, 6, 7, 8, 108, 109, 110, 111, 112, 113, 114, 115, 116, 117, 118, 119, 120] (by decide +kernel) (by decide +kernel)) (goodIn_sub (fun _ h => List.mem_cons_of_mem _ (List.mem_append_left _ (List.mem_append_right _ h))) (by decide +kernel))
set_option maxRecDepth 20000 in
theorem gX7_isStale_X7_changeOf : GoodIn wsX7_isStale (wsV RX7 104 RX7 yX7_changeOf wsX7_changeOf) := goodIn_app (goodIn_of _ (by decide +kernel)) ggX7_isStale_X7_changeOf
set_option maxRecDepth 20000 in
theorem ggX7_isStale_X7_checkUser : GoodIn wsX7_isStale wsX7_checkUser := goodIn_ca (goodIn_r _ [11, 6, 7] (by decide +kernel) (by decide +kernel)) (goodIn_sub (fun _ h => List.mem_cons_of_mem _ (List.mem_append_left _ (List.mem_append_right _ h))) (by decide +kernel))
set_option maxRecDepth 20000 in
theorem gX7_isStale_X7_checkUser : GoodIn wsX7_isStale (va_wsS RX7 69 yX7_checkUser wsX7_checkUser) := goodIn_app (goodIn_of _ (by decide +kernel)) ggX7_isStale_X7_checkUser
set_option maxRecDepth 20000 in
theorem ggX7_isStale_X7_checkApproved : GoodIn wsX7_isStale wsX7_checkApproved := goodIn_ca (goodIn_r _ [14, 15, 16, 17, 18, 19, 20, 21, 22, 23, 4, 24, 121, 122, 123, 124, 125, 126, 127, 128, 129, 130, 131] (by decide +kernel) (by decide +kernel)) (goodIn_sub (fun _ h => List.mem_cons_of_mem _ (List.mem_append_right _ h)) (by decide +kernel))
set_option maxRecDepth 20000 in
theorem gX7_isStale_X7_checkApproved : GoodIn wsX7_isStale (va_wsS RX7 215 yX7_checkApproved wsX7_checkApproved) := goodIn_app (goodIn_of _ (by decide +kernel)) ggX7_isStale_X7_checkApproved
set_option maxRecDepth 20000 in
theorem ggX7_isStale_X7_freshUsers : GoodIn wsX7_isStale wsX7_freshUsers := goodIn_r _ [28, 29, 30, 31, 20, 32, 22, 23, 4, 24, 33, 34, 35, 36, 37, 38, 39, 40, 41, 42, 43, 44, 45, 46, 47, 48, 49, 50, 51, 52, 53, 54, 55, 56, 57, 58, 59, 60, 61, 62, 63, 64, 65, 66, 67, 68, 69, 70, 71, 72, 73, 74, 75, 76, 77, 78, 79, 80, 81, 82, 83, 84, 85, 86, 87, 88, 89, 90, 91, 92, 93, 94, 95, 96, 97, 98, 99, 100, 101, 102, 103, 104, 121, 122, 123, 124, 125, 126, 127, 128, 129, 130, 131, 108, 109, 110, 111, 112, 113, 114, 115, 116, 117, 118, 119, 120, 132, 133, 134, 135, 136, 137] (by decide +kernel) (by decide +kernel)
set_option maxRecDepth 20000 in
theorem gX7_isStale_X7_freshUsers : GoodIn wsX7_isStale (wsV RX7 212 RX7 yX7_freshUsers wsX7_freshUsers) := goodIn_app (goodIn_of _ (by decide +kernel)) ggX7_isStale_X7_freshUsers
set_option maxRecDepth 20000 in
theorem ggX7_isStale_X7_hasBit : GoodIn wsX7_isStale wsX7_hasBit := goodIn_r _ [107] (by decide +kernel) (by decide +kernel)
set_option maxRecDepth 20000 in
theorem gX7_isStale_X7_hasBit : GoodIn wsX7_isStale (va_wsS RX7 136 yX7_hasBit wsX7_hasBit) := goodIn_app (goodIn_of _ (by decide +kernel)) ggX7_isStale_X7_hasBit
theorem dX7_isStale_0 : decode cX7_isStale 0 = .ok (.aload_n 0, 1) := by decide +kernel
theorem dX7_isStale_1 : decode cX7_isStale 1 = .ok (.iload_n 1, 1) := by decide +kernel
theorem dX7_isStale_2 : decode cX7_isStale 2 = .ok (.invokevirtual 104, 3) := by decide +kernel
theorem dX7_isStale_5 : decode cX7_isStale 5 = .ok (.astore_n 3, 1) := by decide +kernel
theorem dX7_isStale_6 : decode cX7_isStale 6 = .ok (.iload_n 2, 1) := by decide +kernel
theorem dX7_isStale_7 : decode cX7_isStale 7 = .ok (.invokestatic 69, 3) := by decide +kernel
theorem dX7_isStale_10 : decode cX7_isStale 10 = .ok (.aload_n 3, 1) := by decide +kernel
theorem dX7_isStale_11 : decode cX7_isStale 11 = .ok (.iload_n 2, 1) := by decide +kernel
theorem dX7_isStale_12 : decode cX7_isStale 12 = .ok (.invokestatic 215, 3) := by decide +kernel
theorem dX7_isStale_15 : decode cX7_isStale 15 = .ok (.aload_n 0, 1) := by decide +kernel
theorem dX7_isStale_16 : decode cX7_isStale 16 = .ok (.aload_n 3, 1) := by decide +kernel
theorem dX7_isStale_17 : decode cX7_isStale 17 = .ok (.invokevirtual 212, 3) := by decide +kernel
theorem dX7_isStale_20 : decode cX7_isStale 20 = .ok (.iload_n 2, 1) := by decide +kernel
theorem dX7_isStale_21 : decode cX7_isStale 21 = .ok (.invokestatic 136, 3) := by decide +kernel
theorem dX7_isStale_24 : decode cX7_isStale 24 = .ok (.ifCond .ne 7, 3) := by decide +kernel
theorem dX7_isStale_27 : decode cX7_isStale 27 = .ok (.iconst 1, 1) := by decide +kernel
theorem dX7_isStale_28 : decode cX7_isStale 28 = .ok (.goto 4, 3) := by decide +kernel
theorem dX7_isStale_31 : decode cX7_isStale 31 = .ok (.iconst 0, 1) := by decide +kernel
theorem dX7_isStale_32 : decode cX7_isStale 32 = .ok (.ireturn, 1) := by decide +kernel
theorem dX7_changeOf_0 : decode cX7_changeOf 0 = .ok (.iload_n 1, 1) := by decide +kernel
theorem dX7_changeOf_1 : decode cX7_changeOf 1 = .ok (.ifCond .lt 21, 3) := by decide +kernel
theorem dX7_changeOf_4 : decode cX7_changeOf 4 = .ok (.iload_n 1, 1) := by decide +kernel
theorem dX7_changeOf_5 : decode cX7_changeOf 5 = .ok (.aload_n 0, 1) := by decide +kernel
theorem dX7_changeOf_6 : decode cX7_changeOf 6 = .ok (.getfield 22, 3) := by decide +kernel
theorem dX7_changeOf_9 : decode cX7_changeOf 9 = .ok (.arraylength, 1) := by decide +kernel
theorem dX7_changeOf_10 : decode cX7_changeOf 10 = .ok (.if_icmp .ge 12, 3) := by decide +kernel
theorem dX7_changeOf_13 : decode cX7_changeOf 13 = .ok (.aload_n 0, 1) := by decide +kernel
theorem dX7_changeOf_14 : decode cX7_changeOf 14 = .ok (.getfield 22, 3) := by decide +kernel
theorem dX7_changeOf_17 : decode cX7_changeOf 17 = .ok (.iload_n 1, 1) := by decide +kernel
theorem dX7_changeOf_18 : decode cX7_changeOf 18 = .ok (.aaload, 1) := by decide +kernel
theorem dX7_changeOf_19 : decode cX7_changeOf 19 = .ok (.goto 4, 3) := by decide +kernel
theorem dX7_changeOf_22 : decode cX7_changeOf 22 = .ok (.aconst_null, 1) := by decide +kernel
theorem dX7_changeOf_23 : decode cX7_changeOf 23 = .ok (.astore_n 2, 1) := by decide +kernel
theorem dX7_changeOf_24 : decode cX7_changeOf 24 = .ok (.aload_n 2, 1) := by decide +kernel
theorem dX7_changeOf_25 : decode cX7_changeOf 25 = .ok (.ifnonnull 14, 3) := by decide +kernel
theorem dX7_changeOf_28 : decode cX7_changeOf 28 = .ok (.new 283, 3) := by decide +kernel
theorem dX7_changeOf_31 : decode cX7_changeOf 31 = .ok (.dup, 1) := by decide +kernel
theorem dX7_changeOf_32 : decode cX7_changeOf 32 = .ok (.ldc_w 285, 3) := by decide +kernel
theorem dX7_changeOf_35 : decode cX7_changeOf 35 = .ok (.invokespecial 287, 3) := by decide +kernel
theorem dX7_changeOf_38 : decode cX7_changeOf 38 = .ok (.athrow, 1) := by decide +kernel
theorem dX7_changeOf_39 : decode cX7_changeOf 39 = .ok (.aload_n 2, 1) := by decide +kernel
theorem dX7_changeOf_40 : decode cX7_changeOf 40 = .ok (.areturn, 1) := by decide +kernel
theorem dX7_remarkOf_0 : decode cX7_remarkOf 0 = .ok (.iload_n 1, 1) := by decide +kernel
theorem dX7_remarkOf_1 : decode cX7_remarkOf 1 = .ok (.ifCond .lt 21, 3) := by decide +kernel
theorem dX7_remarkOf_4 : decode cX7_remarkOf 4 = .ok (.iload_n 1, 1) := by decide +kernel
theorem dX7_remarkOf_5 : decode cX7_remarkOf 5 = .ok (.aload_n 0, 1) := by decide +kernel
theorem dX7_remarkOf_6 : decode cX7_remarkOf 6 = .ok (.getfield 28, 3) := by decide +kernel
theorem dX7_remarkOf_9 : decode cX7_remarkOf 9 = .ok (.arraylength, 1) := by decide +kernel
theorem dX7_remarkOf_10 : decode cX7_remarkOf 10 = .ok (.if_icmp .ge 12, 3) := by decide +kernel
theorem dX7_remarkOf_13 : decode cX7_remarkOf 13 = .ok (.aload_n 0, 1) := by decide +kernel
theorem dX7_remarkOf_14 : decode cX7_remarkOf 14 = .ok (.getfield 28, 3) := by decide +kernel
theorem dX7_remarkOf_17 : decode cX7_remarkOf 17 = .ok (.iload_n 1, 1) := by decide +kernel
theorem dX7_remarkOf_18 : decode cX7_remarkOf 18 = .ok (.aaload, 1) := by decide +kernel
theorem dX7_remarkOf_19 : decode cX7_remarkOf 19 = .ok (.goto 4, 3) := by decide +kernel
theorem dX7_remarkOf_22 : decode cX7_remarkOf 22 = .ok (.aconst_null, 1) := by decide +kernel
theorem dX7_remarkOf_23 : decode cX7_remarkOf 23 = .ok (.astore_n 2, 1) := by decide +kernel
theorem dX7_remarkOf_24 : decode cX7_remarkOf 24 = .ok (.aload_n 2, 1) := by decide +kernel
theorem dX7_remarkOf_25 : decode cX7_remarkOf 25 = .ok (.ifnonnull 14, 3) := by decide +kernel
theorem dX7_remarkOf_28 : decode cX7_remarkOf 28 = .ok (.new 283, 3) := by decide +kernel
theorem dX7_remarkOf_31 : decode cX7_remarkOf 31 = .ok (.dup, 1) := by decide +kernel
theorem dX7_remarkOf_32 : decode cX7_remarkOf 32 = .ok (.ldc_w 288, 3) := by decide +kernel
theorem dX7_remarkOf_35 : decode cX7_remarkOf 35 = .ok (.invokespecial 287, 3) := by decide +kernel
theorem dX7_remarkOf_38 : decode cX7_remarkOf 38 = .ok (.athrow, 1) := by decide +kernel
theorem dX7_remarkOf_39 : decode cX7_remarkOf 39 = .ok (.aload_n 2, 1) := by decide +kernel
theorem dX7_remarkOf_40 : decode cX7_remarkOf 40 = .ok (.areturn, 1) := by decide +kernel
set_option maxRecDepth 20000 in
theorem ggX7_roundOf_X7_checkRound : GoodIn wsX7_roundOf wsX7_checkRound := goodIn_ca (goodIn_r _ [4, 5, 6, 14, 15, 16, 17, 18, 19, 20, 21, 22, 23, 24] (by decide +kernel) (by decide +kernel)) (goodIn_sub (fun _ h => List.mem_cons_of_mem _ (List.mem_append_right _ h)) (by decide +kernel))
set_option maxRecDepth 20000 in
theorem gX7_roundOf_X7_checkRound : GoodIn wsX7_roundOf (va_wsS RX7 290 yX7_checkRound wsX7_checkRound) := goodIn_app (goodIn_of _ (by decide +kernel)) ggX7_roundOf_X7_checkRound
set_option maxRecDepth 20000 in
theorem ggX7_roundOf_X1_textOf : GoodIn wsX7_roundOf wsX1_textOf := goodIn_r _ [11, 12, 13, 14, 15, 16, 17, 18, 19, 20, 21, 22, 23, 24] (by decide +kernel) (by decide +kernel)
set_option maxRecDepth 20000 in
theorem gX7_roundOf_X1_textOf : GoodIn wsX7_roundOf (wsV RX7 293 RX1 yX1_textOf wsX1_textOf) := goodIn_app (goodIn_of _ (by decide +kernel)) ggX7_roundOf_X1_textOf
theorem dX7_roundOf_0 : decode cX7_roundOf 0 = .ok (.aload_n 0, 1) := by decide +kernel
theorem dX7_roundOf_1 : decode cX7_roundOf 1 = .ok (.iload_n 1, 1) := by decide +kernel
theorem dX7_roundOf_2 : decode cX7_roundOf 2 = .ok (.invokestatic 290, 3) := by decide +kernel
theorem dX7_roundOf_5 : decode cX7_roundOf 5 = .ok (.aload_n 0, 1) := by decide +kernel
theorem dX7_roundOf_6 : decode cX7_roundOf 6 = .ok (.iload_n 1, 1) := by decide +kernel
theorem dX7_roundOf_7 : decode cX7_roundOf 7 = .ok (.invokevirtual 293, 3) := by decide +kernel
theorem dX7_roundOf_10 : decode cX7_roundOf 10 = .ok (.areturn, 1) := by decide +kernel
theorem dX7_checkUser_0 : decode cX7_checkUser 0 = .ok (.iload_n 0, 1) := by decide +kernel
theorem dX7_checkUser_1 : decode cX7_checkUser 1 = .ok (.ifCond .lt 8, 3) := by decide +kernel
theorem dX7_checkUser_4 : decode cX7_checkUser 4 = .ok (.iload_n 0, 1) := by decide +kernel
theorem dX7_checkUser_5 : decode cX7_checkUser 5 = .ok (.iconst 5, 1) := by decide +kernel
theorem dX7_checkUser_6 : decode cX7_checkUser 6 = .ok (.if_icmp .lt 14, 3) := by decide +kernel
theorem dX7_checkUser_9 : decode cX7_checkUser 9 = .ok (.new 283, 3) := by decide +kernel
theorem dX7_checkUser_12 : decode cX7_checkUser 12 = .ok (.dup, 1) := by decide +kernel
theorem dX7_checkUser_13 : decode cX7_checkUser 13 = .ok (.ldc_w 297, 3) := by decide +kernel
theorem dX7_checkUser_16 : decode cX7_checkUser 16 = .ok (.invokespecial 287, 3) := by decide +kernel
theorem dX7_checkUser_19 : decode cX7_checkUser 19 = .ok (.athrow, 1) := by decide +kernel
theorem dX7_checkUser_20 : decode cX7_checkUser 20 = .ok (.return_, 1) := by decide +kernel
theorem dX7_checkContent_0 : decode cX7_checkContent 0 = .ok (.iload_n 0, 1) := by decide +kernel
theorem dX7_checkContent_1 : decode cX7_checkContent 1 = .ok (.ifCond .lt 9, 3) := by decide +kernel
theorem dX7_checkContent_4 : decode cX7_checkContent 4 = .ok (.iload_n 0, 1) := by decide +kernel
theorem dX7_checkContent_5 : decode cX7_checkContent 5 = .ok (.bipush 100, 2) := by decide +kernel
theorem dX7_checkContent_7 : decode cX7_checkContent 7 = .ok (.if_icmp .lt 14, 3) := by decide +kernel
theorem dX7_checkContent_10 : decode cX7_checkContent 10 = .ok (.new 76, 3) := by decide +kernel
theorem dX7_checkContent_13 : decode cX7_checkContent 13 = .ok (.dup, 1) := by decide +kernel
theorem dX7_checkContent_14 : decode cX7_checkContent 14 = .ok (.ldc_w 299, 3) := by decide +kernel
theorem dX7_checkContent_17 : decode cX7_checkContent 17 = .ok (.invokespecial 80, 3) := by decide +kernel
theorem dX7_checkContent_20 : decode cX7_checkContent 20 = .ok (.athrow, 1) := by decide +kernel
theorem dX7_checkContent_21 : decode cX7_checkContent 21 = .ok (.return_, 1) := by decide +kernel
theorem dX7_checkNotLanded_0 : decode cX7_checkNotLanded 0 = .ok (.aload_n 0, 1) := by decide +kernel
theorem dX7_checkNotLanded_1 : decode cX7_checkNotLanded 1 = .ok (.getfield 301, 3) := by decide +kernel
theorem dX7_checkNotLanded_4 : decode cX7_checkNotLanded 4 = .ok (.ifCond .eq 14, 3) := by decide +kernel
theorem dX7_checkNotLanded_7 : decode cX7_checkNotLanded 7 = .ok (.new 87, 3) := by decide +kernel
theorem dX7_checkNotLanded_10 : decode cX7_checkNotLanded 10 = .ok (.dup, 1) := by decide +kernel
theorem dX7_checkNotLanded_11 : decode cX7_checkNotLanded 11 = .ok (.ldc_w 304, 3) := by decide +kernel
theorem dX7_checkNotLanded_14 : decode cX7_checkNotLanded 14 = .ok (.invokespecial 91, 3) := by decide +kernel
theorem dX7_checkNotLanded_17 : decode cX7_checkNotLanded 17 = .ok (.athrow, 1) := by decide +kernel
theorem dX7_checkNotLanded_18 : decode cX7_checkNotLanded 18 = .ok (.return_, 1) := by decide +kernel
theorem dX7_checkHasRound_0 : decode cX7_checkHasRound 0 = .ok (.aload_n 0, 1) := by decide +kernel
theorem dX7_checkHasRound_1 : decode cX7_checkHasRound 1 = .ok (.getfield 124, 3) := by decide +kernel
theorem dX7_checkHasRound_4 : decode cX7_checkHasRound 4 = .ok (.ifCond .ne 14, 3) := by decide +kernel
theorem dX7_checkHasRound_7 : decode cX7_checkHasRound 7 = .ok (.new 171, 3) := by decide +kernel
theorem dX7_checkHasRound_10 : decode cX7_checkHasRound 10 = .ok (.dup, 1) := by decide +kernel
theorem dX7_checkHasRound_11 : decode cX7_checkHasRound 11 = .ok (.ldc_w 306, 3) := by decide +kernel
theorem dX7_checkHasRound_14 : decode cX7_checkHasRound 14 = .ok (.invokespecial 175, 3) := by decide +kernel
theorem dX7_checkHasRound_17 : decode cX7_checkHasRound 17 = .ok (.athrow, 1) := by decide +kernel
theorem dX7_checkHasRound_18 : decode cX7_checkHasRound 18 = .ok (.return_, 1) := by decide +kernel
theorem dX7_checkRound_0 : decode cX7_checkRound 0 = .ok (.iload_n 1, 1) := by decide +kernel
theorem dX7_checkRound_1 : decode cX7_checkRound 1 = .ok (.ifCond .lt 11, 3) := by decide +kernel
theorem dX7_checkRound_4 : decode cX7_checkRound 4 = .ok (.iload_n 1, 1) := by decide +kernel
theorem dX7_checkRound_5 : decode cX7_checkRound 5 = .ok (.aload_n 0, 1) := by decide +kernel
theorem dX7_checkRound_6 : decode cX7_checkRound 6 = .ok (.getfield 124, 3) := by decide +kernel
theorem dX7_checkRound_9 : decode cX7_checkRound 9 = .ok (.if_icmp .lt 14, 3) := by decide +kernel
theorem dX7_checkRound_12 : decode cX7_checkRound 12 = .ok (.new 171, 3) := by decide +kernel
theorem dX7_checkRound_15 : decode cX7_checkRound 15 = .ok (.dup, 1) := by decide +kernel
theorem dX7_checkRound_16 : decode cX7_checkRound 16 = .ok (.ldc_w 308, 3) := by decide +kernel
theorem dX7_checkRound_19 : decode cX7_checkRound 19 = .ok (.invokespecial 175, 3) := by decide +kernel
theorem dX7_checkRound_22 : decode cX7_checkRound 22 = .ok (.athrow, 1) := by decide +kernel
theorem dX7_checkRound_23 : decode cX7_checkRound 23 = .ok (.return_, 1) := by decide +kernel
set_option maxRecDepth 20000 in
theorem ggX7_checkLine_X5_has : GoodIn wsX7_checkLine wsX5_has := goodIn_r _ [7, 8, 9, 10] (by decide +kernel) (by decide +kernel)
set_option maxRecDepth 20000 in
theorem gX7_checkLine_X5_has : GoodIn wsX7_checkLine (wsV RX7 167 RX5 yX5_has wsX5_has) := goodIn_app (goodIn_of _ (by decide +kernel)) ggX7_checkLine_X5_has
theorem dX7_checkLine_0 : decode cX7_checkLine 0 = .ok (.aload_n 0, 1) := by decide +kernel
theorem dX7_checkLine_1 : decode cX7_checkLine 1 = .ok (.iload_n 1, 1) := by decide +kernel
theorem dX7_checkLine_2 : decode cX7_checkLine 2 = .ok (.invokevirtual 167, 3) := by decide +kernel
theorem dX7_checkLine_5 : decode cX7_checkLine 5 = .ok (.ifCond .ne 14, 3) := by decide +kernel
theorem dX7_checkLine_8 : decode cX7_checkLine 8 = .ok (.new 171, 3) := by decide +kernel
theorem dX7_checkLine_11 : decode cX7_checkLine 11 = .ok (.dup, 1) := by decide +kernel
theorem dX7_checkLine_12 : decode cX7_checkLine 12 = .ok (.ldc_w 310, 3) := by decide +kernel
theorem dX7_checkLine_15 : decode cX7_checkLine 15 = .ok (.invokespecial 175, 3) := by decide +kernel
theorem dX7_checkLine_18 : decode cX7_checkLine 18 = .ok (.athrow, 1) := by decide +kernel
theorem dX7_checkLine_19 : decode cX7_checkLine 19 = .ok (.return_, 1) := by decide +kernel
set_option maxRecDepth 20000 in
theorem ggX7_checkApproved_X1_isApprovedBy : GoodIn wsX7_checkApproved wsX1_isApprovedBy := goodIn_r _ [7, 8, 9, 10, 11, 12, 13, 14, 15, 16, 17, 18, 19, 20, 21, 22] (by decide +kernel) (by decide +kernel)
set_option maxRecDepth 20000 in
theorem gX7_checkApproved_X1_isApprovedBy : GoodIn wsX7_checkApproved (wsV RX7 280 RX1 yX1_isApprovedBy wsX1_isApprovedBy) := goodIn_app (goodIn_of _ (by decide +kernel)) ggX7_checkApproved_X1_isApprovedBy
theorem dX7_checkApproved_0 : decode cX7_checkApproved 0 = .ok (.aload_n 0, 1) := by decide +kernel
theorem dX7_checkApproved_1 : decode cX7_checkApproved 1 = .ok (.iload_n 1, 1) := by decide +kernel
theorem dX7_checkApproved_2 : decode cX7_checkApproved 2 = .ok (.invokevirtual 280, 3) := by decide +kernel
theorem dX7_checkApproved_5 : decode cX7_checkApproved 5 = .ok (.ifCond .ne 14, 3) := by decide +kernel
theorem dX7_checkApproved_8 : decode cX7_checkApproved 8 = .ok (.new 171, 3) := by decide +kernel
theorem dX7_checkApproved_11 : decode cX7_checkApproved 11 = .ok (.dup, 1) := by decide +kernel
theorem dX7_checkApproved_12 : decode cX7_checkApproved 12 = .ok (.ldc_w 312, 3) := by decide +kernel
theorem dX7_checkApproved_15 : decode cX7_checkApproved 15 = .ok (.invokespecial 175, 3) := by decide +kernel
theorem dX7_checkApproved_18 : decode cX7_checkApproved 18 = .ok (.athrow, 1) := by decide +kernel
theorem dX7_checkApproved_19 : decode cX7_checkApproved 19 = .ok (.return_, 1) := by decide +kernel
set_option maxRecDepth 20000 in
theorem ggX7_checkPlaceAsked_X7_checkRound : GoodIn wsX7_checkPlaceAsked wsX7_checkRound := goodIn_ca (goodIn_r _ [6, 1, 2, 11, 12, 13, 14, 15, 16, 17, 18, 19, 20, 21] (by decide +kernel) (by decide +kernel)) (goodIn_sub (fun _ h => List.mem_cons_of_mem _ (List.mem_append_right _ h)) (by decide +kernel))
set_option maxRecDepth 20000 in
theorem gX7_checkPlaceAsked_X7_checkRound : GoodIn wsX7_checkPlaceAsked (va_wsS RX7 290 yX7_checkRound wsX7_checkRound) := goodIn_app (goodIn_of _ (by decide +kernel)) ggX7_checkPlaceAsked_X7_checkRound
theorem dX7_checkPlaceAsked_0 : decode cX7_checkPlaceAsked 0 = .ok (.aload_n 0, 1) := by decide +kernel
theorem dX7_checkPlaceAsked_1 : decode cX7_checkPlaceAsked 1 = .ok (.getfield 194, 3) := by decide +kernel
theorem dX7_checkPlaceAsked_4 : decode cX7_checkPlaceAsked 4 = .ok (.iload_n 1, 1) := by decide +kernel
theorem dX7_checkPlaceAsked_5 : decode cX7_checkPlaceAsked 5 = .ok (.invokestatic 290, 3) := by decide +kernel
theorem dX7_checkPlaceAsked_8 : decode cX7_checkPlaceAsked 8 = .ok (.iload_n 1, 1) := by decide +kernel
theorem dX7_checkPlaceAsked_9 : decode cX7_checkPlaceAsked 9 = .ok (.aload_n 0, 1) := by decide +kernel
theorem dX7_checkPlaceAsked_10 : decode cX7_checkPlaceAsked 10 = .ok (.getfield 314, 3) := by decide +kernel
theorem dX7_checkPlaceAsked_13 : decode cX7_checkPlaceAsked 13 = .ok (.if_icmp .ge 14, 3) := by decide +kernel
theorem dX7_checkPlaceAsked_16 : decode cX7_checkPlaceAsked 16 = .ok (.new 171, 3) := by decide +kernel
theorem dX7_checkPlaceAsked_19 : decode cX7_checkPlaceAsked 19 = .ok (.dup, 1) := by decide +kernel
theorem dX7_checkPlaceAsked_20 : decode cX7_checkPlaceAsked 20 = .ok (.ldc_w 317, 3) := by decide +kernel
theorem dX7_checkPlaceAsked_23 : decode cX7_checkPlaceAsked 23 = .ok (.invokespecial 175, 3) := by decide +kernel
theorem dX7_checkPlaceAsked_26 : decode cX7_checkPlaceAsked 26 = .ok (.athrow, 1) := by decide +kernel
theorem dX7_checkPlaceAsked_27 : decode cX7_checkPlaceAsked 27 = .ok (.return_, 1) := by decide +kernel
theorem dX7_placeOrThrow_0 : decode cX7_placeOrThrow 0 = .ok (.iload_n 0, 1) := by decide +kernel
theorem dX7_placeOrThrow_1 : decode cX7_placeOrThrow 1 = .ok (.iconst (-1), 1) := by decide +kernel
theorem dX7_placeOrThrow_2 : decode cX7_placeOrThrow 2 = .ok (.if_icmp .ne 14, 3) := by decide +kernel
theorem dX7_placeOrThrow_5 : decode cX7_placeOrThrow 5 = .ok (.new 171, 3) := by decide +kernel
theorem dX7_placeOrThrow_8 : decode cX7_placeOrThrow 8 = .ok (.dup, 1) := by decide +kernel
theorem dX7_placeOrThrow_9 : decode cX7_placeOrThrow 9 = .ok (.ldc_w 319, 3) := by decide +kernel
theorem dX7_placeOrThrow_12 : decode cX7_placeOrThrow 12 = .ok (.invokespecial 175, 3) := by decide +kernel
theorem dX7_placeOrThrow_15 : decode cX7_placeOrThrow 15 = .ok (.athrow, 1) := by decide +kernel
theorem dX7_placeOrThrow_16 : decode cX7_placeOrThrow 16 = .ok (.iload_n 0, 1) := by decide +kernel
theorem dX7_placeOrThrow_17 : decode cX7_placeOrThrow 17 = .ok (.ireturn, 1) := by decide +kernel
theorem dX7_cell_0 : decode cX7_cell 0 = .ok (.iload_n 1, 1) := by decide +kernel
theorem dX7_cell_1 : decode cX7_cell 1 = .ok (.ifCond .lt 15, 3) := by decide +kernel
theorem dX7_cell_4 : decode cX7_cell 4 = .ok (.iload_n 1, 1) := by decide +kernel
theorem dX7_cell_5 : decode cX7_cell 5 = .ok (.aload_n 0, 1) := by decide +kernel
theorem dX7_cell_6 : decode cX7_cell 6 = .ok (.arraylength, 1) := by decide +kernel
theorem dX7_cell_7 : decode cX7_cell 7 = .ok (.if_icmp .ge 9, 3) := by decide +kernel
theorem dX7_cell_10 : decode cX7_cell 10 = .ok (.aload_n 0, 1) := by decide +kernel
theorem dX7_cell_11 : decode cX7_cell 11 = .ok (.iload_n 1, 1) := by decide +kernel
theorem dX7_cell_12 : decode cX7_cell 12 = .ok (.iaload, 1) := by decide +kernel
theorem dX7_cell_13 : decode cX7_cell 13 = .ok (.goto 4, 3) := by decide +kernel
theorem dX7_cell_16 : decode cX7_cell 16 = .ok (.iconst (-1), 1) := by decide +kernel
theorem dX7_cell_17 : decode cX7_cell 17 = .ok (.ireturn, 1) := by decide +kernel
theorem dX7_put_0 : decode cX7_put 0 = .ok (.iload_n 1, 1) := by decide +kernel
theorem dX7_put_1 : decode cX7_put 1 = .ok (.ifCond .lt 13, 3) := by decide +kernel
theorem dX7_put_4 : decode cX7_put 4 = .ok (.iload_n 1, 1) := by decide +kernel
theorem dX7_put_5 : decode cX7_put 5 = .ok (.aload_n 0, 1) := by decide +kernel
theorem dX7_put_6 : decode cX7_put 6 = .ok (.arraylength, 1) := by decide +kernel
theorem dX7_put_7 : decode cX7_put 7 = .ok (.if_icmp .ge 7, 3) := by decide +kernel
theorem dX7_put_10 : decode cX7_put 10 = .ok (.aload_n 0, 1) := by decide +kernel
theorem dX7_put_11 : decode cX7_put 11 = .ok (.iload_n 1, 1) := by decide +kernel
theorem dX7_put_12 : decode cX7_put 12 = .ok (.iload_n 2, 1) := by decide +kernel
theorem dX7_put_13 : decode cX7_put 13 = .ok (.iastore, 1) := by decide +kernel
theorem dX7_put_14 : decode cX7_put 14 = .ok (.return_, 1) := by decide +kernel
theorem dX7_hasBit_0 : decode cX7_hasBit 0 = .ok (.iload_n 0, 1) := by decide +kernel
theorem dX7_hasBit_1 : decode cX7_hasBit 1 = .ok (.iload_n 1, 1) := by decide +kernel
theorem dX7_hasBit_2 : decode cX7_hasBit 2 = .ok (.ishr, 1) := by decide +kernel
theorem dX7_hasBit_3 : decode cX7_hasBit 3 = .ok (.iconst 1, 1) := by decide +kernel
theorem dX7_hasBit_4 : decode cX7_hasBit 4 = .ok (.iand, 1) := by decide +kernel
theorem dX7_hasBit_5 : decode cX7_hasBit 5 = .ok (.ifCond .eq 7, 3) := by decide +kernel
theorem dX7_hasBit_8 : decode cX7_hasBit 8 = .ok (.iconst 1, 1) := by decide +kernel
theorem dX7_hasBit_9 : decode cX7_hasBit 9 = .ok (.goto 4, 3) := by decide +kernel
theorem dX7_hasBit_12 : decode cX7_hasBit 12 = .ok (.iconst 0, 1) := by decide +kernel
theorem dX7_hasBit_13 : decode cX7_hasBit 13 = .ok (.ireturn, 1) := by decide +kernel
theorem dX7_withBit_0 : decode cX7_withBit 0 = .ok (.iload_n 0, 1) := by decide +kernel
theorem dX7_withBit_1 : decode cX7_withBit 1 = .ok (.iconst 1, 1) := by decide +kernel
theorem dX7_withBit_2 : decode cX7_withBit 2 = .ok (.iload_n 1, 1) := by decide +kernel
theorem dX7_withBit_3 : decode cX7_withBit 3 = .ok (.ishl, 1) := by decide +kernel
theorem dX7_withBit_4 : decode cX7_withBit 4 = .ok (.ior, 1) := by decide +kernel
theorem dX7_withBit_5 : decode cX7_withBit 5 = .ok (.ireturn, 1) := by decide +kernel
theorem dX7_withoutBit_0 : decode cX7_withoutBit 0 = .ok (.iload_n 0, 1) := by decide +kernel
theorem dX7_withoutBit_1 : decode cX7_withoutBit 1 = .ok (.iconst 1, 1) := by decide +kernel
theorem dX7_withoutBit_2 : decode cX7_withoutBit 2 = .ok (.iload_n 1, 1) := by decide +kernel
theorem dX7_withoutBit_3 : decode cX7_withoutBit 3 = .ok (.ishl, 1) := by decide +kernel
theorem dX7_withoutBit_4 : decode cX7_withoutBit 4 = .ok (.iconst (-1), 1) := by decide +kernel
theorem dX7_withoutBit_5 : decode cX7_withoutBit 5 = .ok (.ixor, 1) := by decide +kernel
theorem dX7_withoutBit_6 : decode cX7_withoutBit 6 = .ok (.iand, 1) := by decide +kernel
theorem dX7_withoutBit_7 : decode cX7_withoutBit 7 = .ok (.ireturn, 1) := by decide +kernel
theorem dX7_place_0 : decode cX7_place 0 = .ok (.iload_n 0, 1) := by decide +kernel
theorem dX7_place_1 : decode cX7_place 1 = .ok (.bipush 13, 2) := by decide +kernel
theorem dX7_place_3 : decode cX7_place 3 = .ok (.imul, 1) := by decide +kernel
theorem dX7_place_4 : decode cX7_place 4 = .ok (.iload_n 1, 1) := by decide +kernel
theorem dX7_place_5 : decode cX7_place 5 = .ok (.iadd, 1) := by decide +kernel
theorem dX7_place_6 : decode cX7_place 6 = .ok (.ireturn, 1) := by decide +kernel
set_option maxRecDepth 20000 in
theorem ggX7_reasonFor_X7_waitsForAnother : GoodIn wsX7_reasonFor wsX7_waitsForAnother := goodIn_r _ [7, 8, 9, 10, 6, 11, 173, 174, 175, 176, 177, 178, 179, 180, 181, 182, 183, 184, 185, 162, 163, 164, 165, 166, 167, 168, 169, 170, 171, 172] (by decide +kernel) (by decide +kernel)
set_option maxRecDepth 20000 in
theorem gX7_reasonFor_X7_waitsForAnother : GoodIn wsX7_reasonFor (wsV RX7 321 RX7 yX7_waitsForAnother wsX7_waitsForAnother) := goodIn_app (goodIn_of _ (by decide +kernel)) ggX7_reasonFor_X7_waitsForAnother
set_option maxRecDepth 20000 in
theorem ggX7_reasonFor_X7_countOpen : GoodIn wsX7_reasonFor wsX7_countOpen := goodIn_r _ [15, 16, 173, 174, 175, 176, 177, 178, 179, 180, 181, 182, 183, 184, 185, 193, 194, 195, 196] (by decide +kernel) (by decide +kernel)
set_option maxRecDepth 20000 in
theorem gX7_reasonFor_X7_countOpen : GoodIn wsX7_reasonFor (wsV RX7 198 RX7 yX7_countOpen wsX7_countOpen) := goodIn_app (goodIn_of _ (by decide +kernel)) ggX7_reasonFor_X7_countOpen
set_option maxRecDepth 20000 in
theorem ggX7_reasonFor_X7_neededUsers : GoodIn wsX7_reasonFor wsX7_neededUsers := goodIn_r _ [20, 21, 22, 23, 24, 25, 26, 27, 28, 29, 30, 31, 32, 33, 34, 35, 6, 36, 37, 38, 39, 40, 41, 42, 43, 44, 45, 46, 47, 48, 49, 50, 51, 52, 53, 54, 55, 56, 57, 58, 59, 60, 61, 62, 63, 64, 65, 66, 67, 68, 69, 70, 71, 72, 73, 74, 75, 76, 77, 78, 79, 80, 81, 82, 83, 84, 85, 86, 87, 88, 89, 90, 91, 92, 93, 94, 95, 96, 97, 98, 99, 100, 101, 102, 103, 162, 163, 164, 165, 166, 167, 168, 169, 170, 171, 172, 173, 174, 175, 176, 177, 178, 179, 180, 181, 182, 183, 184, 185, 197, 198, 199, 200, 201, 202] (by decide +kernel) (by decide +kernel)
set_option maxRecDepth 20000 in
theorem gX7_reasonFor_X7_neededUsers : GoodIn wsX7_reasonFor (wsV RX7 233 RX7 yX7_neededUsers wsX7_neededUsers) := goodIn_app (goodIn_of _ (by decide +kernel)) ggX7_reasonFor_X7_neededUsers
set_option maxRecDepth 20000 in
theorem ggX7_reasonFor_X7_freshUsers : GoodIn wsX7_reasonFor wsX7_freshUsers := goodIn_r _ [107, 108, 109, 110, 24, 111, 112, 66, 6, 67, 99, 100, 113, 28, 29, 30, 31, 32, 33, 34, 35, 36, 37, 38, 39, 40, 41, 42, 43, 44, 45, 46, 47, 48, 49, 50, 51, 52, 53, 54, 55, 56, 57, 58, 59, 60, 61, 62, 63, 64, 65, 68, 69, 70, 71, 72, 73, 74, 75, 76, 77, 78, 79, 80, 81, 82, 83, 84, 85, 86, 87, 88, 89, 90, 91, 92, 93, 94, 95, 96, 97, 98, 162, 163, 164, 165, 166, 167, 168, 169, 170, 171, 172, 173, 174, 175, 176, 177, 178, 179, 180, 181, 182, 183, 184, 185, 197, 198, 199, 200, 201, 202] (by decide +kernel) (by decide +kernel)
set_option maxRecDepth 20000 in
theorem gX7_reasonFor_X7_freshUsers : GoodIn wsX7_reasonFor (wsV RX7 212 RX7 yX7_freshUsers wsX7_freshUsers) := goodIn_app (goodIn_of _ (by decide +kernel)) ggX7_reasonFor_X7_freshUsers
set_option maxRecDepth 20000 in
theorem ggX7_reasonFor_X1_presentText : GoodIn wsX7_reasonFor wsX1_presentText := goodIn_r _ [25, 26, 27, 28, 29, 24, 30, 31, 32, 162, 163, 164, 165, 166, 167, 168, 169, 170, 171, 172] (by decide +kernel) (by decide +kernel)
set_option maxRecDepth 20000 in
theorem gX7_reasonFor_X1_presentText : GoodIn wsX7_reasonFor (wsV RX7 163 RX1 yX1_presentText wsX1_presentText) := goodIn_app (goodIn_of _ (by decide +kernel)) ggX7_reasonFor_X1_presentText
set_option maxRecDepth 20000 in
theorem ggX7_reasonFor_X2_merge : GoodIn wsX7_reasonFor wsX2_merge := goodIn_r _ [118, 119, 120, 121, 122, 123, 124, 125, 126, 40, 41, 42, 43, 44, 45, 46, 47, 48, 49, 50, 51, 52, 53, 54, 55, 56, 57, 58, 59, 60, 61, 62, 63, 64, 6, 65, 66, 67, 68, 69, 70, 71, 72, 73, 74, 75, 76, 77, 78, 79, 80, 81, 82, 83, 84, 85, 86, 87, 88, 127, 128, 129, 130, 131, 132, 133, 134, 135, 136, 137, 138, 139, 140, 141, 142, 143, 144, 145, 146, 147, 148, 149, 150, 151, 152, 117, 153, 154, 155, 156, 157, 158, 159, 160, 186, 187, 188, 189, 190, 191, 192, 197, 198, 199, 200, 201, 202] (by decide +kernel) (by decide +kernel)
set_option maxRecDepth 20000 in
theorem gX7_reasonFor_X2_merge : GoodIn wsX7_reasonFor (wsV RX7 328 RX2 yX2_merge wsX2_merge) := goodIn_app (goodIn_of _ (by decide +kernel)) ggX7_reasonFor_X2_merge
set_option maxRecDepth 20000 in
theorem ggX7_reasonFor_X5_size : GoodIn wsX7_reasonFor wsX5_size := goodIn_r _ [57, 58, 201, 202] (by decide +kernel) (by decide +kernel)
set_option maxRecDepth 20000 in
theorem gX7_reasonFor_X5_size : GoodIn wsX7_reasonFor (wsV RX7 115 RX5 yX5_size wsX5_size) := goodIn_app (goodIn_of _ (by decide +kernel)) ggX7_reasonFor_X5_size
theorem dX7_reasonFor_0 : decode cX7_reasonFor 0 = .ok (.aload_n 1, 1) := by decide +kernel
theorem dX7_reasonFor_1 : decode cX7_reasonFor 1 = .ok (.getfield 301, 3) := by decide +kernel
theorem dX7_reasonFor_4 : decode cX7_reasonFor 4 = .ok (.ifCond .eq 6, 3) := by decide +kernel
theorem dX7_reasonFor_7 : decode cX7_reasonFor 7 = .ok (.bipush 108, 2) := by decide +kernel
theorem dX7_reasonFor_9 : decode cX7_reasonFor 9 = .ok (.ireturn, 1) := by decide +kernel
theorem dX7_reasonFor_10 : decode cX7_reasonFor 10 = .ok (.aload_n 1, 1) := by decide +kernel
theorem dX7_reasonFor_11 : decode cX7_reasonFor 11 = .ok (.getfield 124, 3) := by decide +kernel
theorem dX7_reasonFor_14 : decode cX7_reasonFor 14 = .ok (.ifCond .ne 6, 3) := by decide +kernel
theorem dX7_reasonFor_17 : decode cX7_reasonFor 17 = .ok (.bipush 114, 2) := by decide +kernel
theorem dX7_reasonFor_19 : decode cX7_reasonFor 19 = .ok (.ireturn, 1) := by decide +kernel
theorem dX7_reasonFor_20 : decode cX7_reasonFor 20 = .ok (.aload_n 0, 1) := by decide +kernel
theorem dX7_reasonFor_21 : decode cX7_reasonFor 21 = .ok (.aload_n 1, 1) := by decide +kernel
theorem dX7_reasonFor_22 : decode cX7_reasonFor 22 = .ok (.invokevirtual 321, 3) := by decide +kernel
theorem dX7_reasonFor_25 : decode cX7_reasonFor 25 = .ok (.ifCond .eq 6, 3) := by decide +kernel
theorem dX7_reasonFor_28 : decode cX7_reasonFor 28 = .ok (.bipush 100, 2) := by decide +kernel
theorem dX7_reasonFor_30 : decode cX7_reasonFor 30 = .ok (.ireturn, 1) := by decide +kernel
theorem dX7_reasonFor_31 : decode cX7_reasonFor 31 = .ok (.aload_n 0, 1) := by decide +kernel
theorem dX7_reasonFor_32 : decode cX7_reasonFor 32 = .ok (.aload_n 1, 1) := by decide +kernel
theorem dX7_reasonFor_33 : decode cX7_reasonFor 33 = .ok (.invokevirtual 198, 3) := by decide +kernel
theorem dX7_reasonFor_36 : decode cX7_reasonFor 36 = .ok (.ifCond .le 6, 3) := by decide +kernel
theorem dX7_reasonFor_39 : decode cX7_reasonFor 39 = .ok (.bipush 99, 2) := by decide +kernel
theorem dX7_reasonFor_41 : decode cX7_reasonFor 41 = .ok (.ireturn, 1) := by decide +kernel
theorem dX7_reasonFor_42 : decode cX7_reasonFor 42 = .ok (.aload_n 0, 1) := by decide +kernel
theorem dX7_reasonFor_43 : decode cX7_reasonFor 43 = .ok (.aload_n 1, 1) := by decide +kernel
theorem dX7_reasonFor_44 : decode cX7_reasonFor 44 = .ok (.invokevirtual 233, 3) := by decide +kernel
theorem dX7_reasonFor_47 : decode cX7_reasonFor 47 = .ok (.aload_n 0, 1) := by decide +kernel
theorem dX7_reasonFor_48 : decode cX7_reasonFor 48 = .ok (.aload_n 1, 1) := by decide +kernel
theorem dX7_reasonFor_49 : decode cX7_reasonFor 49 = .ok (.invokevirtual 212, 3) := by decide +kernel
theorem dX7_reasonFor_52 : decode cX7_reasonFor 52 = .ok (.iconst (-1), 1) := by decide +kernel
theorem dX7_reasonFor_53 : decode cX7_reasonFor 53 = .ok (.ixor, 1) := by decide +kernel
theorem dX7_reasonFor_54 : decode cX7_reasonFor 54 = .ok (.iand, 1) := by decide +kernel
theorem dX7_reasonFor_55 : decode cX7_reasonFor 55 = .ok (.ifCond .eq 6, 3) := by decide +kernel
theorem dX7_reasonFor_58 : decode cX7_reasonFor 58 = .ok (.bipush 97, 2) := by decide +kernel
theorem dX7_reasonFor_60 : decode cX7_reasonFor 60 = .ok (.ireturn, 1) := by decide +kernel
theorem dX7_reasonFor_61 : decode cX7_reasonFor 61 = .ok (.aload_n 0, 1) := by decide +kernel
theorem dX7_reasonFor_62 : decode cX7_reasonFor 62 = .ok (.getfield 59, 3) := by decide +kernel
theorem dX7_reasonFor_65 : decode cX7_reasonFor 65 = .ok (.aload_n 1, 1) := by decide +kernel
theorem dX7_reasonFor_66 : decode cX7_reasonFor 66 = .ok (.getfield 325, 3) := by decide +kernel
theorem dX7_reasonFor_69 : decode cX7_reasonFor 69 = .ok (.aload_n 0, 1) := by decide +kernel
theorem dX7_reasonFor_70 : decode cX7_reasonFor 70 = .ok (.getfield 12, 3) := by decide +kernel
theorem dX7_reasonFor_73 : decode cX7_reasonFor 73 = .ok (.aload_n 1, 1) := by decide +kernel
theorem dX7_reasonFor_74 : decode cX7_reasonFor 74 = .ok (.invokevirtual 163, 3) := by decide +kernel
theorem dX7_reasonFor_77 : decode cX7_reasonFor 77 = .ok (.invokevirtual 328, 3) := by decide +kernel
theorem dX7_reasonFor_80 : decode cX7_reasonFor 80 = .ok (.aload_n 0, 1) := by decide +kernel
theorem dX7_reasonFor_81 : decode cX7_reasonFor 81 = .ok (.getfield 59, 3) := by decide +kernel
theorem dX7_reasonFor_84 : decode cX7_reasonFor 84 = .ok (.getfield 332, 3) := by decide +kernel
theorem dX7_reasonFor_87 : decode cX7_reasonFor 87 = .ok (.ifCond .eq 6, 3) := by decide +kernel
theorem dX7_reasonFor_90 : decode cX7_reasonFor 90 = .ok (.bipush 109, 2) := by decide +kernel
theorem dX7_reasonFor_92 : decode cX7_reasonFor 92 = .ok (.ireturn, 1) := by decide +kernel
theorem dX7_reasonFor_93 : decode cX7_reasonFor 93 = .ok (.aload_n 0, 1) := by decide +kernel
theorem dX7_reasonFor_94 : decode cX7_reasonFor 94 = .ok (.getfield 59, 3) := by decide +kernel
theorem dX7_reasonFor_97 : decode cX7_reasonFor 97 = .ok (.getfield 335, 3) := by decide +kernel
theorem dX7_reasonFor_100 : decode cX7_reasonFor 100 = .ok (.invokevirtual 115, 3) := by decide +kernel
theorem dX7_reasonFor_103 : decode cX7_reasonFor 103 = .ok (.bipush 12, 2) := by decide +kernel
theorem dX7_reasonFor_105 : decode cX7_reasonFor 105 = .ok (.if_icmp .le 8, 3) := by decide +kernel
theorem dX7_reasonFor_108 : decode cX7_reasonFor 108 = .ok (.bipush 115, 2) := by decide +kernel
theorem dX7_reasonFor_110 : decode cX7_reasonFor 110 = .ok (.goto 5, 3) := by decide +kernel
theorem dX7_reasonFor_113 : decode cX7_reasonFor 113 = .ok (.bipush 32, 2) := by decide +kernel
theorem dX7_reasonFor_115 : decode cX7_reasonFor 115 = .ok (.ireturn, 1) := by decide +kernel
set_option maxRecDepth 20000 in
theorem ggX7_bringIn_X1_presentText : GoodIn wsX7_bringIn wsX1_presentText := goodIn_r _ [9, 10, 11, 12, 13, 8, 14, 15, 16, 133, 134, 135, 136, 137, 138, 139, 140, 141, 142, 143] (by decide +kernel) (by decide +kernel)
set_option maxRecDepth 20000 in
theorem gX7_bringIn_X1_presentText : GoodIn wsX7_bringIn (wsV RX7 163 RX1 yX1_presentText wsX1_presentText) := goodIn_app (goodIn_of _ (by decide +kernel)) ggX7_bringIn_X1_presentText
set_option maxRecDepth 20000 in
theorem ggX7_bringIn_X2_merge : GoodIn wsX7_bringIn wsX2_merge := goodIn_r _ [21, 22, 23, 24, 25, 26, 27, 28, 29, 30, 31, 32, 33, 34, 35, 36, 37, 38, 39, 40, 41, 42, 43, 44, 45, 46, 47, 48, 49, 50, 51, 52, 53, 54, 55, 56, 57, 58, 59, 60, 61, 62, 63, 64, 65, 66, 67, 68, 69, 70, 71, 72, 73, 74, 75, 76, 77, 78, 79, 80, 81, 82, 83, 84, 85, 86, 87, 88, 89, 90, 91, 92, 93, 94, 95, 96, 97, 98, 99, 100, 101, 102, 103, 104, 105, 20, 106, 107, 108, 109, 110, 111, 112, 113, 144, 145, 146, 147, 148, 149, 150, 151, 152, 153, 154, 155, 156] (by decide +kernel) (by decide +kernel)
set_option maxRecDepth 20000 in
theorem gX7_bringIn_X2_merge : GoodIn wsX7_bringIn (wsV RX7 328 RX2 yX2_merge wsX2_merge) := goodIn_app (goodIn_of _ (by decide +kernel)) ggX7_bringIn_X2_merge
set_option maxRecDepth 20000 in
theorem ggX7_bringIn_X5_copy : GoodIn wsX7_bringIn wsX5_copy := goodIn_r _ [117, 48, 118, 90, 91, 46, 92, 93, 81, 82, 83, 94, 95, 96, 97, 98, 50, 51, 52, 53, 99, 100, 101, 102, 59, 55, 60, 155, 156] (by decide +kernel) (by decide +kernel)
set_option maxRecDepth 20000 in
theorem gX7_bringIn_X5_copy : GoodIn wsX7_bringIn (wsV RX7 338 RX5 yX5_copy wsX5_copy) := goodIn_app (goodIn_of _ (by decide +kernel)) ggX7_bringIn_X5_copy
set_option maxRecDepth 20000 in
theorem ggX7_bringIn_X7_put : GoodIn wsX7_bringIn wsX7_put := goodIn_r _ [60] (by decide +kernel) (by decide +kernel)
set_option maxRecDepth 20000 in
theorem gX7_bringIn_X7_put : GoodIn wsX7_bringIn (va_wsS RX7 92 yX7_put wsX7_put) := goodIn_app (goodIn_of _ (by decide +kernel)) ggX7_bringIn_X7_put
theorem dX7_bringIn_0 : decode cX7_bringIn 0 = .ok (.aload_n 0, 1) := by decide +kernel
theorem dX7_bringIn_1 : decode cX7_bringIn 1 = .ok (.getfield 59, 3) := by decide +kernel
theorem dX7_bringIn_4 : decode cX7_bringIn 4 = .ok (.aload_n 1, 1) := by decide +kernel
theorem dX7_bringIn_5 : decode cX7_bringIn 5 = .ok (.getfield 325, 3) := by decide +kernel
theorem dX7_bringIn_8 : decode cX7_bringIn 8 = .ok (.aload_n 0, 1) := by decide +kernel
theorem dX7_bringIn_9 : decode cX7_bringIn 9 = .ok (.getfield 12, 3) := by decide +kernel
theorem dX7_bringIn_12 : decode cX7_bringIn 12 = .ok (.aload_n 1, 1) := by decide +kernel
theorem dX7_bringIn_13 : decode cX7_bringIn 13 = .ok (.invokevirtual 163, 3) := by decide +kernel
theorem dX7_bringIn_16 : decode cX7_bringIn 16 = .ok (.invokevirtual 328, 3) := by decide +kernel
theorem dX7_bringIn_19 : decode cX7_bringIn 19 = .ok (.aload_n 0, 1) := by decide +kernel
theorem dX7_bringIn_20 : decode cX7_bringIn 20 = .ok (.getfield 12, 3) := by decide +kernel
theorem dX7_bringIn_23 : decode cX7_bringIn 23 = .ok (.aload_n 0, 1) := by decide +kernel
theorem dX7_bringIn_24 : decode cX7_bringIn 24 = .ok (.getfield 59, 3) := by decide +kernel
theorem dX7_bringIn_27 : decode cX7_bringIn 27 = .ok (.getfield 335, 3) := by decide +kernel
theorem dX7_bringIn_30 : decode cX7_bringIn 30 = .ok (.invokevirtual 338, 3) := by decide +kernel
theorem dX7_bringIn_33 : decode cX7_bringIn 33 = .ok (.aload_n 1, 1) := by decide +kernel
theorem dX7_bringIn_34 : decode cX7_bringIn 34 = .ok (.iconst 1, 1) := by decide +kernel
theorem dX7_bringIn_35 : decode cX7_bringIn 35 = .ok (.putfield 301, 3) := by decide +kernel
theorem dX7_bringIn_38 : decode cX7_bringIn 38 = .ok (.aload_n 0, 1) := by decide +kernel
theorem dX7_bringIn_39 : decode cX7_bringIn 39 = .ok (.getfield 32, 3) := by decide +kernel
theorem dX7_bringIn_42 : decode cX7_bringIn 42 = .ok (.aload_n 0, 1) := by decide +kernel
theorem dX7_bringIn_43 : decode cX7_bringIn 43 = .ok (.getfield 228, 3) := by decide +kernel
theorem dX7_bringIn_46 : decode cX7_bringIn 46 = .ok (.aload_n 1, 1) := by decide +kernel
theorem dX7_bringIn_47 : decode cX7_bringIn 47 = .ok (.getfield 342, 3) := by decide +kernel
theorem dX7_bringIn_50 : decode cX7_bringIn 50 = .ok (.invokestatic 92, 3) := by decide +kernel
theorem dX7_bringIn_53 : decode cX7_bringIn 53 = .ok (.aload_n 0, 1) := by decide +kernel
theorem dX7_bringIn_54 : decode cX7_bringIn 54 = .ok (.dup, 1) := by decide +kernel
theorem dX7_bringIn_55 : decode cX7_bringIn 55 = .ok (.getfield 228, 3) := by decide +kernel
theorem dX7_bringIn_58 : decode cX7_bringIn 58 = .ok (.iconst 1, 1) := by decide +kernel
theorem dX7_bringIn_59 : decode cX7_bringIn 59 = .ok (.iadd, 1) := by decide +kernel
theorem dX7_bringIn_60 : decode cX7_bringIn 60 = .ok (.putfield 228, 3) := by decide +kernel
theorem dX7_bringIn_63 : decode cX7_bringIn 63 = .ok (.return_, 1) := by decide +kernel
set_option maxRecDepth 20000 in
theorem ggX7_waitsForAnother_X7_hasBit : GoodIn wsX7_waitsForAnother wsX7_hasBit := goodIn_r _ [5] (by decide +kernel) (by decide +kernel)
set_option maxRecDepth 20000 in
theorem gX7_waitsForAnother_X7_hasBit : GoodIn wsX7_waitsForAnother (va_wsS RX7 136 yX7_hasBit wsX7_hasBit) := goodIn_app (goodIn_of _ (by decide +kernel)) ggX7_waitsForAnother_X7_hasBit
theorem dX7_waitsForAnother_0 : decode cX7_waitsForAnother 0 = .ok (.iconst 0, 1) := by decide +kernel
theorem dX7_waitsForAnother_1 : decode cX7_waitsForAnother 1 = .ok (.istore_n 2, 1) := by decide +kernel
theorem dX7_waitsForAnother_2 : decode cX7_waitsForAnother 2 = .ok (.iload_n 2, 1) := by decide +kernel
theorem dX7_waitsForAnother_3 : decode cX7_waitsForAnother 3 = .ok (.aload_n 0, 1) := by decide +kernel
theorem dX7_waitsForAnother_4 : decode cX7_waitsForAnother 4 = .ok (.getfield 22, 3) := by decide +kernel
theorem dX7_waitsForAnother_7 : decode cX7_waitsForAnother 7 = .ok (.arraylength, 1) := by decide +kernel
theorem dX7_waitsForAnother_8 : decode cX7_waitsForAnother 8 = .ok (.if_icmp .ge 40, 3) := by decide +kernel
theorem dX7_waitsForAnother_11 : decode cX7_waitsForAnother 11 = .ok (.aload_n 0, 1) := by decide +kernel
theorem dX7_waitsForAnother_12 : decode cX7_waitsForAnother 12 = .ok (.getfield 22, 3) := by decide +kernel
theorem dX7_waitsForAnother_15 : decode cX7_waitsForAnother 15 = .ok (.iload_n 2, 1) := by decide +kernel
theorem dX7_waitsForAnother_16 : decode cX7_waitsForAnother 16 = .ok (.aaload, 1) := by decide +kernel
theorem dX7_waitsForAnother_17 : decode cX7_waitsForAnother 17 = .ok (.astore_n 3, 1) := by decide +kernel
theorem dX7_waitsForAnother_18 : decode cX7_waitsForAnother 18 = .ok (.aload_n 3, 1) := by decide +kernel
theorem dX7_waitsForAnother_19 : decode cX7_waitsForAnother 19 = .ok (.ifnull 23, 3) := by decide +kernel
theorem dX7_waitsForAnother_22 : decode cX7_waitsForAnother 22 = .ok (.aload_n 1, 1) := by decide +kernel
theorem dX7_waitsForAnother_23 : decode cX7_waitsForAnother 23 = .ok (.getfield 145, 3) := by decide +kernel
theorem dX7_waitsForAnother_26 : decode cX7_waitsForAnother 26 = .ok (.iload_n 2, 1) := by decide +kernel
theorem dX7_waitsForAnother_27 : decode cX7_waitsForAnother 27 = .ok (.invokestatic 136, 3) := by decide +kernel
theorem dX7_waitsForAnother_30 : decode cX7_waitsForAnother 30 = .ok (.ifCond .eq 12, 3) := by decide +kernel
theorem dX7_waitsForAnother_33 : decode cX7_waitsForAnother 33 = .ok (.aload_n 3, 1) := by decide +kernel
theorem dX7_waitsForAnother_34 : decode cX7_waitsForAnother 34 = .ok (.getfield 301, 3) := by decide +kernel
theorem dX7_waitsForAnother_37 : decode cX7_waitsForAnother 37 = .ok (.ifCond .ne 5, 3) := by decide +kernel
theorem dX7_waitsForAnother_40 : decode cX7_waitsForAnother 40 = .ok (.iconst 1, 1) := by decide +kernel
theorem dX7_waitsForAnother_41 : decode cX7_waitsForAnother 41 = .ok (.ireturn, 1) := by decide +kernel
theorem dX7_waitsForAnother_42 : decode cX7_waitsForAnother 42 = .ok (.iinc 2 1, 3) := by decide +kernel
theorem dX7_waitsForAnother_45 : decode cX7_waitsForAnother 45 = .ok (.goto (-43), 3) := by decide +kernel
theorem dX7_waitsForAnother_48 : decode cX7_waitsForAnother 48 = .ok (.iconst 0, 1) := by decide +kernel
theorem dX7_waitsForAnother_49 : decode cX7_waitsForAnother 49 = .ok (.ireturn, 1) := by decide +kernel
set_option maxRecDepth 20000 in
theorem ggX7_allBefore_X7_hasBit : GoodIn wsX7_allBefore wsX7_hasBit := goodIn_r _ [5] (by decide +kernel) (by decide +kernel)
set_option maxRecDepth 20000 in
theorem gX7_allBefore_X7_hasBit : GoodIn wsX7_allBefore (va_wsS RX7 136 yX7_hasBit wsX7_hasBit) := goodIn_app (goodIn_of _ (by decide +kernel)) ggX7_allBefore_X7_hasBit
theorem dX7_allBefore_0 : decode cX7_allBefore 0 = .ok (.aload_n 1, 1) := by decide +kernel
theorem dX7_allBefore_1 : decode cX7_allBefore 1 = .ok (.getfield 145, 3) := by decide +kernel
theorem dX7_allBefore_4 : decode cX7_allBefore 4 = .ok (.istore_n 2, 1) := by decide +kernel
theorem dX7_allBefore_5 : decode cX7_allBefore 5 = .ok (.iconst 0, 1) := by decide +kernel
theorem dX7_allBefore_6 : decode cX7_allBefore 6 = .ok (.istore_n 3, 1) := by decide +kernel
theorem dX7_allBefore_7 : decode cX7_allBefore 7 = .ok (.iload_n 3, 1) := by decide +kernel
theorem dX7_allBefore_8 : decode cX7_allBefore 8 = .ok (.iconst 4, 1) := by decide +kernel
theorem dX7_allBefore_9 : decode cX7_allBefore 9 = .ok (.if_icmp .ge 59, 3) := by decide +kernel
theorem dX7_allBefore_12 : decode cX7_allBefore 12 = .ok (.iconst 0, 1) := by decide +kernel
theorem dX7_allBefore_13 : decode cX7_allBefore 13 = .ok (.istore 4, 2) := by decide +kernel
theorem dX7_allBefore_15 : decode cX7_allBefore 15 = .ok (.iload 4, 2) := by decide +kernel
theorem dX7_allBefore_17 : decode cX7_allBefore 17 = .ok (.aload_n 0, 1) := by decide +kernel
theorem dX7_allBefore_18 : decode cX7_allBefore 18 = .ok (.getfield 22, 3) := by decide +kernel
theorem dX7_allBefore_21 : decode cX7_allBefore 21 = .ok (.arraylength, 1) := by decide +kernel
theorem dX7_allBefore_22 : decode cX7_allBefore 22 = .ok (.if_icmp .ge 40, 3) := by decide +kernel
theorem dX7_allBefore_25 : decode cX7_allBefore 25 = .ok (.aload_n 0, 1) := by decide +kernel
theorem dX7_allBefore_26 : decode cX7_allBefore 26 = .ok (.getfield 22, 3) := by decide +kernel
theorem dX7_allBefore_29 : decode cX7_allBefore 29 = .ok (.iload 4, 2) := by decide +kernel
theorem dX7_allBefore_31 : decode cX7_allBefore 31 = .ok (.aaload, 1) := by decide +kernel
theorem dX7_allBefore_32 : decode cX7_allBefore 32 = .ok (.astore 5, 2) := by decide +kernel
theorem dX7_allBefore_34 : decode cX7_allBefore 34 = .ok (.aload 5, 2) := by decide +kernel
theorem dX7_allBefore_36 : decode cX7_allBefore 36 = .ok (.ifnull 20, 3) := by decide +kernel
theorem dX7_allBefore_39 : decode cX7_allBefore 39 = .ok (.iload_n 2, 1) := by decide +kernel
theorem dX7_allBefore_40 : decode cX7_allBefore 40 = .ok (.iload 4, 2) := by decide +kernel
theorem dX7_allBefore_42 : decode cX7_allBefore 42 = .ok (.invokestatic 136, 3) := by decide +kernel
theorem dX7_allBefore_45 : decode cX7_allBefore 45 = .ok (.ifCond .eq 11, 3) := by decide +kernel
theorem dX7_allBefore_48 : decode cX7_allBefore 48 = .ok (.iload_n 2, 1) := by decide +kernel
theorem dX7_allBefore_49 : decode cX7_allBefore 49 = .ok (.aload 5, 2) := by decide +kernel
theorem dX7_allBefore_51 : decode cX7_allBefore 51 = .ok (.getfield 145, 3) := by decide +kernel
theorem dX7_allBefore_54 : decode cX7_allBefore 54 = .ok (.ior, 1) := by decide +kernel
theorem dX7_allBefore_55 : decode cX7_allBefore 55 = .ok (.istore_n 2, 1) := by decide +kernel
theorem dX7_allBefore_56 : decode cX7_allBefore 56 = .ok (.iinc 4 1, 3) := by decide +kernel
theorem dX7_allBefore_59 : decode cX7_allBefore 59 = .ok (.goto (-44), 3) := by decide +kernel
theorem dX7_allBefore_62 : decode cX7_allBefore 62 = .ok (.iinc 3 1, 3) := by decide +kernel
theorem dX7_allBefore_65 : decode cX7_allBefore 65 = .ok (.goto (-58), 3) := by decide +kernel
theorem dX7_allBefore_68 : decode cX7_allBefore 68 = .ok (.iload_n 2, 1) := by decide +kernel
theorem dX7_allBefore_69 : decode cX7_allBefore 69 = .ok (.ireturn, 1) := by decide +kernel
set_option maxRecDepth 20000 in
theorem ggX7_neededUsers_X1_presentText : GoodIn wsX7_neededUsers wsX1_presentText := goodIn_r _ [5, 6, 7, 8, 9, 4, 10, 11, 12, 85, 86, 87, 88, 89, 90, 91, 92, 93, 94, 95] (by decide +kernel) (by decide +kernel)
set_option maxRecDepth 20000 in
theorem gX7_neededUsers_X1_presentText : GoodIn wsX7_neededUsers (wsV RX7 163 RX1 yX1_presentText wsX1_presentText) := goodIn_app (goodIn_of _ (by decide +kernel)) ggX7_neededUsers_X1_presentText
set_option maxRecDepth 20000 in
theorem ggX7_neededUsers_X7_alteredOwners : GoodIn wsX7_neededUsers wsX7_alteredOwners := goodIn_r _ [17, 18, 19, 20, 21, 22, 23, 24, 25, 26, 27, 28, 29, 30, 31, 32, 33, 34, 35, 36, 37, 38, 39, 40, 41, 42, 43, 44, 45, 16, 46, 47, 48, 49, 50, 51, 52, 53, 54, 55, 56, 57, 58, 59, 60, 61, 62, 63, 64, 65, 66, 67, 68, 69, 70, 71, 72, 73, 74, 75, 76, 77, 78, 79, 80, 81, 96, 97, 98, 99, 100, 101, 102, 103, 104, 105, 106, 107, 108, 109, 110, 111, 112, 113, 114] (by decide +kernel) (by decide +kernel)
set_option maxRecDepth 20000 in
theorem gX7_neededUsers_X7_alteredOwners : GoodIn wsX7_neededUsers (wsV RX7 345 RX7 yX7_alteredOwners wsX7_alteredOwners) := goodIn_app (goodIn_of _ (by decide +kernel)) ggX7_neededUsers_X7_alteredOwners
set_option maxRecDepth 20000 in
theorem ggX7_neededUsers_X7_withoutBit : GoodIn wsX7_neededUsers wsX7_withoutBit := goodIn_r _ [84] (by decide +kernel) (by decide +kernel)
set_option maxRecDepth 20000 in
theorem gX7_neededUsers_X7_withoutBit : GoodIn wsX7_neededUsers (va_wsS RX7 348 yX7_withoutBit wsX7_withoutBit) := goodIn_app (goodIn_of _ (by decide +kernel)) ggX7_neededUsers_X7_withoutBit
theorem dX7_neededUsers_0 : decode cX7_neededUsers 0 = .ok (.aload_n 1, 1) := by decide +kernel
theorem dX7_neededUsers_1 : decode cX7_neededUsers 1 = .ok (.getfield 124, 3) := by decide +kernel
theorem dX7_neededUsers_4 : decode cX7_neededUsers 4 = .ok (.ifCond .ne 5, 3) := by decide +kernel
theorem dX7_neededUsers_7 : decode cX7_neededUsers 7 = .ok (.iconst 0, 1) := by decide +kernel
theorem dX7_neededUsers_8 : decode cX7_neededUsers 8 = .ok (.ireturn, 1) := by decide +kernel
theorem dX7_neededUsers_9 : decode cX7_neededUsers 9 = .ok (.aload_n 0, 1) := by decide +kernel
theorem dX7_neededUsers_10 : decode cX7_neededUsers 10 = .ok (.aload_n 1, 1) := by decide +kernel
theorem dX7_neededUsers_11 : decode cX7_neededUsers 11 = .ok (.getfield 325, 3) := by decide +kernel
theorem dX7_neededUsers_14 : decode cX7_neededUsers 14 = .ok (.aload_n 1, 1) := by decide +kernel
theorem dX7_neededUsers_15 : decode cX7_neededUsers 15 = .ok (.invokevirtual 163, 3) := by decide +kernel
theorem dX7_neededUsers_18 : decode cX7_neededUsers 18 = .ok (.invokevirtual 345, 3) := by decide +kernel
theorem dX7_neededUsers_21 : decode cX7_neededUsers 21 = .ok (.aload_n 1, 1) := by decide +kernel
theorem dX7_neededUsers_22 : decode cX7_neededUsers 22 = .ok (.getfield 204, 3) := by decide +kernel
theorem dX7_neededUsers_25 : decode cX7_neededUsers 25 = .ok (.invokestatic 348, 3) := by decide +kernel
theorem dX7_neededUsers_28 : decode cX7_neededUsers 28 = .ok (.ireturn, 1) := by decide +kernel
set_option maxRecDepth 20000 in
theorem ggX7_freshUsers_X1_approversOf : GoodIn wsX7_freshUsers wsX1_approversOf := goodIn_r _ [5, 6, 7, 8, 9, 10, 11, 82, 83, 84, 85, 86, 87, 88, 89, 90, 91, 92] (by decide +kernel) (by decide +kernel)
set_option maxRecDepth 20000 in
theorem gX7_freshUsers_X1_approversOf : GoodIn wsX7_freshUsers (wsV RX7 351 RX1 yX1_approversOf wsX1_approversOf) := goodIn_app (goodIn_of _ (by decide +kernel)) ggX7_freshUsers_X1_approversOf
set_option maxRecDepth 20000 in
theorem ggX7_freshUsers_X1_textOf : GoodIn wsX7_freshUsers wsX1_textOf := goodIn_r _ [15, 16, 17, 82, 83, 84, 85, 86, 87, 88, 89, 90, 91, 92] (by decide +kernel) (by decide +kernel)
set_option maxRecDepth 20000 in
theorem gX7_freshUsers_X1_textOf : GoodIn wsX7_freshUsers (wsV RX7 293 RX1 yX1_textOf wsX1_textOf) := goodIn_app (goodIn_of _ (by decide +kernel)) ggX7_freshUsers_X1_textOf
set_option maxRecDepth 20000 in
theorem ggX7_freshUsers_X7_alteredOwners : GoodIn wsX7_freshUsers wsX7_alteredOwners := goodIn_r _ [21, 22, 23, 24, 25, 26, 27, 28, 29, 30, 31, 32, 33, 34, 35, 36, 37, 38, 39, 40, 41, 42, 43, 44, 45, 46, 47, 48, 49, 8, 50, 7, 9, 51, 52, 53, 54, 55, 56, 57, 58, 59, 60, 61, 62, 63, 64, 65, 66, 67, 68, 69, 70, 71, 72, 73, 74, 75, 76, 77, 78, 79, 80, 81, 10, 11, 93, 94, 95, 96, 97, 98, 99, 100, 101, 102, 103, 104, 105, 106, 107, 108, 109, 110, 111] (by decide +kernel) (by decide +kernel)
set_option maxRecDepth 20000 in
theorem gX7_freshUsers_X7_alteredOwners : GoodIn wsX7_freshUsers (wsV RX7 345 RX7 yX7_alteredOwners wsX7_alteredOwners) := goodIn_app (goodIn_of _ (by decide +kernel)) ggX7_freshUsers_X7_alteredOwners
theorem dX7_freshUsers_0 : decode cX7_freshUsers 0 = .ok (.iconst 0, 1) := by decide +kernel
theorem dX7_freshUsers_1 : decode cX7_freshUsers 1 = .ok (.istore_n 2, 1) := by decide +kernel
theorem dX7_freshUsers_2 : decode cX7_freshUsers 2 = .ok (.iconst 0, 1) := by decide +kernel
theorem dX7_freshUsers_3 : decode cX7_freshUsers 3 = .ok (.istore_n 3, 1) := by decide +kernel
theorem dX7_freshUsers_4 : decode cX7_freshUsers 4 = .ok (.aload_n 1, 1) := by decide +kernel
theorem dX7_freshUsers_5 : decode cX7_freshUsers 5 = .ok (.getfield 124, 3) := by decide +kernel
theorem dX7_freshUsers_8 : decode cX7_freshUsers 8 = .ok (.iconst 1, 1) := by decide +kernel
theorem dX7_freshUsers_9 : decode cX7_freshUsers 9 = .ok (.isub, 1) := by decide +kernel
theorem dX7_freshUsers_10 : decode cX7_freshUsers 10 = .ok (.istore 4, 2) := by decide +kernel
theorem dX7_freshUsers_12 : decode cX7_freshUsers 12 = .ok (.iload 4, 2) := by decide +kernel
theorem dX7_freshUsers_14 : decode cX7_freshUsers 14 = .ok (.ifCond .lt 48, 3) := by decide +kernel
theorem dX7_freshUsers_17 : decode cX7_freshUsers 17 = .ok (.iload_n 2, 1) := by decide +kernel
theorem dX7_freshUsers_18 : decode cX7_freshUsers 18 = .ok (.aload_n 1, 1) := by decide +kernel
theorem dX7_freshUsers_19 : decode cX7_freshUsers 19 = .ok (.iload 4, 2) := by decide +kernel
theorem dX7_freshUsers_21 : decode cX7_freshUsers 21 = .ok (.invokevirtual 351, 3) := by decide +kernel
theorem dX7_freshUsers_24 : decode cX7_freshUsers 24 = .ok (.iload_n 3, 1) := by decide +kernel
theorem dX7_freshUsers_25 : decode cX7_freshUsers 25 = .ok (.iconst (-1), 1) := by decide +kernel
theorem dX7_freshUsers_26 : decode cX7_freshUsers 26 = .ok (.ixor, 1) := by decide +kernel
theorem dX7_freshUsers_27 : decode cX7_freshUsers 27 = .ok (.iand, 1) := by decide +kernel
theorem dX7_freshUsers_28 : decode cX7_freshUsers 28 = .ok (.ior, 1) := by decide +kernel
theorem dX7_freshUsers_29 : decode cX7_freshUsers 29 = .ok (.istore_n 2, 1) := by decide +kernel
theorem dX7_freshUsers_30 : decode cX7_freshUsers 30 = .ok (.iload 4, 2) := by decide +kernel
theorem dX7_freshUsers_32 : decode cX7_freshUsers 32 = .ok (.ifCond .le 24, 3) := by decide +kernel
theorem dX7_freshUsers_35 : decode cX7_freshUsers 35 = .ok (.iload_n 3, 1) := by decide +kernel
theorem dX7_freshUsers_36 : decode cX7_freshUsers 36 = .ok (.aload_n 0, 1) := by decide +kernel
theorem dX7_freshUsers_37 : decode cX7_freshUsers 37 = .ok (.aload_n 1, 1) := by decide +kernel
theorem dX7_freshUsers_38 : decode cX7_freshUsers 38 = .ok (.iload 4, 2) := by decide +kernel
theorem dX7_freshUsers_40 : decode cX7_freshUsers 40 = .ok (.iconst 1, 1) := by decide +kernel
theorem dX7_freshUsers_41 : decode cX7_freshUsers 41 = .ok (.isub, 1) := by decide +kernel
theorem dX7_freshUsers_42 : decode cX7_freshUsers 42 = .ok (.invokevirtual 293, 3) := by decide +kernel
theorem dX7_freshUsers_45 : decode cX7_freshUsers 45 = .ok (.aload_n 1, 1) := by decide +kernel
theorem dX7_freshUsers_46 : decode cX7_freshUsers 46 = .ok (.iload 4, 2) := by decide +kernel
theorem dX7_freshUsers_48 : decode cX7_freshUsers 48 = .ok (.invokevirtual 293, 3) := by decide +kernel
theorem dX7_freshUsers_51 : decode cX7_freshUsers 51 = .ok (.invokevirtual 345, 3) := by decide +kernel
theorem dX7_freshUsers_54 : decode cX7_freshUsers 54 = .ok (.ior, 1) := by decide +kernel
theorem dX7_freshUsers_55 : decode cX7_freshUsers 55 = .ok (.istore_n 3, 1) := by decide +kernel
theorem dX7_freshUsers_56 : decode cX7_freshUsers 56 = .ok (.iinc 4 (-1), 3) := by decide +kernel
theorem dX7_freshUsers_59 : decode cX7_freshUsers 59 = .ok (.goto (-47), 3) := by decide +kernel
theorem dX7_freshUsers_62 : decode cX7_freshUsers 62 = .ok (.iload_n 2, 1) := by decide +kernel
theorem dX7_freshUsers_63 : decode cX7_freshUsers 63 = .ok (.ireturn, 1) := by decide +kernel
set_option maxRecDepth 20000 in
theorem ggX7_alteredOwners_X4_find : GoodIn wsX7_alteredOwners wsX4_find := goodIn_r _ [7, 8, 9, 10, 6, 11, 12, 13, 14, 15, 16, 17, 18, 19, 20, 21, 22, 23, 24, 25, 26, 27, 28, 29, 30, 31, 32, 33, 34, 35, 36, 37, 38, 39, 40, 41, 42, 43, 44, 45, 46, 47, 48, 49, 50, 51, 52, 53, 79, 80, 81, 82, 83, 84] (by decide +kernel) (by decide +kernel)
set_option maxRecDepth 20000 in
theorem gX7_alteredOwners_X4_find : GoodIn wsX7_alteredOwners (wsV RX7 255 RX4 yX4_find wsX4_find) := goodIn_app (goodIn_of _ (by decide +kernel)) ggX7_alteredOwners_X4_find
set_option maxRecDepth 20000 in
theorem ggX7_alteredOwners_X4_size : GoodIn wsX7_alteredOwners wsX4_size := goodIn_r _ [57, 39, 79, 80, 81, 82] (by decide +kernel) (by decide +kernel)
set_option maxRecDepth 20000 in
theorem gX7_alteredOwners_X4_size : GoodIn wsX7_alteredOwners (wsV RX7 259 RX4 yX4_size wsX4_size) := goodIn_app (goodIn_of _ (by decide +kernel)) ggX7_alteredOwners_X4_size
set_option maxRecDepth 20000 in
theorem ggX7_alteredOwners_X4_alteredContent : GoodIn wsX7_alteredOwners wsX4_alteredContent := goodIn_r _ [61, 53, 31, 29, 32, 79, 80, 81, 82] (by decide +kernel) (by decide +kernel)
set_option maxRecDepth 20000 in
theorem gX7_alteredOwners_X4_alteredContent : GoodIn wsX7_alteredOwners (wsV RX7 354 RX4 yX4_alteredContent wsX4_alteredContent) := goodIn_app (goodIn_of _ (by decide +kernel)) ggX7_alteredOwners_X4_alteredContent
set_option maxRecDepth 20000 in
theorem ggX7_alteredOwners_X7_cell : GoodIn wsX7_alteredOwners wsX7_cell := goodIn_r _ [32] (by decide +kernel) (by decide +kernel)
set_option maxRecDepth 20000 in
theorem gX7_alteredOwners_X7_cell : GoodIn wsX7_alteredOwners (va_wsS RX7 240 yX7_cell wsX7_cell) := goodIn_app (goodIn_of _ (by decide +kernel)) ggX7_alteredOwners_X7_cell
set_option maxRecDepth 20000 in
theorem ggX7_alteredOwners_X7_withBit : GoodIn wsX7_alteredOwners wsX7_withBit := goodIn_r _ [65] (by decide +kernel) (by decide +kernel)
set_option maxRecDepth 20000 in
theorem gX7_alteredOwners_X7_withBit : GoodIn wsX7_alteredOwners (va_wsS RX7 148 yX7_withBit wsX7_withBit) := goodIn_app (goodIn_of _ (by decide +kernel)) ggX7_alteredOwners_X7_withBit
theorem dX7_alteredOwners_0 : decode cX7_alteredOwners 0 = .ok (.aload_n 0, 1) := by decide +kernel
theorem dX7_alteredOwners_1 : decode cX7_alteredOwners 1 = .ok (.getfield 38, 3) := by decide +kernel
theorem dX7_alteredOwners_4 : decode cX7_alteredOwners 4 = .ok (.aload_n 1, 1) := by decide +kernel
theorem dX7_alteredOwners_5 : decode cX7_alteredOwners 5 = .ok (.aload_n 2, 1) := by decide +kernel
theorem dX7_alteredOwners_6 : decode cX7_alteredOwners 6 = .ok (.invokevirtual 255, 3) := by decide +kernel
theorem dX7_alteredOwners_9 : decode cX7_alteredOwners 9 = .ok (.iconst 0, 1) := by decide +kernel
theorem dX7_alteredOwners_10 : decode cX7_alteredOwners 10 = .ok (.istore_n 3, 1) := by decide +kernel
theorem dX7_alteredOwners_11 : decode cX7_alteredOwners 11 = .ok (.iconst 0, 1) := by decide +kernel
theorem dX7_alteredOwners_12 : decode cX7_alteredOwners 12 = .ok (.istore 4, 2) := by decide +kernel
theorem dX7_alteredOwners_14 : decode cX7_alteredOwners 14 = .ok (.iload 4, 2) := by decide +kernel
theorem dX7_alteredOwners_16 : decode cX7_alteredOwners 16 = .ok (.aload_n 0, 1) := by decide +kernel
theorem dX7_alteredOwners_17 : decode cX7_alteredOwners 17 = .ok (.getfield 38, 3) := by decide +kernel
theorem dX7_alteredOwners_20 : decode cX7_alteredOwners 20 = .ok (.invokevirtual 259, 3) := by decide +kernel
theorem dX7_alteredOwners_23 : decode cX7_alteredOwners 23 = .ok (.if_icmp .ge 40, 3) := by decide +kernel
theorem dX7_alteredOwners_26 : decode cX7_alteredOwners 26 = .ok (.aload_n 0, 1) := by decide +kernel
theorem dX7_alteredOwners_27 : decode cX7_alteredOwners 27 = .ok (.getfield 16, 3) := by decide +kernel
theorem dX7_alteredOwners_30 : decode cX7_alteredOwners 30 = .ok (.aload_n 0, 1) := by decide +kernel
theorem dX7_alteredOwners_31 : decode cX7_alteredOwners 31 = .ok (.getfield 38, 3) := by decide +kernel
theorem dX7_alteredOwners_34 : decode cX7_alteredOwners 34 = .ok (.iload 4, 2) := by decide +kernel
theorem dX7_alteredOwners_36 : decode cX7_alteredOwners 36 = .ok (.invokevirtual 354, 3) := by decide +kernel
theorem dX7_alteredOwners_39 : decode cX7_alteredOwners 39 = .ok (.invokestatic 240, 3) := by decide +kernel
theorem dX7_alteredOwners_42 : decode cX7_alteredOwners 42 = .ok (.istore 5, 2) := by decide +kernel
theorem dX7_alteredOwners_44 : decode cX7_alteredOwners 44 = .ok (.iload 5, 2) := by decide +kernel
theorem dX7_alteredOwners_46 : decode cX7_alteredOwners 46 = .ok (.iconst (-1), 1) := by decide +kernel
theorem dX7_alteredOwners_47 : decode cX7_alteredOwners 47 = .ok (.if_icmp .eq 10, 3) := by decide +kernel
theorem dX7_alteredOwners_50 : decode cX7_alteredOwners 50 = .ok (.iload_n 3, 1) := by decide +kernel
theorem dX7_alteredOwners_51 : decode cX7_alteredOwners 51 = .ok (.iload 5, 2) := by decide +kernel
theorem dX7_alteredOwners_53 : decode cX7_alteredOwners 53 = .ok (.invokestatic 148, 3) := by decide +kernel
theorem dX7_alteredOwners_56 : decode cX7_alteredOwners 56 = .ok (.istore_n 3, 1) := by decide +kernel
theorem dX7_alteredOwners_57 : decode cX7_alteredOwners 57 = .ok (.iinc 4 1, 3) := by decide +kernel
theorem dX7_alteredOwners_60 : decode cX7_alteredOwners 60 = .ok (.goto (-46), 3) := by decide +kernel
theorem dX7_alteredOwners_63 : decode cX7_alteredOwners 63 = .ok (.iload_n 3, 1) := by decide +kernel
theorem dX7_alteredOwners_64 : decode cX7_alteredOwners 64 = .ok (.ireturn, 1) := by decide +kernel
theorem dX7_countOpen_0 : decode cX7_countOpen 0 = .ok (.iconst 0, 1) := by decide +kernel
theorem dX7_countOpen_1 : decode cX7_countOpen 1 = .ok (.istore_n 2, 1) := by decide +kernel
theorem dX7_countOpen_2 : decode cX7_countOpen 2 = .ok (.iconst 0, 1) := by decide +kernel
theorem dX7_countOpen_3 : decode cX7_countOpen 3 = .ok (.istore_n 3, 1) := by decide +kernel
theorem dX7_countOpen_4 : decode cX7_countOpen 4 = .ok (.iload_n 3, 1) := by decide +kernel
theorem dX7_countOpen_5 : decode cX7_countOpen 5 = .ok (.aload_n 0, 1) := by decide +kernel
theorem dX7_countOpen_6 : decode cX7_countOpen 6 = .ok (.getfield 28, 3) := by decide +kernel
theorem dX7_countOpen_9 : decode cX7_countOpen 9 = .ok (.arraylength, 1) := by decide +kernel
theorem dX7_countOpen_10 : decode cX7_countOpen 10 = .ok (.if_icmp .ge 42, 3) := by decide +kernel
theorem dX7_countOpen_13 : decode cX7_countOpen 13 = .ok (.aload_n 0, 1) := by decide +kernel
theorem dX7_countOpen_14 : decode cX7_countOpen 14 = .ok (.getfield 28, 3) := by decide +kernel
theorem dX7_countOpen_17 : decode cX7_countOpen 17 = .ok (.iload_n 3, 1) := by decide +kernel
theorem dX7_countOpen_18 : decode cX7_countOpen 18 = .ok (.aaload, 1) := by decide +kernel
theorem dX7_countOpen_19 : decode cX7_countOpen 19 = .ok (.astore 4, 2) := by decide +kernel
theorem dX7_countOpen_21 : decode cX7_countOpen 21 = .ok (.aload 4, 2) := by decide +kernel
theorem dX7_countOpen_23 : decode cX7_countOpen 23 = .ok (.ifnull 23, 3) := by decide +kernel
theorem dX7_countOpen_26 : decode cX7_countOpen 26 = .ok (.aload 4, 2) := by decide +kernel
theorem dX7_countOpen_28 : decode cX7_countOpen 28 = .ok (.getfield 194, 3) := by decide +kernel
theorem dX7_countOpen_31 : decode cX7_countOpen 31 = .ok (.aload_n 1, 1) := by decide +kernel
theorem dX7_countOpen_32 : decode cX7_countOpen 32 = .ok (.if_acmp .ne 14, 3) := by decide +kernel
theorem dX7_countOpen_35 : decode cX7_countOpen 35 = .ok (.aload 4, 2) := by decide +kernel
theorem dX7_countOpen_37 : decode cX7_countOpen 37 = .ok (.getfield 188, 3) := by decide +kernel
theorem dX7_countOpen_40 : decode cX7_countOpen 40 = .ok (.ifCond .ne 6, 3) := by decide +kernel
theorem dX7_countOpen_43 : decode cX7_countOpen 43 = .ok (.iinc 2 1, 3) := by decide +kernel
theorem dX7_countOpen_46 : decode cX7_countOpen 46 = .ok (.iinc 3 1, 3) := by decide +kernel
theorem dX7_countOpen_49 : decode cX7_countOpen 49 = .ok (.goto (-45), 3) := by decide +kernel
theorem dX7_countOpen_52 : decode cX7_countOpen 52 = .ok (.iload_n 2, 1) := by decide +kernel
theorem dX7_countOpen_53 : decode cX7_countOpen 53 = .ok (.ireturn, 1) := by decide +kernel
set_option maxRecDepth 20000 in
theorem ggX7_placeForwards_X1_textOf : GoodIn wsX7_placeForwards wsX1_textOf := goodIn_r _ [6, 7, 8, 81, 82, 83, 84, 85, 86, 87, 88, 89, 90, 91] (by decide +kernel) (by decide +kernel)
set_option maxRecDepth 20000 in
theorem gX7_placeForwards_X1_textOf : GoodIn wsX7_placeForwards (wsV RX7 293 RX1 yX1_textOf wsX1_textOf) := goodIn_app (goodIn_of _ (by decide +kernel)) ggX7_placeForwards_X1_textOf
set_option maxRecDepth 20000 in
theorem ggX7_placeForwards_X4_find : GoodIn wsX7_placeForwards wsX4_find := goodIn_r _ [13, 14, 15, 16, 12, 17, 18, 19, 20, 21, 22, 23, 24, 25, 26, 27, 28, 29, 30, 31, 32, 33, 34, 35, 36, 37, 38, 39, 40, 41, 42, 43, 44, 45, 46, 47, 48, 49, 50, 51, 52, 53, 54, 55, 56, 57, 58, 59, 92, 93, 94, 95, 96, 97] (by decide +kernel) (by decide +kernel)
set_option maxRecDepth 20000 in
theorem gX7_placeForwards_X4_find : GoodIn wsX7_placeForwards (wsV RX7 255 RX4 yX4_find wsX4_find) := goodIn_app (goodIn_of _ (by decide +kernel)) ggX7_placeForwards_X4_find
set_option maxRecDepth 20000 in
theorem ggX7_placeForwards_X4_keptAs : GoodIn wsX7_placeForwards wsX4_keptAs := goodIn_r _ [63, 46, 37, 35, 38, 92, 93, 94, 95] (by decide +kernel) (by decide +kernel)
set_option maxRecDepth 20000 in
theorem gX7_placeForwards_X4_keptAs : GoodIn wsX7_placeForwards (wsV RX7 360 RX4 yX4_keptAs wsX4_keptAs) := goodIn_app (goodIn_of _ (by decide +kernel)) ggX7_placeForwards_X4_keptAs
theorem dX7_placeForwards_0 : decode cX7_placeForwards 0 = .ok (.aload_n 1, 1) := by decide +kernel
theorem dX7_placeForwards_1 : decode cX7_placeForwards 1 = .ok (.getfield 357, 3) := by decide +kernel
theorem dX7_placeForwards_4 : decode cX7_placeForwards 4 = .ok (.istore_n 3, 1) := by decide +kernel
theorem dX7_placeForwards_5 : decode cX7_placeForwards 5 = .ok (.aload_n 1, 1) := by decide +kernel
theorem dX7_placeForwards_6 : decode cX7_placeForwards 6 = .ok (.getfield 314, 3) := by decide +kernel
theorem dX7_placeForwards_9 : decode cX7_placeForwards 9 = .ok (.istore 4, 2) := by decide +kernel
theorem dX7_placeForwards_11 : decode cX7_placeForwards 11 = .ok (.iload 4, 2) := by decide +kernel
theorem dX7_placeForwards_13 : decode cX7_placeForwards 13 = .ok (.iload_n 2, 1) := by decide +kernel
theorem dX7_placeForwards_14 : decode cX7_placeForwards 14 = .ok (.if_icmp .ge 50, 3) := by decide +kernel
theorem dX7_placeForwards_17 : decode cX7_placeForwards 17 = .ok (.iload_n 3, 1) := by decide +kernel
theorem dX7_placeForwards_18 : decode cX7_placeForwards 18 = .ok (.iconst (-1), 1) := by decide +kernel
theorem dX7_placeForwards_19 : decode cX7_placeForwards 19 = .ok (.if_icmp .eq 45, 3) := by decide +kernel
theorem dX7_placeForwards_22 : decode cX7_placeForwards 22 = .ok (.aload_n 0, 1) := by decide +kernel
theorem dX7_placeForwards_23 : decode cX7_placeForwards 23 = .ok (.getfield 38, 3) := by decide +kernel
theorem dX7_placeForwards_26 : decode cX7_placeForwards 26 = .ok (.aload_n 1, 1) := by decide +kernel
theorem dX7_placeForwards_27 : decode cX7_placeForwards 27 = .ok (.getfield 194, 3) := by decide +kernel
theorem dX7_placeForwards_30 : decode cX7_placeForwards 30 = .ok (.iload 4, 2) := by decide +kernel
theorem dX7_placeForwards_32 : decode cX7_placeForwards 32 = .ok (.invokevirtual 293, 3) := by decide +kernel
theorem dX7_placeForwards_35 : decode cX7_placeForwards 35 = .ok (.aload_n 1, 1) := by decide +kernel
theorem dX7_placeForwards_36 : decode cX7_placeForwards 36 = .ok (.getfield 194, 3) := by decide +kernel
theorem dX7_placeForwards_39 : decode cX7_placeForwards 39 = .ok (.iload 4, 2) := by decide +kernel
theorem dX7_placeForwards_41 : decode cX7_placeForwards 41 = .ok (.iconst 1, 1) := by decide +kernel
theorem dX7_placeForwards_42 : decode cX7_placeForwards 42 = .ok (.iadd, 1) := by decide +kernel
theorem dX7_placeForwards_43 : decode cX7_placeForwards 43 = .ok (.invokevirtual 293, 3) := by decide +kernel
theorem dX7_placeForwards_46 : decode cX7_placeForwards 46 = .ok (.invokevirtual 255, 3) := by decide +kernel
theorem dX7_placeForwards_49 : decode cX7_placeForwards 49 = .ok (.aload_n 0, 1) := by decide +kernel
theorem dX7_placeForwards_50 : decode cX7_placeForwards 50 = .ok (.getfield 38, 3) := by decide +kernel
theorem dX7_placeForwards_53 : decode cX7_placeForwards 53 = .ok (.iload_n 3, 1) := by decide +kernel
theorem dX7_placeForwards_54 : decode cX7_placeForwards 54 = .ok (.invokevirtual 360, 3) := by decide +kernel
theorem dX7_placeForwards_57 : decode cX7_placeForwards 57 = .ok (.istore_n 3, 1) := by decide +kernel
theorem dX7_placeForwards_58 : decode cX7_placeForwards 58 = .ok (.iinc 4 1, 3) := by decide +kernel
theorem dX7_placeForwards_61 : decode cX7_placeForwards 61 = .ok (.goto (-50), 3) := by decide +kernel
theorem dX7_placeForwards_64 : decode cX7_placeForwards 64 = .ok (.iload_n 3, 1) := by decide +kernel
theorem dX7_placeForwards_65 : decode cX7_placeForwards 65 = .ok (.ireturn, 1) := by decide +kernel
set_option maxRecDepth 20000 in
theorem ggX7_placeBackwards_X1_textOf : GoodIn wsX7_placeBackwards wsX1_textOf := goodIn_r _ [5, 6, 7, 54, 55, 56, 57, 58, 59, 60, 61, 62, 63, 64] (by decide +kernel) (by decide +kernel)
set_option maxRecDepth 20000 in
theorem gX7_placeBackwards_X1_textOf : GoodIn wsX7_placeBackwards (wsV RX7 293 RX1 yX1_textOf wsX1_textOf) := goodIn_app (goodIn_of _ (by decide +kernel)) ggX7_placeBackwards_X1_textOf
set_option maxRecDepth 20000 in
theorem ggX7_placeBackwards_X5_size : GoodIn wsX7_placeBackwards wsX5_size := goodIn_r _ [12, 13, 65, 66] (by decide +kernel) (by decide +kernel)
set_option maxRecDepth 20000 in
theorem gX7_placeBackwards_X5_size : GoodIn wsX7_placeBackwards (wsV RX7 115 RX5 yX5_size wsX5_size) := goodIn_app (goodIn_of _ (by decide +kernel)) ggX7_placeBackwards_X5_size
set_option maxRecDepth 20000 in
theorem ggX7_placeBackwards_X7_lineWhenMade : GoodIn wsX7_placeBackwards wsX7_lineWhenMade := goodIn_r _ [18, 19, 1, 2, 3, 4, 5, 6, 7, 20, 21, 22, 23, 24, 25, 26, 27, 28, 29, 30, 31, 32, 33, 34, 9, 10, 11, 12, 13, 35, 36, 37, 38, 39, 40, 41, 42, 43, 44, 17, 45, 46, 47, 48, 49, 50, 51, 52, 53, 67, 68, 69, 70, 71, 72, 73, 74, 75, 76, 77, 78, 79, 54, 55, 56, 57, 58, 59, 60, 61, 62, 63, 64, 80, 65, 66] (by decide +kernel) (by decide +kernel)
set_option maxRecDepth 20000 in
theorem gX7_placeBackwards_X7_lineWhenMade : GoodIn wsX7_placeBackwards (wsV RX7 363 RX7 yX7_lineWhenMade wsX7_lineWhenMade) := goodIn_app (goodIn_of _ (by decide +kernel)) ggX7_placeBackwards_X7_lineWhenMade
theorem dX7_placeBackwards_0 : decode cX7_placeBackwards 0 = .ok (.aload_n 1, 1) := by decide +kernel
theorem dX7_placeBackwards_1 : decode cX7_placeBackwards 1 = .ok (.getfield 194, 3) := by decide +kernel
theorem dX7_placeBackwards_4 : decode cX7_placeBackwards 4 = .ok (.iload_n 2, 1) := by decide +kernel
theorem dX7_placeBackwards_5 : decode cX7_placeBackwards 5 = .ok (.invokevirtual 293, 3) := by decide +kernel
theorem dX7_placeBackwards_8 : decode cX7_placeBackwards 8 = .ok (.invokevirtual 115, 3) := by decide +kernel
theorem dX7_placeBackwards_11 : decode cX7_placeBackwards 11 = .ok (.istore_n 3, 1) := by decide +kernel
theorem dX7_placeBackwards_12 : decode cX7_placeBackwards 12 = .ok (.iconst 0, 1) := by decide +kernel
theorem dX7_placeBackwards_13 : decode cX7_placeBackwards 13 = .ok (.istore 4, 2) := by decide +kernel
theorem dX7_placeBackwards_15 : decode cX7_placeBackwards 15 = .ok (.iload 4, 2) := by decide +kernel
theorem dX7_placeBackwards_17 : decode cX7_placeBackwards 17 = .ok (.iload_n 3, 1) := by decide +kernel
theorem dX7_placeBackwards_18 : decode cX7_placeBackwards 18 = .ok (.if_icmp .ge 27, 3) := by decide +kernel
theorem dX7_placeBackwards_21 : decode cX7_placeBackwards 21 = .ok (.aload_n 0, 1) := by decide +kernel
theorem dX7_placeBackwards_22 : decode cX7_placeBackwards 22 = .ok (.aload_n 1, 1) := by decide +kernel
theorem dX7_placeBackwards_23 : decode cX7_placeBackwards 23 = .ok (.iload_n 2, 1) := by decide +kernel
theorem dX7_placeBackwards_24 : decode cX7_placeBackwards 24 = .ok (.iload 4, 2) := by decide +kernel
theorem dX7_placeBackwards_26 : decode cX7_placeBackwards 26 = .ok (.invokevirtual 363, 3) := by decide +kernel
theorem dX7_placeBackwards_29 : decode cX7_placeBackwards 29 = .ok (.aload_n 1, 1) := by decide +kernel
theorem dX7_placeBackwards_30 : decode cX7_placeBackwards 30 = .ok (.getfield 357, 3) := by decide +kernel
theorem dX7_placeBackwards_33 : decode cX7_placeBackwards 33 = .ok (.if_icmp .ne 6, 3) := by decide +kernel
theorem dX7_placeBackwards_36 : decode cX7_placeBackwards 36 = .ok (.iload 4, 2) := by decide +kernel
theorem dX7_placeBackwards_38 : decode cX7_placeBackwards 38 = .ok (.ireturn, 1) := by decide +kernel
theorem dX7_placeBackwards_39 : decode cX7_placeBackwards 39 = .ok (.iinc 4 1, 3) := by decide +kernel
theorem dX7_placeBackwards_42 : decode cX7_placeBackwards 42 = .ok (.goto (-27), 3) := by decide +kernel
theorem dX7_placeBackwards_45 : decode cX7_placeBackwards 45 = .ok (.iconst (-1), 1) := by decide +kernel
theorem dX7_placeBackwards_46 : decode cX7_placeBackwards 46 = .ok (.ireturn, 1) := by decide +kernel
set_option maxRecDepth 20000 in
theorem ggX7_lineWhenMade_X1_textOf : GoodIn wsX7_lineWhenMade wsX1_textOf := goodIn_r _ [6, 7, 8, 62, 63, 64, 65, 66, 67, 68, 69, 70, 71, 72] (by decide +kernel) (by decide +kernel)
set_option maxRecDepth 20000 in
theorem gX7_lineWhenMade_X1_textOf : GoodIn wsX7_lineWhenMade (wsV RX7 293 RX1 yX1_textOf wsX1_textOf) := goodIn_app (goodIn_of _ (by decide +kernel)) ggX7_lineWhenMade_X1_textOf
set_option maxRecDepth 20000 in
theorem ggX7_lineWhenMade_X0_lineBefore : GoodIn wsX7_lineWhenMade wsX0_lineBefore := goodIn_r _ [13, 14, 15, 16, 17, 12, 18, 19, 20, 21, 22, 23, 24, 25, 26, 27, 28, 29, 30, 31, 32, 33, 34, 35, 36, 37, 38, 39, 40, 41, 42, 43, 44, 73, 74, 75] (by decide +kernel) (by decide +kernel)
set_option maxRecDepth 20000 in
theorem gX7_lineWhenMade_X0_lineBefore : GoodIn wsX7_lineWhenMade (wsV RX7 367 RX0 yX0_lineBefore wsX0_lineBefore) := goodIn_app (goodIn_of _ (by decide +kernel)) ggX7_lineWhenMade_X0_lineBefore
theorem dX7_lineWhenMade_0 : decode cX7_lineWhenMade 0 = .ok (.iload_n 3, 1) := by decide +kernel
theorem dX7_lineWhenMade_1 : decode cX7_lineWhenMade 1 = .ok (.istore 4, 2) := by decide +kernel
theorem dX7_lineWhenMade_3 : decode cX7_lineWhenMade 3 = .ok (.iload_n 2, 1) := by decide +kernel
theorem dX7_lineWhenMade_4 : decode cX7_lineWhenMade 4 = .ok (.istore 5, 2) := by decide +kernel
theorem dX7_lineWhenMade_6 : decode cX7_lineWhenMade 6 = .ok (.iload 5, 2) := by decide +kernel
theorem dX7_lineWhenMade_8 : decode cX7_lineWhenMade 8 = .ok (.aload_n 1, 1) := by decide +kernel
theorem dX7_lineWhenMade_9 : decode cX7_lineWhenMade 9 = .ok (.getfield 314, 3) := by decide +kernel
theorem dX7_lineWhenMade_12 : decode cX7_lineWhenMade 12 = .ok (.if_icmp .le 46, 3) := by decide +kernel
theorem dX7_lineWhenMade_15 : decode cX7_lineWhenMade 15 = .ok (.iload 4, 2) := by decide +kernel
theorem dX7_lineWhenMade_17 : decode cX7_lineWhenMade 17 = .ok (.iconst (-1), 1) := by decide +kernel
theorem dX7_lineWhenMade_18 : decode cX7_lineWhenMade 18 = .ok (.if_icmp .eq 40, 3) := by decide +kernel
theorem dX7_lineWhenMade_21 : decode cX7_lineWhenMade 21 = .ok (.aload_n 0, 1) := by decide +kernel
theorem dX7_lineWhenMade_22 : decode cX7_lineWhenMade 22 = .ok (.getfield 52, 3) := by decide +kernel
theorem dX7_lineWhenMade_25 : decode cX7_lineWhenMade 25 = .ok (.aload_n 1, 1) := by decide +kernel
theorem dX7_lineWhenMade_26 : decode cX7_lineWhenMade 26 = .ok (.getfield 194, 3) := by decide +kernel
theorem dX7_lineWhenMade_29 : decode cX7_lineWhenMade 29 = .ok (.iload 5, 2) := by decide +kernel
theorem dX7_lineWhenMade_31 : decode cX7_lineWhenMade 31 = .ok (.iconst 1, 1) := by decide +kernel
theorem dX7_lineWhenMade_32 : decode cX7_lineWhenMade 32 = .ok (.isub, 1) := by decide +kernel
theorem dX7_lineWhenMade_33 : decode cX7_lineWhenMade 33 = .ok (.invokevirtual 293, 3) := by decide +kernel
theorem dX7_lineWhenMade_36 : decode cX7_lineWhenMade 36 = .ok (.aload_n 1, 1) := by decide +kernel
theorem dX7_lineWhenMade_37 : decode cX7_lineWhenMade 37 = .ok (.getfield 194, 3) := by decide +kernel
theorem dX7_lineWhenMade_40 : decode cX7_lineWhenMade 40 = .ok (.iload 5, 2) := by decide +kernel
theorem dX7_lineWhenMade_42 : decode cX7_lineWhenMade 42 = .ok (.invokevirtual 293, 3) := by decide +kernel
theorem dX7_lineWhenMade_45 : decode cX7_lineWhenMade 45 = .ok (.iload 4, 2) := by decide +kernel
theorem dX7_lineWhenMade_47 : decode cX7_lineWhenMade 47 = .ok (.invokevirtual 367, 3) := by decide +kernel
theorem dX7_lineWhenMade_50 : decode cX7_lineWhenMade 50 = .ok (.istore 4, 2) := by decide +kernel
theorem dX7_lineWhenMade_52 : decode cX7_lineWhenMade 52 = .ok (.iinc 5 (-1), 3) := by decide +kernel
theorem dX7_lineWhenMade_55 : decode cX7_lineWhenMade 55 = .ok (.goto (-49), 3) := by decide +kernel
theorem dX7_lineWhenMade_58 : decode cX7_lineWhenMade 58 = .ok (.iload 4, 2) := by decide +kernel
theorem dX7_lineWhenMade_60 : decode cX7_lineWhenMade 60 = .ok (.ireturn, 1) := by decide +kernel
theorem dX8_init_0 : decode cX8_init 0 = .ok (.aload_n 0, 1) := by decide +kernel
theorem dX8_init_1 : decode cX8_init 1 = .ok (.invokespecial 1, 3) := by decide +kernel
theorem dX8_init_4 : decode cX8_init 4 = .ok (.aload_n 0, 1) := by decide +kernel
theorem dX8_init_5 : decode cX8_init 5 = .ok (.sipush 312, 3) := by decide +kernel
theorem dX8_init_8 : decode cX8_init 8 = .ok (.newarray .int, 2) := by decide +kernel
theorem dX8_init_10 : decode cX8_init 10 = .ok (.putfield 7, 3) := by decide +kernel
theorem dX8_init_13 : decode cX8_init 13 = .ok (.aload_n 0, 1) := by decide +kernel
theorem dX8_init_14 : decode cX8_init 14 = .ok (.bipush 26, 2) := by decide +kernel
theorem dX8_init_16 : decode cX8_init 16 = .ok (.newarray .int, 2) := by decide +kernel
theorem dX8_init_18 : decode cX8_init 18 = .ok (.putfield 13, 3) := by decide +kernel
theorem dX8_init_21 : decode cX8_init 21 = .ok (.aload_n 0, 1) := by decide +kernel
theorem dX8_init_22 : decode cX8_init 22 = .ok (.bipush 6, 2) := by decide +kernel
theorem dX8_init_24 : decode cX8_init 24 = .ok (.newarray .int, 2) := by decide +kernel
theorem dX8_init_26 : decode cX8_init 26 = .ok (.putfield 16, 3) := by decide +kernel
theorem dX8_init_29 : decode cX8_init 29 = .ok (.aload_n 0, 1) := by decide +kernel
theorem dX8_init_30 : decode cX8_init 30 = .ok (.bipush 6, 2) := by decide +kernel
theorem dX8_init_32 : decode cX8_init 32 = .ok (.newarray .int, 2) := by decide +kernel
theorem dX8_init_34 : decode cX8_init 34 = .ok (.putfield 19, 3) := by decide +kernel
theorem dX8_init_37 : decode cX8_init 37 = .ok (.aload_n 0, 1) := by decide +kernel
theorem dX8_init_38 : decode cX8_init 38 = .ok (.bipush 6, 2) := by decide +kernel
theorem dX8_init_40 : decode cX8_init 40 = .ok (.newarray .int, 2) := by decide +kernel
theorem dX8_init_42 : decode cX8_init 42 = .ok (.putfield 22, 3) := by decide +kernel
theorem dX8_init_45 : decode cX8_init 45 = .ok (.aload_n 0, 1) := by decide +kernel
theorem dX8_init_46 : decode cX8_init 46 = .ok (.iconst 4, 1) := by decide +kernel
theorem dX8_init_47 : decode cX8_init 47 = .ok (.newarray .int, 2) := by decide +kernel
theorem dX8_init_49 : decode cX8_init 49 = .ok (.putfield 25, 3) := by decide +kernel
theorem dX8_init_52 : decode cX8_init 52 = .ok (.aload_n 0, 1) := by decide +kernel
theorem dX8_init_53 : decode cX8_init 53 = .ok (.iconst 4, 1) := by decide +kernel
theorem dX8_init_54 : decode cX8_init 54 = .ok (.newarray .int, 2) := by decide +kernel
theorem dX8_init_56 : decode cX8_init 56 = .ok (.putfield 28, 3) := by decide +kernel
theorem dX8_init_59 : decode cX8_init 59 = .ok (.aload_n 0, 1) := by decide +kernel
theorem dX8_init_60 : decode cX8_init 60 = .ok (.iconst 4, 1) := by decide +kernel
theorem dX8_init_61 : decode cX8_init 61 = .ok (.newarray .int, 2) := by decide +kernel
theorem dX8_init_63 : decode cX8_init 63 = .ok (.putfield 31, 3) := by decide +kernel
theorem dX8_init_66 : decode cX8_init 66 = .ok (.aload_n 0, 1) := by decide +kernel
theorem dX8_init_67 : decode cX8_init 67 = .ok (.iconst 4, 1) := by decide +kernel
theorem dX8_init_68 : decode cX8_init 68 = .ok (.newarray .int, 2) := by decide +kernel
theorem dX8_init_70 : decode cX8_init 70 = .ok (.putfield 34, 3) := by decide +kernel
theorem dX8_init_73 : decode cX8_init 73 = .ok (.aload_n 0, 1) := by decide +kernel
theorem dX8_init_74 : decode cX8_init 74 = .ok (.iconst 4, 1) := by decide +kernel
theorem dX8_init_75 : decode cX8_init 75 = .ok (.newarray .int, 2) := by decide +kernel
theorem dX8_init_77 : decode cX8_init 77 = .ok (.putfield 37, 3) := by decide +kernel
theorem dX8_init_80 : decode cX8_init 80 = .ok (.aload_n 0, 1) := by decide +kernel
theorem dX8_init_81 : decode cX8_init 81 = .ok (.iconst 4, 1) := by decide +kernel
theorem dX8_init_82 : decode cX8_init 82 = .ok (.newarray .int, 2) := by decide +kernel
theorem dX8_init_84 : decode cX8_init 84 = .ok (.putfield 40, 3) := by decide +kernel
theorem dX8_init_87 : decode cX8_init 87 = .ok (.aload_n 0, 1) := by decide +kernel
theorem dX8_init_88 : decode cX8_init 88 = .ok (.bipush 20, 2) := by decide +kernel
theorem dX8_init_90 : decode cX8_init 90 = .ok (.newarray .int, 2) := by decide +kernel
theorem dX8_init_92 : decode cX8_init 92 = .ok (.putfield 43, 3) := by decide +kernel
theorem dX8_init_95 : decode cX8_init 95 = .ok (.aload_n 0, 1) := by decide +kernel
theorem dX8_init_96 : decode cX8_init 96 = .ok (.bipush 12, 2) := by decide +kernel
theorem dX8_init_98 : decode cX8_init 98 = .ok (.newarray .int, 2) := by decide +kernel
theorem dX8_init_100 : decode cX8_init 100 = .ok (.putfield 46, 3) := by decide +kernel
theorem dX8_init_103 : decode cX8_init 103 = .ok (.aload_n 0, 1) := by decide +kernel
theorem dX8_init_104 : decode cX8_init 104 = .ok (.bipush 12, 2) := by decide +kernel
theorem dX8_init_106 : decode cX8_init 106 = .ok (.newarray .int, 2) := by decide +kernel
theorem dX8_init_108 : decode cX8_init 108 = .ok (.putfield 49, 3) := by decide +kernel
theorem dX8_init_111 : decode cX8_init 111 = .ok (.aload_n 0, 1) := by decide +kernel
theorem dX8_init_112 : decode cX8_init 112 = .ok (.bipush 12, 2) := by decide +kernel
theorem dX8_init_114 : decode cX8_init 114 = .ok (.newarray .int, 2) := by decide +kernel
theorem dX8_init_116 : decode cX8_init 116 = .ok (.putfield 52, 3) := by decide +kernel
theorem dX8_init_119 : decode cX8_init 119 = .ok (.aload_n 0, 1) := by decide +kernel
theorem dX8_init_120 : decode cX8_init 120 = .ok (.bipush 12, 2) := by decide +kernel
theorem dX8_init_122 : decode cX8_init 122 = .ok (.newarray .int, 2) := by decide +kernel
theorem dX8_init_124 : decode cX8_init 124 = .ok (.putfield 55, 3) := by decide +kernel
theorem dX8_init_127 : decode cX8_init 127 = .ok (.aload_n 0, 1) := by decide +kernel
theorem dX8_init_128 : decode cX8_init 128 = .ok (.sipush 169, 3) := by decide +kernel
theorem dX8_init_131 : decode cX8_init 131 = .ok (.newarray .int, 2) := by decide +kernel
theorem dX8_init_133 : decode cX8_init 133 = .ok (.putfield 58, 3) := by decide +kernel
theorem dX8_init_136 : decode cX8_init 136 = .ok (.aload_n 0, 1) := by decide +kernel
theorem dX8_init_137 : decode cX8_init 137 = .ok (.bipush 12, 2) := by decide +kernel
theorem dX8_init_139 : decode cX8_init 139 = .ok (.newarray .int, 2) := by decide +kernel
theorem dX8_init_141 : decode cX8_init 141 = .ok (.putfield 61, 3) := by decide +kernel
theorem dX8_init_144 : decode cX8_init 144 = .ok (.aload_n 0, 1) := by decide +kernel
theorem dX8_init_145 : decode cX8_init 145 = .ok (.bipush 12, 2) := by decide +kernel
theorem dX8_init_147 : decode cX8_init 147 = .ok (.newarray .int, 2) := by decide +kernel
theorem dX8_init_149 : decode cX8_init 149 = .ok (.putfield 64, 3) := by decide +kernel
theorem dX8_init_152 : decode cX8_init 152 = .ok (.aload_n 0, 1) := by decide +kernel
theorem dX8_init_153 : decode cX8_init 153 = .ok (.bipush 12, 2) := by decide +kernel
theorem dX8_init_155 : decode cX8_init 155 = .ok (.newarray .int, 2) := by decide +kernel
theorem dX8_init_157 : decode cX8_init 157 = .ok (.putfield 67, 3) := by decide +kernel
theorem dX8_init_160 : decode cX8_init 160 = .ok (.return_, 1) := by decide +kernel
theorem dX8_thrown_0 : decode cX8_thrown 0 = .ok (.aload_n 0, 1) := by decide +kernel
theorem dX8_thrown_1 : decode cX8_thrown 1 = .ok (.getfield 70, 3) := by decide +kernel
theorem dX8_thrown_4 : decode cX8_thrown 4 = .ok (.ireturn, 1) := by decide +kernel
theorem dX8_fail_0 : decode cX8_fail 0 = .ok (.aload_n 0, 1) := by decide +kernel
theorem dX8_fail_1 : decode cX8_fail 1 = .ok (.iload_n 1, 1) := by decide +kernel
theorem dX8_fail_2 : decode cX8_fail 2 = .ok (.putfield 70, 3) := by decide +kernel
theorem dX8_fail_5 : decode cX8_fail 5 = .ok (.iconst 0, 1) := by decide +kernel
theorem dX8_fail_6 : decode cX8_fail 6 = .ok (.ireturn, 1) := by decide +kernel
theorem dX8_isIn_0 : decode cX8_isIn 0 = .ok (.iload_n 0, 1) := by decide +kernel
theorem dX8_isIn_1 : decode cX8_isIn 1 = .ok (.iload_n 1, 1) := by decide +kernel
theorem dX8_isIn_2 : decode cX8_isIn 2 = .ok (.if_icmp .lt 12, 3) := by decide +kernel
theorem dX8_isIn_5 : decode cX8_isIn 5 = .ok (.iload_n 0, 1) := by decide +kernel
theorem dX8_isIn_6 : decode cX8_isIn 6 = .ok (.iload_n 2, 1) := by decide +kernel
theorem dX8_isIn_7 : decode cX8_isIn 7 = .ok (.if_icmp .gt 7, 3) := by decide +kernel
theorem dX8_isIn_10 : decode cX8_isIn 10 = .ok (.iconst 1, 1) := by decide +kernel
theorem dX8_isIn_11 : decode cX8_isIn 11 = .ok (.goto 4, 3) := by decide +kernel
theorem dX8_isIn_14 : decode cX8_isIn 14 = .ok (.iconst 0, 1) := by decide +kernel
theorem dX8_isIn_15 : decode cX8_isIn 15 = .ok (.ireturn, 1) := by decide +kernel
set_option maxRecDepth 20000 in
theorem ggX8_isChange_X8_isIn : GoodIn wsX8_isChange wsX8_isIn := goodIn_r _ [5] (by decide +kernel) (by decide +kernel)
set_option maxRecDepth 20000 in
theorem gX8_isChange_X8_isIn : GoodIn wsX8_isChange (va_wsS RX8 77 yX8_isIn wsX8_isIn) := goodIn_app (goodIn_of _ (by decide +kernel)) ggX8_isChange_X8_isIn
theorem dX8_isChange_0 : decode cX8_isChange 0 = .ok (.iload_n 1, 1) := by decide +kernel
theorem dX8_isChange_1 : decode cX8_isChange 1 = .ok (.iconst 0, 1) := by decide +kernel
theorem dX8_isChange_2 : decode cX8_isChange 2 = .ok (.aload_n 0, 1) := by decide +kernel
theorem dX8_isChange_3 : decode cX8_isChange 3 = .ok (.getfield 74, 3) := by decide +kernel
theorem dX8_isChange_6 : decode cX8_isChange 6 = .ok (.iconst 1, 1) := by decide +kernel
theorem dX8_isChange_7 : decode cX8_isChange 7 = .ok (.isub, 1) := by decide +kernel
theorem dX8_isChange_8 : decode cX8_isChange 8 = .ok (.invokestatic 77, 3) := by decide +kernel
theorem dX8_isChange_11 : decode cX8_isChange 11 = .ok (.ireturn, 1) := by decide +kernel
set_option maxRecDepth 20000 in
theorem ggX8_isUser_X8_isIn : GoodIn wsX8_isUser wsX8_isIn := goodIn_r _ [4] (by decide +kernel) (by decide +kernel)
set_option maxRecDepth 20000 in
theorem gX8_isUser_X8_isIn : GoodIn wsX8_isUser (va_wsS RX8 77 yX8_isIn wsX8_isIn) := goodIn_app (goodIn_of _ (by decide +kernel)) ggX8_isUser_X8_isIn
theorem dX8_isUser_0 : decode cX8_isUser 0 = .ok (.iload_n 0, 1) := by decide +kernel
theorem dX8_isUser_1 : decode cX8_isUser 1 = .ok (.iconst 0, 1) := by decide +kernel
theorem dX8_isUser_2 : decode cX8_isUser 2 = .ok (.iconst 4, 1) := by decide +kernel
theorem dX8_isUser_3 : decode cX8_isUser 3 = .ok (.invokestatic 77, 3) := by decide +kernel
theorem dX8_isUser_6 : decode cX8_isUser 6 = .ok (.ireturn, 1) := by decide +kernel
theorem dX8_line_0 : decode cX8_line 0 = .ok (.aload_n 0, 1) := by decide +kernel
theorem dX8_line_1 : decode cX8_line 1 = .ok (.getfield 7, 3) := by decide +kernel
theorem dX8_line_4 : decode cX8_line 4 = .ok (.bipush 12, 2) := by decide +kernel
theorem dX8_line_6 : decode cX8_line 6 = .ok (.iload_n 1, 1) := by decide +kernel
theorem dX8_line_7 : decode cX8_line 7 = .ok (.imul, 1) := by decide +kernel
theorem dX8_line_8 : decode cX8_line 8 = .ok (.iload_n 2, 1) := by decide +kernel
theorem dX8_line_9 : decode cX8_line 9 = .ok (.iadd, 1) := by decide +kernel
theorem dX8_line_10 : decode cX8_line 10 = .ok (.iaload, 1) := by decide +kernel
theorem dX8_line_11 : decode cX8_line 11 = .ok (.ireturn, 1) := by decide +kernel
theorem dX8_slot_0 : decode cX8_slot 0 = .ok (.bipush 9, 2) := by decide +kernel
theorem dX8_slot_2 : decode cX8_slot 2 = .ok (.iconst 4, 1) := by decide +kernel
theorem dX8_slot_3 : decode cX8_slot 3 = .ok (.iload_n 0, 1) := by decide +kernel
theorem dX8_slot_4 : decode cX8_slot 4 = .ok (.imul, 1) := by decide +kernel
theorem dX8_slot_5 : decode cX8_slot 5 = .ok (.iadd, 1) := by decide +kernel
theorem dX8_slot_6 : decode cX8_slot 6 = .ok (.iload_n 1, 1) := by decide +kernel
theorem dX8_slot_7 : decode cX8_slot 7 = .ok (.iadd, 1) := by decide +kernel
theorem dX8_slot_8 : decode cX8_slot 8 = .ok (.ireturn, 1) := by decide +kernel
set_option maxRecDepth 20000 in
theorem ggX8_present_X8_slot : GoodIn wsX8_present wsX8_slot := goodIn_r _ [5] (by decide +kernel) (by decide +kernel)
set_option maxRecDepth 20000 in
theorem gX8_present_X8_slot : GoodIn wsX8_present (va_wsS RX8 81 yX8_slot wsX8_slot) := goodIn_app (goodIn_of _ (by decide +kernel)) ggX8_present_X8_slot
theorem dX8_present_0 : decode cX8_present 0 = .ok (.iload_n 1, 1) := by decide +kernel
theorem dX8_present_1 : decode cX8_present 1 = .ok (.aload_n 0, 1) := by decide +kernel
theorem dX8_present_2 : decode cX8_present 2 = .ok (.getfield 28, 3) := by decide +kernel
theorem dX8_present_5 : decode cX8_present 5 = .ok (.iload_n 1, 1) := by decide +kernel
theorem dX8_present_6 : decode cX8_present 6 = .ok (.iaload, 1) := by decide +kernel
theorem dX8_present_7 : decode cX8_present 7 = .ok (.iconst 1, 1) := by decide +kernel
theorem dX8_present_8 : decode cX8_present 8 = .ok (.isub, 1) := by decide +kernel
theorem dX8_present_9 : decode cX8_present 9 = .ok (.invokestatic 81, 3) := by decide +kernel
theorem dX8_present_12 : decode cX8_present 12 = .ok (.ireturn, 1) := by decide +kernel
set_option maxRecDepth 20000 in
theorem ggX8_copies_X8_line : GoodIn wsX8_copies wsX8_line := goodIn_r _ [7, 2, 8, 9, 10, 11, 12, 13, 14, 15, 16, 17, 18, 19, 20, 21, 22, 23, 24, 25, 26, 27, 28, 29, 30, 31, 32, 33] (by decide +kernel) (by decide +kernel)
set_option maxRecDepth 20000 in
theorem gX8_copies_X8_line : GoodIn wsX8_copies (wsV RX8 85 RX8 yX8_line wsX8_line) := goodIn_app (goodIn_of _ (by decide +kernel)) ggX8_copies_X8_line
theorem dX8_copies_0 : decode cX8_copies 0 = .ok (.iconst 0, 1) := by decide +kernel
theorem dX8_copies_1 : decode cX8_copies 1 = .ok (.istore_n 3, 1) := by decide +kernel
theorem dX8_copies_2 : decode cX8_copies 2 = .ok (.iload_n 3, 1) := by decide +kernel
theorem dX8_copies_3 : decode cX8_copies 3 = .ok (.aload_n 0, 1) := by decide +kernel
theorem dX8_copies_4 : decode cX8_copies 4 = .ok (.getfield 13, 3) := by decide +kernel
theorem dX8_copies_7 : decode cX8_copies 7 = .ok (.iload_n 1, 1) := by decide +kernel
theorem dX8_copies_8 : decode cX8_copies 8 = .ok (.iaload, 1) := by decide +kernel
theorem dX8_copies_9 : decode cX8_copies 9 = .ok (.if_icmp .ge 26, 3) := by decide +kernel
theorem dX8_copies_12 : decode cX8_copies 12 = .ok (.aload_n 0, 1) := by decide +kernel
theorem dX8_copies_13 : decode cX8_copies 13 = .ok (.getfield 7, 3) := by decide +kernel
theorem dX8_copies_16 : decode cX8_copies 16 = .ok (.bipush 12, 2) := by decide +kernel
theorem dX8_copies_18 : decode cX8_copies 18 = .ok (.iload_n 2, 1) := by decide +kernel
theorem dX8_copies_19 : decode cX8_copies 19 = .ok (.imul, 1) := by decide +kernel
theorem dX8_copies_20 : decode cX8_copies 20 = .ok (.iload_n 3, 1) := by decide +kernel
theorem dX8_copies_21 : decode cX8_copies 21 = .ok (.iadd, 1) := by decide +kernel
theorem dX8_copies_22 : decode cX8_copies 22 = .ok (.aload_n 0, 1) := by decide +kernel
theorem dX8_copies_23 : decode cX8_copies 23 = .ok (.iload_n 1, 1) := by decide +kernel
theorem dX8_copies_24 : decode cX8_copies 24 = .ok (.iload_n 3, 1) := by decide +kernel
theorem dX8_copies_25 : decode cX8_copies 25 = .ok (.invokevirtual 85, 3) := by decide +kernel
theorem dX8_copies_28 : decode cX8_copies 28 = .ok (.iastore, 1) := by decide +kernel
theorem dX8_copies_29 : decode cX8_copies 29 = .ok (.iinc 3 1, 3) := by decide +kernel
theorem dX8_copies_32 : decode cX8_copies 32 = .ok (.goto (-30), 3) := by decide +kernel
theorem dX8_copies_35 : decode cX8_copies 35 = .ok (.aload_n 0, 1) := by decide +kernel
theorem dX8_copies_36 : decode cX8_copies 36 = .ok (.getfield 13, 3) := by decide +kernel
theorem dX8_copies_39 : decode cX8_copies 39 = .ok (.iload_n 2, 1) := by decide +kernel
theorem dX8_copies_40 : decode cX8_copies 40 = .ok (.aload_n 0, 1) := by decide +kernel
theorem dX8_copies_41 : decode cX8_copies 41 = .ok (.getfield 13, 3) := by decide +kernel
theorem dX8_copies_44 : decode cX8_copies 44 = .ok (.iload_n 1, 1) := by decide +kernel
theorem dX8_copies_45 : decode cX8_copies 45 = .ok (.iaload, 1) := by decide +kernel
theorem dX8_copies_46 : decode cX8_copies 46 = .ok (.iastore, 1) := by decide +kernel
theorem dX8_copies_47 : decode cX8_copies 47 = .ok (.return_, 1) := by decide +kernel
set_option maxRecDepth 20000 in
theorem ggX8_scripts_X8_line : GoodIn wsX8_scripts wsX8_line := goodIn_r _ [9, 10, 11, 12, 13, 14, 15, 16, 17, 18, 19, 20, 21, 22, 23, 24, 25, 26, 27, 28, 29, 30, 31, 32, 33, 34, 35, 36] (by decide +kernel) (by decide +kernel)
set_option maxRecDepth 20000 in
theorem gX8_scripts_X8_line : GoodIn wsX8_scripts (wsV RX8 85 RX8 yX8_line wsX8_line) := goodIn_app (goodIn_of _ (by decide +kernel)) ggX8_scripts_X8_line
theorem dX8_scripts_0 : decode cX8_scripts 0 = .ok (.aload_n 0, 1) := by decide +kernel
theorem dX8_scripts_1 : decode cX8_scripts 1 = .ok (.getfield 13, 3) := by decide +kernel
theorem dX8_scripts_4 : decode cX8_scripts 4 = .ok (.iload_n 1, 1) := by decide +kernel
theorem dX8_scripts_5 : decode cX8_scripts 5 = .ok (.iaload, 1) := by decide +kernel
theorem dX8_scripts_6 : decode cX8_scripts 6 = .ok (.istore_n 3, 1) := by decide +kernel
theorem dX8_scripts_7 : decode cX8_scripts 7 = .ok (.iload_n 3, 1) := by decide +kernel
theorem dX8_scripts_8 : decode cX8_scripts 8 = .ok (.ifCond .lt 202, 3) := by decide +kernel
theorem dX8_scripts_11 : decode cX8_scripts 11 = .ok (.aload_n 0, 1) := by decide +kernel
theorem dX8_scripts_12 : decode cX8_scripts 12 = .ok (.getfield 13, 3) := by decide +kernel
theorem dX8_scripts_15 : decode cX8_scripts 15 = .ok (.iload_n 2, 1) := by decide +kernel
theorem dX8_scripts_16 : decode cX8_scripts 16 = .ok (.iaload, 1) := by decide +kernel
theorem dX8_scripts_17 : decode cX8_scripts 17 = .ok (.istore 4, 2) := by decide +kernel
theorem dX8_scripts_19 : decode cX8_scripts 19 = .ok (.iload 4, 2) := by decide +kernel
theorem dX8_scripts_21 : decode cX8_scripts 21 = .ok (.ifCond .lt 183, 3) := by decide +kernel
theorem dX8_scripts_24 : decode cX8_scripts 24 = .ok (.aload_n 0, 1) := by decide +kernel
theorem dX8_scripts_25 : decode cX8_scripts 25 = .ok (.getfield 13, 3) := by decide +kernel
theorem dX8_scripts_28 : decode cX8_scripts 28 = .ok (.iload_n 1, 1) := by decide +kernel
theorem dX8_scripts_29 : decode cX8_scripts 29 = .ok (.iaload, 1) := by decide +kernel
theorem dX8_scripts_30 : decode cX8_scripts 30 = .ok (.iload_n 3, 1) := by decide +kernel
theorem dX8_scripts_31 : decode cX8_scripts 31 = .ok (.isub, 1) := by decide +kernel
theorem dX8_scripts_32 : decode cX8_scripts 32 = .ok (.istore 5, 2) := by decide +kernel
theorem dX8_scripts_34 : decode cX8_scripts 34 = .ok (.aload_n 0, 1) := by decide +kernel
theorem dX8_scripts_35 : decode cX8_scripts 35 = .ok (.getfield 13, 3) := by decide +kernel
theorem dX8_scripts_38 : decode cX8_scripts 38 = .ok (.iload_n 2, 1) := by decide +kernel
theorem dX8_scripts_39 : decode cX8_scripts 39 = .ok (.iaload, 1) := by decide +kernel
theorem dX8_scripts_40 : decode cX8_scripts 40 = .ok (.iload 4, 2) := by decide +kernel
theorem dX8_scripts_42 : decode cX8_scripts 42 = .ok (.isub, 1) := by decide +kernel
theorem dX8_scripts_43 : decode cX8_scripts 43 = .ok (.istore 6, 2) := by decide +kernel
theorem dX8_scripts_45 : decode cX8_scripts 45 = .ok (.iload 5, 2) := by decide +kernel
theorem dX8_scripts_47 : decode cX8_scripts 47 = .ok (.ifCond .eq 8, 3) := by decide +kernel
theorem dX8_scripts_50 : decode cX8_scripts 50 = .ok (.iload 6, 2) := by decide +kernel
theorem dX8_scripts_52 : decode cX8_scripts 52 = .ok (.ifCond .ne 23, 3) := by decide +kernel
theorem dX8_scripts_55 : decode cX8_scripts 55 = .ok (.aload_n 0, 1) := by decide +kernel
theorem dX8_scripts_56 : decode cX8_scripts 56 = .ok (.getfield 58, 3) := by decide +kernel
theorem dX8_scripts_59 : decode cX8_scripts 59 = .ok (.bipush 13, 2) := by decide +kernel
theorem dX8_scripts_61 : decode cX8_scripts 61 = .ok (.iload_n 3, 1) := by decide +kernel
theorem dX8_scripts_62 : decode cX8_scripts 62 = .ok (.imul, 1) := by decide +kernel
theorem dX8_scripts_63 : decode cX8_scripts 63 = .ok (.iload 4, 2) := by decide +kernel
theorem dX8_scripts_65 : decode cX8_scripts 65 = .ok (.iadd, 1) := by decide +kernel
theorem dX8_scripts_66 : decode cX8_scripts 66 = .ok (.iload 5, 2) := by decide +kernel
theorem dX8_scripts_68 : decode cX8_scripts 68 = .ok (.iload 6, 2) := by decide +kernel
theorem dX8_scripts_70 : decode cX8_scripts 70 = .ok (.iadd, 1) := by decide +kernel
theorem dX8_scripts_71 : decode cX8_scripts 71 = .ok (.iastore, 1) := by decide +kernel
theorem dX8_scripts_72 : decode cX8_scripts 72 = .ok (.goto 126, 3) := by decide +kernel
theorem dX8_scripts_75 : decode cX8_scripts 75 = .ok (.aload_n 0, 1) := by decide +kernel
theorem dX8_scripts_76 : decode cX8_scripts 76 = .ok (.iload_n 1, 1) := by decide +kernel
theorem dX8_scripts_77 : decode cX8_scripts 77 = .ok (.iload_n 3, 1) := by decide +kernel
theorem dX8_scripts_78 : decode cX8_scripts 78 = .ok (.invokevirtual 85, 3) := by decide +kernel
theorem dX8_scripts_81 : decode cX8_scripts 81 = .ok (.aload_n 0, 1) := by decide +kernel
theorem dX8_scripts_82 : decode cX8_scripts 82 = .ok (.iload_n 2, 1) := by decide +kernel
theorem dX8_scripts_83 : decode cX8_scripts 83 = .ok (.iload 4, 2) := by decide +kernel
theorem dX8_scripts_85 : decode cX8_scripts 85 = .ok (.invokevirtual 85, 3) := by decide +kernel
theorem dX8_scripts_88 : decode cX8_scripts 88 = .ok (.if_icmp .ne 34, 3) := by decide +kernel
theorem dX8_scripts_91 : decode cX8_scripts 91 = .ok (.aload_n 0, 1) := by decide +kernel
theorem dX8_scripts_92 : decode cX8_scripts 92 = .ok (.getfield 58, 3) := by decide +kernel
theorem dX8_scripts_95 : decode cX8_scripts 95 = .ok (.bipush 13, 2) := by decide +kernel
theorem dX8_scripts_97 : decode cX8_scripts 97 = .ok (.iload_n 3, 1) := by decide +kernel
theorem dX8_scripts_98 : decode cX8_scripts 98 = .ok (.imul, 1) := by decide +kernel
theorem dX8_scripts_99 : decode cX8_scripts 99 = .ok (.iload 4, 2) := by decide +kernel
theorem dX8_scripts_101 : decode cX8_scripts 101 = .ok (.iadd, 1) := by decide +kernel
theorem dX8_scripts_102 : decode cX8_scripts 102 = .ok (.aload_n 0, 1) := by decide +kernel
theorem dX8_scripts_103 : decode cX8_scripts 103 = .ok (.getfield 58, 3) := by decide +kernel
theorem dX8_scripts_106 : decode cX8_scripts 106 = .ok (.bipush 13, 2) := by decide +kernel
theorem dX8_scripts_108 : decode cX8_scripts 108 = .ok (.iload_n 3, 1) := by decide +kernel
theorem dX8_scripts_109 : decode cX8_scripts 109 = .ok (.iconst 1, 1) := by decide +kernel
theorem dX8_scripts_110 : decode cX8_scripts 110 = .ok (.iadd, 1) := by decide +kernel
theorem dX8_scripts_111 : decode cX8_scripts 111 = .ok (.imul, 1) := by decide +kernel
theorem dX8_scripts_112 : decode cX8_scripts 112 = .ok (.iload 4, 2) := by decide +kernel
theorem dX8_scripts_114 : decode cX8_scripts 114 = .ok (.iadd, 1) := by decide +kernel
theorem dX8_scripts_115 : decode cX8_scripts 115 = .ok (.iconst 1, 1) := by decide +kernel
theorem dX8_scripts_116 : decode cX8_scripts 116 = .ok (.iadd, 1) := by decide +kernel
theorem dX8_scripts_117 : decode cX8_scripts 117 = .ok (.iaload, 1) := by decide +kernel
theorem dX8_scripts_118 : decode cX8_scripts 118 = .ok (.iastore, 1) := by decide +kernel
theorem dX8_scripts_119 : decode cX8_scripts 119 = .ok (.goto 79, 3) := by decide +kernel
theorem dX8_scripts_122 : decode cX8_scripts 122 = .ok (.aload_n 0, 1) := by decide +kernel
theorem dX8_scripts_123 : decode cX8_scripts 123 = .ok (.getfield 58, 3) := by decide +kernel
theorem dX8_scripts_126 : decode cX8_scripts 126 = .ok (.bipush 13, 2) := by decide +kernel
theorem dX8_scripts_128 : decode cX8_scripts 128 = .ok (.iload_n 3, 1) := by decide +kernel
theorem dX8_scripts_129 : decode cX8_scripts 129 = .ok (.imul, 1) := by decide +kernel
theorem dX8_scripts_130 : decode cX8_scripts 130 = .ok (.iload 4, 2) := by decide +kernel
theorem dX8_scripts_132 : decode cX8_scripts 132 = .ok (.iadd, 1) := by decide +kernel
theorem dX8_scripts_133 : decode cX8_scripts 133 = .ok (.iconst 1, 1) := by decide +kernel
theorem dX8_scripts_134 : decode cX8_scripts 134 = .ok (.aload_n 0, 1) := by decide +kernel
theorem dX8_scripts_135 : decode cX8_scripts 135 = .ok (.getfield 58, 3) := by decide +kernel
theorem dX8_scripts_138 : decode cX8_scripts 138 = .ok (.bipush 13, 2) := by decide +kernel
theorem dX8_scripts_140 : decode cX8_scripts 140 = .ok (.iload_n 3, 1) := by decide +kernel
theorem dX8_scripts_141 : decode cX8_scripts 141 = .ok (.iconst 1, 1) := by decide +kernel
theorem dX8_scripts_142 : decode cX8_scripts 142 = .ok (.iadd, 1) := by decide +kernel
theorem dX8_scripts_143 : decode cX8_scripts 143 = .ok (.imul, 1) := by decide +kernel
theorem dX8_scripts_144 : decode cX8_scripts 144 = .ok (.iload 4, 2) := by decide +kernel
theorem dX8_scripts_146 : decode cX8_scripts 146 = .ok (.iadd, 1) := by decide +kernel
theorem dX8_scripts_147 : decode cX8_scripts 147 = .ok (.iaload, 1) := by decide +kernel
theorem dX8_scripts_148 : decode cX8_scripts 148 = .ok (.aload_n 0, 1) := by decide +kernel
theorem dX8_scripts_149 : decode cX8_scripts 149 = .ok (.getfield 58, 3) := by decide +kernel
theorem dX8_scripts_152 : decode cX8_scripts 152 = .ok (.bipush 13, 2) := by decide +kernel
theorem dX8_scripts_154 : decode cX8_scripts 154 = .ok (.iload_n 3, 1) := by decide +kernel
theorem dX8_scripts_155 : decode cX8_scripts 155 = .ok (.imul, 1) := by decide +kernel
theorem dX8_scripts_156 : decode cX8_scripts 156 = .ok (.iload 4, 2) := by decide +kernel
theorem dX8_scripts_158 : decode cX8_scripts 158 = .ok (.iadd, 1) := by decide +kernel
theorem dX8_scripts_159 : decode cX8_scripts 159 = .ok (.iconst 1, 1) := by decide +kernel
theorem dX8_scripts_160 : decode cX8_scripts 160 = .ok (.iadd, 1) := by decide +kernel
theorem dX8_scripts_161 : decode cX8_scripts 161 = .ok (.iaload, 1) := by decide +kernel
theorem dX8_scripts_162 : decode cX8_scripts 162 = .ok (.if_icmp .ge 20, 3) := by decide +kernel
theorem dX8_scripts_165 : decode cX8_scripts 165 = .ok (.aload_n 0, 1) := by decide +kernel
theorem dX8_scripts_166 : decode cX8_scripts 166 = .ok (.getfield 58, 3) := by decide +kernel
theorem dX8_scripts_169 : decode cX8_scripts 169 = .ok (.bipush 13, 2) := by decide +kernel
theorem dX8_scripts_171 : decode cX8_scripts 171 = .ok (.iload_n 3, 1) := by decide +kernel
theorem dX8_scripts_172 : decode cX8_scripts 172 = .ok (.iconst 1, 1) := by decide +kernel
theorem dX8_scripts_173 : decode cX8_scripts 173 = .ok (.iadd, 1) := by decide +kernel
theorem dX8_scripts_174 : decode cX8_scripts 174 = .ok (.imul, 1) := by decide +kernel
theorem dX8_scripts_175 : decode cX8_scripts 175 = .ok (.iload 4, 2) := by decide +kernel
theorem dX8_scripts_177 : decode cX8_scripts 177 = .ok (.iadd, 1) := by decide +kernel
theorem dX8_scripts_178 : decode cX8_scripts 178 = .ok (.iaload, 1) := by decide +kernel
theorem dX8_scripts_179 : decode cX8_scripts 179 = .ok (.goto 17, 3) := by decide +kernel
theorem dX8_scripts_182 : decode cX8_scripts 182 = .ok (.aload_n 0, 1) := by decide +kernel
theorem dX8_scripts_183 : decode cX8_scripts 183 = .ok (.getfield 58, 3) := by decide +kernel
theorem dX8_scripts_186 : decode cX8_scripts 186 = .ok (.bipush 13, 2) := by decide +kernel
theorem dX8_scripts_188 : decode cX8_scripts 188 = .ok (.iload_n 3, 1) := by decide +kernel
theorem dX8_scripts_189 : decode cX8_scripts 189 = .ok (.imul, 1) := by decide +kernel
theorem dX8_scripts_190 : decode cX8_scripts 190 = .ok (.iload 4, 2) := by decide +kernel
theorem dX8_scripts_192 : decode cX8_scripts 192 = .ok (.iadd, 1) := by decide +kernel
theorem dX8_scripts_193 : decode cX8_scripts 193 = .ok (.iconst 1, 1) := by decide +kernel
theorem dX8_scripts_194 : decode cX8_scripts 194 = .ok (.iadd, 1) := by decide +kernel
theorem dX8_scripts_195 : decode cX8_scripts 195 = .ok (.iaload, 1) := by decide +kernel
theorem dX8_scripts_196 : decode cX8_scripts 196 = .ok (.iadd, 1) := by decide +kernel
theorem dX8_scripts_197 : decode cX8_scripts 197 = .ok (.iastore, 1) := by decide +kernel
theorem dX8_scripts_198 : decode cX8_scripts 198 = .ok (.iinc 4 (-1), 3) := by decide +kernel
theorem dX8_scripts_201 : decode cX8_scripts 201 = .ok (.goto (-182), 3) := by decide +kernel
theorem dX8_scripts_204 : decode cX8_scripts 204 = .ok (.iinc 3 (-1), 3) := by decide +kernel
theorem dX8_scripts_207 : decode cX8_scripts 207 = .ok (.goto (-200), 3) := by decide +kernel
theorem dX8_scripts_210 : decode cX8_scripts 210 = .ok (.iconst 0, 1) := by decide +kernel
theorem dX8_scripts_211 : decode cX8_scripts 211 = .ok (.istore_n 3, 1) := by decide +kernel
theorem dX8_scripts_212 : decode cX8_scripts 212 = .ok (.iload_n 3, 1) := by decide +kernel
theorem dX8_scripts_213 : decode cX8_scripts 213 = .ok (.bipush 12, 2) := by decide +kernel
theorem dX8_scripts_215 : decode cX8_scripts 215 = .ok (.if_icmp .ge 23, 3) := by decide +kernel
theorem dX8_scripts_218 : decode cX8_scripts 218 = .ok (.aload_n 0, 1) := by decide +kernel
theorem dX8_scripts_219 : decode cX8_scripts 219 = .ok (.getfield 61, 3) := by decide +kernel
theorem dX8_scripts_222 : decode cX8_scripts 222 = .ok (.iload_n 3, 1) := by decide +kernel
theorem dX8_scripts_223 : decode cX8_scripts 223 = .ok (.iconst (-1), 1) := by decide +kernel
theorem dX8_scripts_224 : decode cX8_scripts 224 = .ok (.iastore, 1) := by decide +kernel
theorem dX8_scripts_225 : decode cX8_scripts 225 = .ok (.aload_n 0, 1) := by decide +kernel
theorem dX8_scripts_226 : decode cX8_scripts 226 = .ok (.getfield 64, 3) := by decide +kernel
theorem dX8_scripts_229 : decode cX8_scripts 229 = .ok (.iload_n 3, 1) := by decide +kernel
theorem dX8_scripts_230 : decode cX8_scripts 230 = .ok (.iconst (-1), 1) := by decide +kernel
theorem dX8_scripts_231 : decode cX8_scripts 231 = .ok (.iastore, 1) := by decide +kernel
theorem dX8_scripts_232 : decode cX8_scripts 232 = .ok (.iinc 3 1, 3) := by decide +kernel
theorem dX8_scripts_235 : decode cX8_scripts 235 = .ok (.goto (-23), 3) := by decide +kernel
theorem dX8_scripts_238 : decode cX8_scripts 238 = .ok (.iconst 0, 1) := by decide +kernel
theorem dX8_scripts_239 : decode cX8_scripts 239 = .ok (.istore_n 3, 1) := by decide +kernel
theorem dX8_scripts_240 : decode cX8_scripts 240 = .ok (.iconst 0, 1) := by decide +kernel
theorem dX8_scripts_241 : decode cX8_scripts 241 = .ok (.istore 4, 2) := by decide +kernel
theorem dX8_scripts_243 : decode cX8_scripts 243 = .ok (.iload_n 3, 1) := by decide +kernel
theorem dX8_scripts_244 : decode cX8_scripts 244 = .ok (.aload_n 0, 1) := by decide +kernel
theorem dX8_scripts_245 : decode cX8_scripts 245 = .ok (.getfield 13, 3) := by decide +kernel
theorem dX8_scripts_248 : decode cX8_scripts 248 = .ok (.iload_n 1, 1) := by decide +kernel
theorem dX8_scripts_249 : decode cX8_scripts 249 = .ok (.iaload, 1) := by decide +kernel
theorem dX8_scripts_250 : decode cX8_scripts 250 = .ok (.if_icmp .ge 98, 3) := by decide +kernel
theorem dX8_scripts_253 : decode cX8_scripts 253 = .ok (.iload 4, 2) := by decide +kernel
theorem dX8_scripts_255 : decode cX8_scripts 255 = .ok (.aload_n 0, 1) := by decide +kernel
theorem dX8_scripts_256 : decode cX8_scripts 256 = .ok (.getfield 13, 3) := by decide +kernel
theorem dX8_scripts_259 : decode cX8_scripts 259 = .ok (.iload_n 2, 1) := by decide +kernel
theorem dX8_scripts_260 : decode cX8_scripts 260 = .ok (.iaload, 1) := by decide +kernel
theorem dX8_scripts_261 : decode cX8_scripts 261 = .ok (.if_icmp .ge 87, 3) := by decide +kernel
theorem dX8_scripts_264 : decode cX8_scripts 264 = .ok (.aload_n 0, 1) := by decide +kernel
theorem dX8_scripts_265 : decode cX8_scripts 265 = .ok (.iload_n 1, 1) := by decide +kernel
theorem dX8_scripts_266 : decode cX8_scripts 266 = .ok (.iload_n 3, 1) := by decide +kernel
theorem dX8_scripts_267 : decode cX8_scripts 267 = .ok (.invokevirtual 85, 3) := by decide +kernel
theorem dX8_scripts_270 : decode cX8_scripts 270 = .ok (.aload_n 0, 1) := by decide +kernel
theorem dX8_scripts_271 : decode cX8_scripts 271 = .ok (.iload_n 2, 1) := by decide +kernel
theorem dX8_scripts_272 : decode cX8_scripts 272 = .ok (.iload 4, 2) := by decide +kernel
theorem dX8_scripts_274 : decode cX8_scripts 274 = .ok (.invokevirtual 85, 3) := by decide +kernel
theorem dX8_scripts_277 : decode cX8_scripts 277 = .ok (.if_icmp .ne 28, 3) := by decide +kernel
theorem dX8_scripts_280 : decode cX8_scripts 280 = .ok (.aload_n 0, 1) := by decide +kernel
theorem dX8_scripts_281 : decode cX8_scripts 281 = .ok (.getfield 61, 3) := by decide +kernel
theorem dX8_scripts_284 : decode cX8_scripts 284 = .ok (.iload_n 3, 1) := by decide +kernel
theorem dX8_scripts_285 : decode cX8_scripts 285 = .ok (.iload 4, 2) := by decide +kernel
theorem dX8_scripts_287 : decode cX8_scripts 287 = .ok (.iastore, 1) := by decide +kernel
theorem dX8_scripts_288 : decode cX8_scripts 288 = .ok (.aload_n 0, 1) := by decide +kernel
theorem dX8_scripts_289 : decode cX8_scripts 289 = .ok (.getfield 64, 3) := by decide +kernel
theorem dX8_scripts_292 : decode cX8_scripts 292 = .ok (.iload 4, 2) := by decide +kernel
theorem dX8_scripts_294 : decode cX8_scripts 294 = .ok (.iload_n 3, 1) := by decide +kernel
theorem dX8_scripts_295 : decode cX8_scripts 295 = .ok (.iastore, 1) := by decide +kernel
theorem dX8_scripts_296 : decode cX8_scripts 296 = .ok (.iinc 3 1, 3) := by decide +kernel
theorem dX8_scripts_299 : decode cX8_scripts 299 = .ok (.iinc 4 1, 3) := by decide +kernel
theorem dX8_scripts_302 : decode cX8_scripts 302 = .ok (.goto (-59), 3) := by decide +kernel
theorem dX8_scripts_305 : decode cX8_scripts 305 = .ok (.aload_n 0, 1) := by decide +kernel
theorem dX8_scripts_306 : decode cX8_scripts 306 = .ok (.getfield 58, 3) := by decide +kernel
theorem dX8_scripts_309 : decode cX8_scripts 309 = .ok (.bipush 13, 2) := by decide +kernel
theorem dX8_scripts_311 : decode cX8_scripts 311 = .ok (.iload_n 3, 1) := by decide +kernel
theorem dX8_scripts_312 : decode cX8_scripts 312 = .ok (.iconst 1, 1) := by decide +kernel
theorem dX8_scripts_313 : decode cX8_scripts 313 = .ok (.iadd, 1) := by decide +kernel
theorem dX8_scripts_314 : decode cX8_scripts 314 = .ok (.imul, 1) := by decide +kernel
theorem dX8_scripts_315 : decode cX8_scripts 315 = .ok (.iload 4, 2) := by decide +kernel
theorem dX8_scripts_317 : decode cX8_scripts 317 = .ok (.iadd, 1) := by decide +kernel
theorem dX8_scripts_318 : decode cX8_scripts 318 = .ok (.iaload, 1) := by decide +kernel
theorem dX8_scripts_319 : decode cX8_scripts 319 = .ok (.aload_n 0, 1) := by decide +kernel
theorem dX8_scripts_320 : decode cX8_scripts 320 = .ok (.getfield 58, 3) := by decide +kernel
theorem dX8_scripts_323 : decode cX8_scripts 323 = .ok (.bipush 13, 2) := by decide +kernel
theorem dX8_scripts_325 : decode cX8_scripts 325 = .ok (.iload_n 3, 1) := by decide +kernel
theorem dX8_scripts_326 : decode cX8_scripts 326 = .ok (.imul, 1) := by decide +kernel
theorem dX8_scripts_327 : decode cX8_scripts 327 = .ok (.iload 4, 2) := by decide +kernel
theorem dX8_scripts_329 : decode cX8_scripts 329 = .ok (.iadd, 1) := by decide +kernel
theorem dX8_scripts_330 : decode cX8_scripts 330 = .ok (.iconst 1, 1) := by decide +kernel
theorem dX8_scripts_331 : decode cX8_scripts 331 = .ok (.iadd, 1) := by decide +kernel
theorem dX8_scripts_332 : decode cX8_scripts 332 = .ok (.iaload, 1) := by decide +kernel
theorem dX8_scripts_333 : decode cX8_scripts 333 = .ok (.if_icmp .gt 9, 3) := by decide +kernel
theorem dX8_scripts_336 : decode cX8_scripts 336 = .ok (.iinc 3 1, 3) := by decide +kernel
theorem dX8_scripts_339 : decode cX8_scripts 339 = .ok (.goto (-96), 3) := by decide +kernel
theorem dX8_scripts_342 : decode cX8_scripts 342 = .ok (.iinc 4 1, 3) := by decide +kernel
theorem dX8_scripts_345 : decode cX8_scripts 345 = .ok (.goto (-102), 3) := by decide +kernel
theorem dX8_scripts_348 : decode cX8_scripts 348 = .ok (.aload_n 0, 1) := by decide +kernel
theorem dX8_scripts_349 : decode cX8_scripts 349 = .ok (.getfield 58, 3) := by decide +kernel
theorem dX8_scripts_352 : decode cX8_scripts 352 = .ok (.iconst 0, 1) := by decide +kernel
theorem dX8_scripts_353 : decode cX8_scripts 353 = .ok (.iaload, 1) := by decide +kernel
theorem dX8_scripts_354 : decode cX8_scripts 354 = .ok (.ireturn, 1) := by decide +kernel
theorem dX8_ownerFor_0 : decode cX8_ownerFor 0 = .ok (.aload_n 0, 1) := by decide +kernel
theorem dX8_ownerFor_1 : decode cX8_ownerFor 1 = .ok (.getfield 88, 3) := by decide +kernel
theorem dX8_ownerFor_4 : decode cX8_ownerFor 4 = .ok (.iconst 1, 1) := by decide +kernel
theorem dX8_ownerFor_5 : decode cX8_ownerFor 5 = .ok (.isub, 1) := by decide +kernel
theorem dX8_ownerFor_6 : decode cX8_ownerFor 6 = .ok (.istore_n 2, 1) := by decide +kernel
theorem dX8_ownerFor_7 : decode cX8_ownerFor 7 = .ok (.iload_n 2, 1) := by decide +kernel
theorem dX8_ownerFor_8 : decode cX8_ownerFor 8 = .ok (.ifCond .lt 36, 3) := by decide +kernel
theorem dX8_ownerFor_11 : decode cX8_ownerFor 11 = .ok (.iload_n 1, 1) := by decide +kernel
theorem dX8_ownerFor_12 : decode cX8_ownerFor 12 = .ok (.aload_n 0, 1) := by decide +kernel
theorem dX8_ownerFor_13 : decode cX8_ownerFor 13 = .ok (.getfield 16, 3) := by decide +kernel
theorem dX8_ownerFor_16 : decode cX8_ownerFor 16 = .ok (.iload_n 2, 1) := by decide +kernel
theorem dX8_ownerFor_17 : decode cX8_ownerFor 17 = .ok (.iaload, 1) := by decide +kernel
theorem dX8_ownerFor_18 : decode cX8_ownerFor 18 = .ok (.if_icmp .lt 20, 3) := by decide +kernel
theorem dX8_ownerFor_21 : decode cX8_ownerFor 21 = .ok (.iload_n 1, 1) := by decide +kernel
theorem dX8_ownerFor_22 : decode cX8_ownerFor 22 = .ok (.aload_n 0, 1) := by decide +kernel
theorem dX8_ownerFor_23 : decode cX8_ownerFor 23 = .ok (.getfield 19, 3) := by decide +kernel
theorem dX8_ownerFor_26 : decode cX8_ownerFor 26 = .ok (.iload_n 2, 1) := by decide +kernel
theorem dX8_ownerFor_27 : decode cX8_ownerFor 27 = .ok (.iaload, 1) := by decide +kernel
theorem dX8_ownerFor_28 : decode cX8_ownerFor 28 = .ok (.if_icmp .gt 10, 3) := by decide +kernel
theorem dX8_ownerFor_31 : decode cX8_ownerFor 31 = .ok (.aload_n 0, 1) := by decide +kernel
theorem dX8_ownerFor_32 : decode cX8_ownerFor 32 = .ok (.getfield 22, 3) := by decide +kernel
theorem dX8_ownerFor_35 : decode cX8_ownerFor 35 = .ok (.iload_n 2, 1) := by decide +kernel
theorem dX8_ownerFor_36 : decode cX8_ownerFor 36 = .ok (.iaload, 1) := by decide +kernel
theorem dX8_ownerFor_37 : decode cX8_ownerFor 37 = .ok (.ireturn, 1) := by decide +kernel
theorem dX8_ownerFor_38 : decode cX8_ownerFor 38 = .ok (.iinc 2 (-1), 3) := by decide +kernel
theorem dX8_ownerFor_41 : decode cX8_ownerFor 41 = .ok (.goto (-34), 3) := by decide +kernel
theorem dX8_ownerFor_44 : decode cX8_ownerFor 44 = .ok (.iconst (-1), 1) := by decide +kernel
theorem dX8_ownerFor_45 : decode cX8_ownerFor 45 = .ok (.ireturn, 1) := by decide +kernel
set_option maxRecDepth 20000 in
theorem ggX8_touches_X8_scripts : GoodIn wsX8_touches wsX8_scripts := goodIn_r _ [8, 1, 9, 2, 3, 10, 11, 12, 7, 13, 14, 23, 24, 25, 26, 27, 28, 29, 30, 31, 32, 33, 34, 35, 36, 37, 38, 39, 40, 41, 42, 43, 44, 45, 46, 47, 48] (by decide +kernel) (by decide +kernel)
set_option maxRecDepth 20000 in
theorem gX8_touches_X8_scripts : GoodIn wsX8_touches (wsV RX8 91 RX8 yX8_scripts wsX8_scripts) := goodIn_app (goodIn_of _ (by decide +kernel)) ggX8_touches_X8_scripts
set_option maxRecDepth 20000 in
theorem ggX8_touches_X8_line : GoodIn wsX8_touches wsX8_line := goodIn_r _ [13, 14, 23, 24, 25, 26, 27, 28, 29, 30, 31, 32, 33, 34, 35, 36, 37, 38, 39, 40, 41, 42, 43, 44, 45, 46, 47, 48] (by decide +kernel) (by decide +kernel)
set_option maxRecDepth 20000 in
theorem gX8_touches_X8_line : GoodIn wsX8_touches (wsV RX8 85 RX8 yX8_line wsX8_line) := goodIn_app (goodIn_of _ (by decide +kernel)) ggX8_touches_X8_line
set_option maxRecDepth 20000 in
theorem ggX8_touches_X8_ownerFor : GoodIn wsX8_touches wsX8_ownerFor := goodIn_r _ [18, 19, 20, 21, 22, 23, 24, 25, 26, 27, 28, 29, 30, 31, 32, 33, 34, 35, 36, 37, 38, 39, 40, 41, 42, 43, 44, 45, 46, 47, 48] (by decide +kernel) (by decide +kernel)
set_option maxRecDepth 20000 in
theorem gX8_touches_X8_ownerFor : GoodIn wsX8_touches (wsV RX8 94 RX8 yX8_ownerFor wsX8_ownerFor) := goodIn_app (goodIn_of _ (by decide +kernel)) ggX8_touches_X8_ownerFor
theorem dX8_touches_0 : decode cX8_touches 0 = .ok (.aload_n 0, 1) := by decide +kernel
theorem dX8_touches_1 : decode cX8_touches 1 = .ok (.iload_n 1, 1) := by decide +kernel
theorem dX8_touches_2 : decode cX8_touches 2 = .ok (.iload_n 2, 1) := by decide +kernel
theorem dX8_touches_3 : decode cX8_touches 3 = .ok (.invokevirtual 91, 3) := by decide +kernel
theorem dX8_touches_6 : decode cX8_touches 6 = .ok (.istore 4, 2) := by decide +kernel
theorem dX8_touches_8 : decode cX8_touches 8 = .ok (.iload 4, 2) := by decide +kernel
theorem dX8_touches_10 : decode cX8_touches 10 = .ok (.ifCond .ne 5, 3) := by decide +kernel
theorem dX8_touches_13 : decode cX8_touches 13 = .ok (.iconst 0, 1) := by decide +kernel
theorem dX8_touches_14 : decode cX8_touches 14 = .ok (.ireturn, 1) := by decide +kernel
theorem dX8_touches_15 : decode cX8_touches 15 = .ok (.iconst 0, 1) := by decide +kernel
theorem dX8_touches_16 : decode cX8_touches 16 = .ok (.istore 5, 2) := by decide +kernel
theorem dX8_touches_18 : decode cX8_touches 18 = .ok (.iload 5, 2) := by decide +kernel
theorem dX8_touches_20 : decode cX8_touches 20 = .ok (.aload_n 0, 1) := by decide +kernel
theorem dX8_touches_21 : decode cX8_touches 21 = .ok (.getfield 13, 3) := by decide +kernel
theorem dX8_touches_24 : decode cX8_touches 24 = .ok (.iload_n 1, 1) := by decide +kernel
theorem dX8_touches_25 : decode cX8_touches 25 = .ok (.iaload, 1) := by decide +kernel
theorem dX8_touches_26 : decode cX8_touches 26 = .ok (.if_icmp .ge 36, 3) := by decide +kernel
theorem dX8_touches_29 : decode cX8_touches 29 = .ok (.aload_n 0, 1) := by decide +kernel
theorem dX8_touches_30 : decode cX8_touches 30 = .ok (.getfield 61, 3) := by decide +kernel
theorem dX8_touches_33 : decode cX8_touches 33 = .ok (.iload 5, 2) := by decide +kernel
theorem dX8_touches_35 : decode cX8_touches 35 = .ok (.iaload, 1) := by decide +kernel
theorem dX8_touches_36 : decode cX8_touches 36 = .ok (.ifCond .ge 20, 3) := by decide +kernel
theorem dX8_touches_39 : decode cX8_touches 39 = .ok (.aload_n 0, 1) := by decide +kernel
theorem dX8_touches_40 : decode cX8_touches 40 = .ok (.aload_n 0, 1) := by decide +kernel
theorem dX8_touches_41 : decode cX8_touches 41 = .ok (.iload_n 1, 1) := by decide +kernel
theorem dX8_touches_42 : decode cX8_touches 42 = .ok (.iload 5, 2) := by decide +kernel
theorem dX8_touches_44 : decode cX8_touches 44 = .ok (.invokevirtual 85, 3) := by decide +kernel
theorem dX8_touches_47 : decode cX8_touches 47 = .ok (.invokevirtual 94, 3) := by decide +kernel
theorem dX8_touches_50 : decode cX8_touches 50 = .ok (.iload_n 3, 1) := by decide +kernel
theorem dX8_touches_51 : decode cX8_touches 51 = .ok (.if_icmp .ne 5, 3) := by decide +kernel
theorem dX8_touches_54 : decode cX8_touches 54 = .ok (.iconst 1, 1) := by decide +kernel
theorem dX8_touches_55 : decode cX8_touches 55 = .ok (.ireturn, 1) := by decide +kernel
theorem dX8_touches_56 : decode cX8_touches 56 = .ok (.iinc 5 1, 3) := by decide +kernel
theorem dX8_touches_59 : decode cX8_touches 59 = .ok (.goto (-41), 3) := by decide +kernel
theorem dX8_touches_62 : decode cX8_touches 62 = .ok (.iconst 0, 1) := by decide +kernel
theorem dX8_touches_63 : decode cX8_touches 63 = .ok (.istore 5, 2) := by decide +kernel
theorem dX8_touches_65 : decode cX8_touches 65 = .ok (.iload 5, 2) := by decide +kernel
theorem dX8_touches_67 : decode cX8_touches 67 = .ok (.aload_n 0, 1) := by decide +kernel
theorem dX8_touches_68 : decode cX8_touches 68 = .ok (.getfield 13, 3) := by decide +kernel
theorem dX8_touches_71 : decode cX8_touches 71 = .ok (.iload_n 2, 1) := by decide +kernel
theorem dX8_touches_72 : decode cX8_touches 72 = .ok (.iaload, 1) := by decide +kernel
theorem dX8_touches_73 : decode cX8_touches 73 = .ok (.if_icmp .ge 36, 3) := by decide +kernel
theorem dX8_touches_76 : decode cX8_touches 76 = .ok (.aload_n 0, 1) := by decide +kernel
theorem dX8_touches_77 : decode cX8_touches 77 = .ok (.getfield 64, 3) := by decide +kernel
theorem dX8_touches_80 : decode cX8_touches 80 = .ok (.iload 5, 2) := by decide +kernel
theorem dX8_touches_82 : decode cX8_touches 82 = .ok (.iaload, 1) := by decide +kernel
theorem dX8_touches_83 : decode cX8_touches 83 = .ok (.ifCond .ge 20, 3) := by decide +kernel
theorem dX8_touches_86 : decode cX8_touches 86 = .ok (.aload_n 0, 1) := by decide +kernel
theorem dX8_touches_87 : decode cX8_touches 87 = .ok (.aload_n 0, 1) := by decide +kernel
theorem dX8_touches_88 : decode cX8_touches 88 = .ok (.iload_n 2, 1) := by decide +kernel
theorem dX8_touches_89 : decode cX8_touches 89 = .ok (.iload 5, 2) := by decide +kernel
theorem dX8_touches_91 : decode cX8_touches 91 = .ok (.invokevirtual 85, 3) := by decide +kernel
theorem dX8_touches_94 : decode cX8_touches 94 = .ok (.invokevirtual 94, 3) := by decide +kernel
theorem dX8_touches_97 : decode cX8_touches 97 = .ok (.iload_n 3, 1) := by decide +kernel
theorem dX8_touches_98 : decode cX8_touches 98 = .ok (.if_icmp .ne 5, 3) := by decide +kernel
theorem dX8_touches_101 : decode cX8_touches 101 = .ok (.iconst 1, 1) := by decide +kernel
theorem dX8_touches_102 : decode cX8_touches 102 = .ok (.ireturn, 1) := by decide +kernel
theorem dX8_touches_103 : decode cX8_touches 103 = .ok (.iinc 5 1, 3) := by decide +kernel
theorem dX8_touches_106 : decode cX8_touches 106 = .ok (.goto (-41), 3) := by decide +kernel
theorem dX8_touches_109 : decode cX8_touches 109 = .ok (.iconst 0, 1) := by decide +kernel
theorem dX8_touches_110 : decode cX8_touches 110 = .ok (.ireturn, 1) := by decide +kernel
set_option maxRecDepth 20000 in
theorem ggX8_isNeeded_X8_present : GoodIn wsX8_isNeeded wsX8_present := goodIn_r _ [7, 1, 8, 9, 6, 10, 36, 37, 38, 39, 40, 41, 42, 43, 44, 45, 46, 47, 48, 49, 50, 51, 52, 53, 54, 55, 56, 57, 58, 59, 60, 61] (by decide +kernel) (by decide +kernel)
set_option maxRecDepth 20000 in
theorem gX8_isNeeded_X8_present : GoodIn wsX8_isNeeded (wsV RX8 98 RX8 yX8_present wsX8_present) := goodIn_app (goodIn_of _ (by decide +kernel)) ggX8_isNeeded_X8_present
set_option maxRecDepth 20000 in
theorem ggX8_isNeeded_X8_touches : GoodIn wsX8_isNeeded wsX8_touches := goodIn_r _ [14, 15, 16, 17, 18, 19, 20, 6, 21, 22, 23, 24, 25, 26, 27, 28, 29, 30, 31, 32, 33, 34, 35, 36, 37, 38, 39, 40, 41, 42, 43, 44, 45, 46, 47, 48, 49, 50, 51, 52, 53, 54, 55, 56, 57, 58, 59, 60, 61] (by decide +kernel) (by decide +kernel)
set_option maxRecDepth 20000 in
theorem gX8_isNeeded_X8_touches : GoodIn wsX8_isNeeded (wsV RX8 101 RX8 yX8_touches wsX8_touches) := goodIn_app (goodIn_of _ (by decide +kernel)) ggX8_isNeeded_X8_touches
theorem dX8_isNeeded_0 : decode cX8_isNeeded 0 = .ok (.aload_n 0, 1) := by decide +kernel
theorem dX8_isNeeded_1 : decode cX8_isNeeded 1 = .ok (.getfield 28, 3) := by decide +kernel
theorem dX8_isNeeded_4 : decode cX8_isNeeded 4 = .ok (.iload_n 1, 1) := by decide +kernel
theorem dX8_isNeeded_5 : decode cX8_isNeeded 5 = .ok (.iaload, 1) := by decide +kernel
theorem dX8_isNeeded_6 : decode cX8_isNeeded 6 = .ok (.ifCond .le 33, 3) := by decide +kernel
theorem dX8_isNeeded_9 : decode cX8_isNeeded 9 = .ok (.iload_n 2, 1) := by decide +kernel
theorem dX8_isNeeded_10 : decode cX8_isNeeded 10 = .ok (.aload_n 0, 1) := by decide +kernel
theorem dX8_isNeeded_11 : decode cX8_isNeeded 11 = .ok (.getfield 25, 3) := by decide +kernel
theorem dX8_isNeeded_14 : decode cX8_isNeeded 14 = .ok (.iload_n 1, 1) := by decide +kernel
theorem dX8_isNeeded_15 : decode cX8_isNeeded 15 = .ok (.iaload, 1) := by decide +kernel
theorem dX8_isNeeded_16 : decode cX8_isNeeded 16 = .ok (.if_icmp .eq 23, 3) := by decide +kernel
theorem dX8_isNeeded_19 : decode cX8_isNeeded 19 = .ok (.aload_n 0, 1) := by decide +kernel
theorem dX8_isNeeded_20 : decode cX8_isNeeded 20 = .ok (.iconst 1, 1) := by decide +kernel
theorem dX8_isNeeded_21 : decode cX8_isNeeded 21 = .ok (.iload_n 1, 1) := by decide +kernel
theorem dX8_isNeeded_22 : decode cX8_isNeeded 22 = .ok (.iadd, 1) := by decide +kernel
theorem dX8_isNeeded_23 : decode cX8_isNeeded 23 = .ok (.aload_n 0, 1) := by decide +kernel
theorem dX8_isNeeded_24 : decode cX8_isNeeded 24 = .ok (.iload_n 1, 1) := by decide +kernel
theorem dX8_isNeeded_25 : decode cX8_isNeeded 25 = .ok (.invokevirtual 98, 3) := by decide +kernel
theorem dX8_isNeeded_28 : decode cX8_isNeeded 28 = .ok (.iload_n 2, 1) := by decide +kernel
theorem dX8_isNeeded_29 : decode cX8_isNeeded 29 = .ok (.invokevirtual 101, 3) := by decide +kernel
theorem dX8_isNeeded_32 : decode cX8_isNeeded 32 = .ok (.ifCond .eq 7, 3) := by decide +kernel
theorem dX8_isNeeded_35 : decode cX8_isNeeded 35 = .ok (.iconst 1, 1) := by decide +kernel
theorem dX8_isNeeded_36 : decode cX8_isNeeded 36 = .ok (.goto 4, 3) := by decide +kernel
theorem dX8_isNeeded_39 : decode cX8_isNeeded 39 = .ok (.iconst 0, 1) := by decide +kernel
theorem dX8_isNeeded_40 : decode cX8_isNeeded 40 = .ok (.ireturn, 1) := by decide +kernel
theorem dX8_given_0 : decode cX8_given 0 = .ok (.aload_n 0, 1) := by decide +kernel
theorem dX8_given_1 : decode cX8_given 1 = .ok (.getfield 43, 3) := by decide +kernel
theorem dX8_given_4 : decode cX8_given 4 = .ok (.iconst 5, 1) := by decide +kernel
theorem dX8_given_5 : decode cX8_given 5 = .ok (.iload_n 1, 1) := by decide +kernel
theorem dX8_given_6 : decode cX8_given 6 = .ok (.imul, 1) := by decide +kernel
theorem dX8_given_7 : decode cX8_given 7 = .ok (.iload_n 2, 1) := by decide +kernel
theorem dX8_given_8 : decode cX8_given 8 = .ok (.iadd, 1) := by decide +kernel
theorem dX8_given_9 : decode cX8_given 9 = .ok (.iaload, 1) := by decide +kernel
theorem dX8_given_10 : decode cX8_given 10 = .ok (.iconst 1, 1) := by decide +kernel
theorem dX8_given_11 : decode cX8_given 11 = .ok (.isub, 1) := by decide +kernel
theorem dX8_given_12 : decode cX8_given 12 = .ok (.ireturn, 1) := by decide +kernel
set_option maxRecDepth 20000 in
theorem ggX8_isOld_X8_given : GoodIn wsX8_isOld wsX8_given := goodIn_r _ [6, 7, 36, 37, 38, 39, 40, 41, 42, 43, 44, 45, 46, 47, 48, 49, 50, 51, 52, 53, 54, 55, 56, 57, 58, 59, 60, 61] (by decide +kernel) (by decide +kernel)
set_option maxRecDepth 20000 in
theorem gX8_isOld_X8_given : GoodIn wsX8_isOld (wsV RX8 104 RX8 yX8_given wsX8_given) := goodIn_app (goodIn_of _ (by decide +kernel)) ggX8_isOld_X8_given
set_option maxRecDepth 20000 in
theorem ggX8_isOld_X8_slot : GoodIn wsX8_isOld wsX8_slot := goodIn_r _ [10] (by decide +kernel) (by decide +kernel)
set_option maxRecDepth 20000 in
theorem gX8_isOld_X8_slot : GoodIn wsX8_isOld (va_wsS RX8 81 yX8_slot wsX8_slot) := goodIn_app (goodIn_of _ (by decide +kernel)) ggX8_isOld_X8_slot
set_option maxRecDepth 20000 in
theorem ggX8_isOld_X8_touches : GoodIn wsX8_isOld wsX8_touches := goodIn_r _ [14, 15, 16, 17, 18, 19, 20, 5, 21, 22, 23, 24, 25, 26, 27, 28, 29, 30, 31, 32, 33, 34, 35, 36, 37, 38, 39, 40, 41, 42, 43, 44, 45, 46, 47, 48, 49, 50, 51, 52, 53, 54, 55, 56, 57, 58, 59, 60, 61] (by decide +kernel) (by decide +kernel)
set_option maxRecDepth 20000 in
theorem gX8_isOld_X8_touches : GoodIn wsX8_isOld (wsV RX8 101 RX8 yX8_touches wsX8_touches) := goodIn_app (goodIn_of _ (by decide +kernel)) ggX8_isOld_X8_touches
theorem dX8_isOld_0 : decode cX8_isOld 0 = .ok (.aload_n 0, 1) := by decide +kernel
theorem dX8_isOld_1 : decode cX8_isOld 1 = .ok (.iload_n 1, 1) := by decide +kernel
theorem dX8_isOld_2 : decode cX8_isOld 2 = .ok (.iload_n 2, 1) := by decide +kernel
theorem dX8_isOld_3 : decode cX8_isOld 3 = .ok (.invokevirtual 104, 3) := by decide +kernel
theorem dX8_isOld_6 : decode cX8_isOld 6 = .ok (.istore_n 3, 1) := by decide +kernel
theorem dX8_isOld_7 : decode cX8_isOld 7 = .ok (.iload_n 3, 1) := by decide +kernel
theorem dX8_isOld_8 : decode cX8_isOld 8 = .ok (.iconst 1, 1) := by decide +kernel
theorem dX8_isOld_9 : decode cX8_isOld 9 = .ok (.iadd, 1) := by decide +kernel
theorem dX8_isOld_10 : decode cX8_isOld 10 = .ok (.aload_n 0, 1) := by decide +kernel
theorem dX8_isOld_11 : decode cX8_isOld 11 = .ok (.getfield 28, 3) := by decide +kernel
theorem dX8_isOld_14 : decode cX8_isOld 14 = .ok (.iload_n 1, 1) := by decide +kernel
theorem dX8_isOld_15 : decode cX8_isOld 15 = .ok (.iaload, 1) := by decide +kernel
theorem dX8_isOld_16 : decode cX8_isOld 16 = .ok (.if_icmp .ge 31, 3) := by decide +kernel
theorem dX8_isOld_19 : decode cX8_isOld 19 = .ok (.aload_n 0, 1) := by decide +kernel
theorem dX8_isOld_20 : decode cX8_isOld 20 = .ok (.iload_n 1, 1) := by decide +kernel
theorem dX8_isOld_21 : decode cX8_isOld 21 = .ok (.iload_n 3, 1) := by decide +kernel
theorem dX8_isOld_22 : decode cX8_isOld 22 = .ok (.invokestatic 81, 3) := by decide +kernel
theorem dX8_isOld_25 : decode cX8_isOld 25 = .ok (.iload_n 1, 1) := by decide +kernel
theorem dX8_isOld_26 : decode cX8_isOld 26 = .ok (.iload_n 3, 1) := by decide +kernel
theorem dX8_isOld_27 : decode cX8_isOld 27 = .ok (.iconst 1, 1) := by decide +kernel
theorem dX8_isOld_28 : decode cX8_isOld 28 = .ok (.iadd, 1) := by decide +kernel
theorem dX8_isOld_29 : decode cX8_isOld 29 = .ok (.invokestatic 81, 3) := by decide +kernel
theorem dX8_isOld_32 : decode cX8_isOld 32 = .ok (.iload_n 2, 1) := by decide +kernel
theorem dX8_isOld_33 : decode cX8_isOld 33 = .ok (.invokevirtual 101, 3) := by decide +kernel
theorem dX8_isOld_36 : decode cX8_isOld 36 = .ok (.ifCond .eq 5, 3) := by decide +kernel
theorem dX8_isOld_39 : decode cX8_isOld 39 = .ok (.iconst 1, 1) := by decide +kernel
theorem dX8_isOld_40 : decode cX8_isOld 40 = .ok (.ireturn, 1) := by decide +kernel
theorem dX8_isOld_41 : decode cX8_isOld 41 = .ok (.iinc 3 1, 3) := by decide +kernel
theorem dX8_isOld_44 : decode cX8_isOld 44 = .ok (.goto (-37), 3) := by decide +kernel
theorem dX8_isOld_47 : decode cX8_isOld 47 = .ok (.iconst 0, 1) := by decide +kernel
theorem dX8_isOld_48 : decode cX8_isOld 48 = .ok (.ireturn, 1) := by decide +kernel
set_option maxRecDepth 20000 in
theorem ggX8_fresh_X8_given : GoodIn wsX8_fresh wsX8_given := goodIn_r _ [5, 6, 40, 41, 42, 43, 44, 45, 46, 47, 48, 49, 50, 51, 52, 53, 54, 55, 56, 57, 58, 59, 60, 61, 62, 63, 64, 65] (by decide +kernel) (by decide +kernel)
set_option maxRecDepth 20000 in
theorem gX8_fresh_X8_given : GoodIn wsX8_fresh (wsV RX8 104 RX8 yX8_given wsX8_given) := goodIn_app (goodIn_of _ (by decide +kernel)) ggX8_fresh_X8_given
set_option maxRecDepth 20000 in
theorem ggX8_fresh_X8_isOld : GoodIn wsX8_fresh wsX8_isOld := goodIn_r _ [10, 11, 1, 2, 3, 4, 5, 6, 12, 13, 14, 15, 16, 17, 18, 19, 20, 21, 22, 23, 24, 25, 26, 27, 28, 29, 30, 31, 32, 33, 34, 35, 36, 37, 38, 39, 40, 41, 42, 43, 44, 45, 46, 47, 48, 49, 50, 51, 52, 53, 54, 55, 56, 57, 58, 59, 60, 61, 62, 63, 64, 65] (by decide +kernel) (by decide +kernel)
set_option maxRecDepth 20000 in
theorem gX8_fresh_X8_isOld : GoodIn wsX8_fresh (wsV RX8 107 RX8 yX8_isOld wsX8_isOld) := goodIn_app (goodIn_of _ (by decide +kernel)) ggX8_fresh_X8_isOld
theorem dX8_fresh_0 : decode cX8_fresh 0 = .ok (.iconst 0, 1) := by decide +kernel
theorem dX8_fresh_1 : decode cX8_fresh 1 = .ok (.istore_n 2, 1) := by decide +kernel
theorem dX8_fresh_2 : decode cX8_fresh 2 = .ok (.iconst 0, 1) := by decide +kernel
theorem dX8_fresh_3 : decode cX8_fresh 3 = .ok (.istore_n 3, 1) := by decide +kernel
theorem dX8_fresh_4 : decode cX8_fresh 4 = .ok (.iload_n 3, 1) := by decide +kernel
theorem dX8_fresh_5 : decode cX8_fresh 5 = .ok (.iconst 5, 1) := by decide +kernel
theorem dX8_fresh_6 : decode cX8_fresh 6 = .ok (.if_icmp .ge 35, 3) := by decide +kernel
theorem dX8_fresh_9 : decode cX8_fresh 9 = .ok (.iload_n 2, 1) := by decide +kernel
theorem dX8_fresh_10 : decode cX8_fresh 10 = .ok (.aload_n 0, 1) := by decide +kernel
theorem dX8_fresh_11 : decode cX8_fresh 11 = .ok (.iload_n 1, 1) := by decide +kernel
theorem dX8_fresh_12 : decode cX8_fresh 12 = .ok (.iload_n 3, 1) := by decide +kernel
theorem dX8_fresh_13 : decode cX8_fresh 13 = .ok (.invokevirtual 104, 3) := by decide +kernel
theorem dX8_fresh_16 : decode cX8_fresh 16 = .ok (.ifCond .lt 16, 3) := by decide +kernel
theorem dX8_fresh_19 : decode cX8_fresh 19 = .ok (.aload_n 0, 1) := by decide +kernel
theorem dX8_fresh_20 : decode cX8_fresh 20 = .ok (.iload_n 1, 1) := by decide +kernel
theorem dX8_fresh_21 : decode cX8_fresh 21 = .ok (.iload_n 3, 1) := by decide +kernel
theorem dX8_fresh_22 : decode cX8_fresh 22 = .ok (.invokevirtual 107, 3) := by decide +kernel
theorem dX8_fresh_25 : decode cX8_fresh 25 = .ok (.ifCond .ne 7, 3) := by decide +kernel
theorem dX8_fresh_28 : decode cX8_fresh 28 = .ok (.iconst 1, 1) := by decide +kernel
theorem dX8_fresh_29 : decode cX8_fresh 29 = .ok (.goto 4, 3) := by decide +kernel
theorem dX8_fresh_32 : decode cX8_fresh 32 = .ok (.iconst 0, 1) := by decide +kernel
theorem dX8_fresh_33 : decode cX8_fresh 33 = .ok (.iadd, 1) := by decide +kernel
theorem dX8_fresh_34 : decode cX8_fresh 34 = .ok (.istore_n 2, 1) := by decide +kernel
theorem dX8_fresh_35 : decode cX8_fresh 35 = .ok (.iinc 3 1, 3) := by decide +kernel
theorem dX8_fresh_38 : decode cX8_fresh 38 = .ok (.goto (-34), 3) := by decide +kernel
theorem dX8_fresh_41 : decode cX8_fresh 41 = .ok (.iload_n 2, 1) := by decide +kernel
theorem dX8_fresh_42 : decode cX8_fresh 42 = .ok (.ireturn, 1) := by decide +kernel
set_option maxRecDepth 20000 in
theorem ggX8_lacking_X8_isNeeded : GoodIn wsX8_lacking wsX8_isNeeded := goodIn_r _ [5, 6, 7, 8, 9, 10, 4, 11, 12, 13, 14, 15, 16, 17, 18, 19, 20, 21, 22, 23, 24, 25, 26, 27, 28, 29, 30, 31, 32, 33, 34, 35, 36, 37, 38, 39, 49, 50, 51, 52, 53, 54, 55, 56, 57, 58, 59, 60, 61, 62, 63, 64, 65, 66, 67, 68, 69, 70, 71, 72, 73, 74] (by decide +kernel) (by decide +kernel)
set_option maxRecDepth 20000 in
theorem gX8_lacking_X8_isNeeded : GoodIn wsX8_lacking (wsV RX8 111 RX8 yX8_isNeeded wsX8_isNeeded) := goodIn_app (goodIn_of _ (by decide +kernel)) ggX8_lacking_X8_isNeeded
set_option maxRecDepth 20000 in
theorem ggX8_lacking_X8_given : GoodIn wsX8_lacking wsX8_given := goodIn_r _ [43, 44, 49, 50, 51, 52, 53, 54, 55, 56, 57, 58, 59, 60, 61, 62, 63, 64, 65, 66, 67, 68, 69, 70, 71, 72, 73, 74] (by decide +kernel) (by decide +kernel)
set_option maxRecDepth 20000 in
theorem gX8_lacking_X8_given : GoodIn wsX8_lacking (wsV RX8 104 RX8 yX8_given wsX8_given) := goodIn_app (goodIn_of _ (by decide +kernel)) ggX8_lacking_X8_given
set_option maxRecDepth 20000 in
theorem ggX8_lacking_X8_isOld : GoodIn wsX8_lacking wsX8_isOld := goodIn_r _ [48, 6, 40, 41, 42, 4, 43, 44, 12, 13, 14, 15, 16, 17, 18, 19, 20, 21, 22, 23, 24, 25, 26, 27, 28, 29, 30, 31, 32, 33, 34, 35, 36, 37, 38, 39, 49, 50, 51, 52, 53, 54, 55, 56, 57, 58, 59, 60, 61, 62, 63, 64, 65, 66, 67, 68, 69, 70, 71, 72, 73, 74] (by decide +kernel) (by decide +kernel)
set_option maxRecDepth 20000 in
theorem gX8_lacking_X8_isOld : GoodIn wsX8_lacking (wsV RX8 107 RX8 yX8_isOld wsX8_isOld) := goodIn_app (goodIn_of _ (by decide +kernel)) ggX8_lacking_X8_isOld
theorem dX8_lacking_0 : decode cX8_lacking 0 = .ok (.iconst 0, 1) := by decide +kernel
theorem dX8_lacking_1 : decode cX8_lacking 1 = .ok (.istore_n 2, 1) := by decide +kernel
theorem dX8_lacking_2 : decode cX8_lacking 2 = .ok (.iload_n 2, 1) := by decide +kernel
theorem dX8_lacking_3 : decode cX8_lacking 3 = .ok (.iconst 5, 1) := by decide +kernel
theorem dX8_lacking_4 : decode cX8_lacking 4 = .ok (.if_icmp .ge 38, 3) := by decide +kernel
theorem dX8_lacking_7 : decode cX8_lacking 7 = .ok (.aload_n 0, 1) := by decide +kernel
theorem dX8_lacking_8 : decode cX8_lacking 8 = .ok (.iload_n 1, 1) := by decide +kernel
theorem dX8_lacking_9 : decode cX8_lacking 9 = .ok (.iload_n 2, 1) := by decide +kernel
theorem dX8_lacking_10 : decode cX8_lacking 10 = .ok (.invokevirtual 111, 3) := by decide +kernel
theorem dX8_lacking_13 : decode cX8_lacking 13 = .ok (.ifCond .eq 23, 3) := by decide +kernel
theorem dX8_lacking_16 : decode cX8_lacking 16 = .ok (.aload_n 0, 1) := by decide +kernel
theorem dX8_lacking_17 : decode cX8_lacking 17 = .ok (.iload_n 1, 1) := by decide +kernel
theorem dX8_lacking_18 : decode cX8_lacking 18 = .ok (.iload_n 2, 1) := by decide +kernel
theorem dX8_lacking_19 : decode cX8_lacking 19 = .ok (.invokevirtual 104, 3) := by decide +kernel
theorem dX8_lacking_22 : decode cX8_lacking 22 = .ok (.ifCond .lt 12, 3) := by decide +kernel
theorem dX8_lacking_25 : decode cX8_lacking 25 = .ok (.aload_n 0, 1) := by decide +kernel
theorem dX8_lacking_26 : decode cX8_lacking 26 = .ok (.iload_n 1, 1) := by decide +kernel
theorem dX8_lacking_27 : decode cX8_lacking 27 = .ok (.iload_n 2, 1) := by decide +kernel
theorem dX8_lacking_28 : decode cX8_lacking 28 = .ok (.invokevirtual 107, 3) := by decide +kernel
theorem dX8_lacking_31 : decode cX8_lacking 31 = .ok (.ifCond .eq 5, 3) := by decide +kernel
theorem dX8_lacking_34 : decode cX8_lacking 34 = .ok (.iload_n 2, 1) := by decide +kernel
theorem dX8_lacking_35 : decode cX8_lacking 35 = .ok (.ireturn, 1) := by decide +kernel
theorem dX8_lacking_36 : decode cX8_lacking 36 = .ok (.iinc 2 1, 3) := by decide +kernel
theorem dX8_lacking_39 : decode cX8_lacking 39 = .ok (.goto (-37), 3) := by decide +kernel
theorem dX8_lacking_42 : decode cX8_lacking 42 = .ok (.iconst (-1), 1) := by decide +kernel
theorem dX8_lacking_43 : decode cX8_lacking 43 = .ok (.ireturn, 1) := by decide +kernel
theorem dX8_opens_0 : decode cX8_opens 0 = .ok (.iconst 0, 1) := by decide +kernel
theorem dX8_opens_1 : decode cX8_opens 1 = .ok (.istore_n 2, 1) := by decide +kernel
theorem dX8_opens_2 : decode cX8_opens 2 = .ok (.iconst 0, 1) := by decide +kernel
theorem dX8_opens_3 : decode cX8_opens 3 = .ok (.istore_n 3, 1) := by decide +kernel
theorem dX8_opens_4 : decode cX8_opens 4 = .ok (.iload_n 3, 1) := by decide +kernel
theorem dX8_opens_5 : decode cX8_opens 5 = .ok (.aload_n 0, 1) := by decide +kernel
theorem dX8_opens_6 : decode cX8_opens 6 = .ok (.getfield 114, 3) := by decide +kernel
theorem dX8_opens_9 : decode cX8_opens 9 = .ok (.if_icmp .ge 36, 3) := by decide +kernel
theorem dX8_opens_12 : decode cX8_opens 12 = .ok (.iload_n 2, 1) := by decide +kernel
theorem dX8_opens_13 : decode cX8_opens 13 = .ok (.aload_n 0, 1) := by decide +kernel
theorem dX8_opens_14 : decode cX8_opens 14 = .ok (.getfield 46, 3) := by decide +kernel
theorem dX8_opens_17 : decode cX8_opens 17 = .ok (.iload_n 3, 1) := by decide +kernel
theorem dX8_opens_18 : decode cX8_opens 18 = .ok (.iaload, 1) := by decide +kernel
theorem dX8_opens_19 : decode cX8_opens 19 = .ok (.iload_n 1, 1) := by decide +kernel
theorem dX8_opens_20 : decode cX8_opens 20 = .ok (.if_icmp .ne 16, 3) := by decide +kernel
theorem dX8_opens_23 : decode cX8_opens 23 = .ok (.aload_n 0, 1) := by decide +kernel
theorem dX8_opens_24 : decode cX8_opens 24 = .ok (.getfield 55, 3) := by decide +kernel
theorem dX8_opens_27 : decode cX8_opens 27 = .ok (.iload_n 3, 1) := by decide +kernel
theorem dX8_opens_28 : decode cX8_opens 28 = .ok (.iaload, 1) := by decide +kernel
theorem dX8_opens_29 : decode cX8_opens 29 = .ok (.ifCond .ne 7, 3) := by decide +kernel
theorem dX8_opens_32 : decode cX8_opens 32 = .ok (.iconst 1, 1) := by decide +kernel
theorem dX8_opens_33 : decode cX8_opens 33 = .ok (.goto 4, 3) := by decide +kernel
theorem dX8_opens_36 : decode cX8_opens 36 = .ok (.iconst 0, 1) := by decide +kernel
theorem dX8_opens_37 : decode cX8_opens 37 = .ok (.iadd, 1) := by decide +kernel
theorem dX8_opens_38 : decode cX8_opens 38 = .ok (.istore_n 2, 1) := by decide +kernel
theorem dX8_opens_39 : decode cX8_opens 39 = .ok (.iinc 3 1, 3) := by decide +kernel
theorem dX8_opens_42 : decode cX8_opens 42 = .ok (.goto (-38), 3) := by decide +kernel
theorem dX8_opens_45 : decode cX8_opens 45 = .ok (.iload_n 2, 1) := by decide +kernel
theorem dX8_opens_46 : decode cX8_opens 46 = .ok (.ireturn, 1) := by decide +kernel
set_option maxRecDepth 20000 in
theorem ggX8_giveRange_X8_isUser : GoodIn wsX8_giveRange wsX8_isUser := goodIn_r _ [9, 10, 11, 8, 12] (by decide +kernel) (by decide +kernel)
set_option maxRecDepth 20000 in
theorem gX8_giveRange_X8_isUser : GoodIn wsX8_giveRange (va_wsS RX8 117 yX8_isUser wsX8_isUser) := goodIn_app (goodIn_of _ (by decide +kernel)) ggX8_giveRange_X8_isUser
set_option maxRecDepth 20000 in
theorem ggX8_giveRange_X8_fail : GoodIn wsX8_giveRange wsX8_fail := goodIn_r _ [16, 2, 17, 18, 19, 20, 21, 22, 23, 24, 25, 26, 27, 28, 29, 30, 31, 32, 33, 34, 35, 36, 37, 38, 39, 40, 41, 42] (by decide +kernel) (by decide +kernel)
set_option maxRecDepth 20000 in
theorem gX8_giveRange_X8_fail : GoodIn wsX8_giveRange (wsV RX8 121 RX8 yX8_fail wsX8_fail) := goodIn_app (goodIn_of _ (by decide +kernel)) ggX8_giveRange_X8_fail
set_option maxRecDepth 20000 in
theorem ggX8_giveRange_X8_isIn : GoodIn wsX8_giveRange wsX8_isIn := goodIn_r _ [12] (by decide +kernel) (by decide +kernel)
set_option maxRecDepth 20000 in
theorem gX8_giveRange_X8_isIn : GoodIn wsX8_giveRange (va_wsS RX8 77 yX8_isIn wsX8_isIn) := goodIn_app (goodIn_of _ (by decide +kernel)) ggX8_giveRange_X8_isIn
theorem dX8_giveRange_0 : decode cX8_giveRange 0 = .ok (.iload_n 3, 1) := by decide +kernel
theorem dX8_giveRange_1 : decode cX8_giveRange 1 = .ok (.invokestatic 117, 3) := by decide +kernel
theorem dX8_giveRange_4 : decode cX8_giveRange 4 = .ok (.ifCond .ne 9, 3) := by decide +kernel
theorem dX8_giveRange_7 : decode cX8_giveRange 7 = .ok (.aload_n 0, 1) := by decide +kernel
theorem dX8_giveRange_8 : decode cX8_giveRange 8 = .ok (.iconst 1, 1) := by decide +kernel
theorem dX8_giveRange_9 : decode cX8_giveRange 9 = .ok (.invokevirtual 121, 3) := by decide +kernel
theorem dX8_giveRange_12 : decode cX8_giveRange 12 = .ok (.ireturn, 1) := by decide +kernel
theorem dX8_giveRange_13 : decode cX8_giveRange 13 = .ok (.iload_n 1, 1) := by decide +kernel
theorem dX8_giveRange_14 : decode cX8_giveRange 14 = .ok (.iconst 0, 1) := by decide +kernel
theorem dX8_giveRange_15 : decode cX8_giveRange 15 = .ok (.bipush 99, 2) := by decide +kernel
theorem dX8_giveRange_17 : decode cX8_giveRange 17 = .ok (.invokestatic 77, 3) := by decide +kernel
theorem dX8_giveRange_20 : decode cX8_giveRange 20 = .ok (.ifCond .eq 18, 3) := by decide +kernel
theorem dX8_giveRange_23 : decode cX8_giveRange 23 = .ok (.iload_n 2, 1) := by decide +kernel
theorem dX8_giveRange_24 : decode cX8_giveRange 24 = .ok (.iconst 0, 1) := by decide +kernel
theorem dX8_giveRange_25 : decode cX8_giveRange 25 = .ok (.bipush 99, 2) := by decide +kernel
theorem dX8_giveRange_27 : decode cX8_giveRange 27 = .ok (.invokestatic 77, 3) := by decide +kernel
theorem dX8_giveRange_30 : decode cX8_giveRange 30 = .ok (.ifCond .eq 8, 3) := by decide +kernel
theorem dX8_giveRange_33 : decode cX8_giveRange 33 = .ok (.iload_n 1, 1) := by decide +kernel
theorem dX8_giveRange_34 : decode cX8_giveRange 34 = .ok (.iload_n 2, 1) := by decide +kernel
theorem dX8_giveRange_35 : decode cX8_giveRange 35 = .ok (.if_icmp .le 9, 3) := by decide +kernel
theorem dX8_giveRange_38 : decode cX8_giveRange 38 = .ok (.aload_n 0, 1) := by decide +kernel
theorem dX8_giveRange_39 : decode cX8_giveRange 39 = .ok (.iconst 2, 1) := by decide +kernel
theorem dX8_giveRange_40 : decode cX8_giveRange 40 = .ok (.invokevirtual 121, 3) := by decide +kernel
theorem dX8_giveRange_43 : decode cX8_giveRange 43 = .ok (.ireturn, 1) := by decide +kernel
theorem dX8_giveRange_44 : decode cX8_giveRange 44 = .ok (.aload_n 0, 1) := by decide +kernel
theorem dX8_giveRange_45 : decode cX8_giveRange 45 = .ok (.getfield 88, 3) := by decide +kernel
theorem dX8_giveRange_48 : decode cX8_giveRange 48 = .ok (.bipush 6, 2) := by decide +kernel
theorem dX8_giveRange_50 : decode cX8_giveRange 50 = .ok (.if_icmp .ne 9, 3) := by decide +kernel
theorem dX8_giveRange_53 : decode cX8_giveRange 53 = .ok (.aload_n 0, 1) := by decide +kernel
theorem dX8_giveRange_54 : decode cX8_giveRange 54 = .ok (.iconst 3, 1) := by decide +kernel
theorem dX8_giveRange_55 : decode cX8_giveRange 55 = .ok (.invokevirtual 121, 3) := by decide +kernel
theorem dX8_giveRange_58 : decode cX8_giveRange 58 = .ok (.ireturn, 1) := by decide +kernel
theorem dX8_giveRange_59 : decode cX8_giveRange 59 = .ok (.aload_n 0, 1) := by decide +kernel
theorem dX8_giveRange_60 : decode cX8_giveRange 60 = .ok (.iconst 0, 1) := by decide +kernel
theorem dX8_giveRange_61 : decode cX8_giveRange 61 = .ok (.putfield 70, 3) := by decide +kernel
theorem dX8_giveRange_64 : decode cX8_giveRange 64 = .ok (.aload_n 0, 1) := by decide +kernel
theorem dX8_giveRange_65 : decode cX8_giveRange 65 = .ok (.getfield 16, 3) := by decide +kernel
theorem dX8_giveRange_68 : decode cX8_giveRange 68 = .ok (.aload_n 0, 1) := by decide +kernel
theorem dX8_giveRange_69 : decode cX8_giveRange 69 = .ok (.getfield 88, 3) := by decide +kernel
theorem dX8_giveRange_72 : decode cX8_giveRange 72 = .ok (.iload_n 1, 1) := by decide +kernel
theorem dX8_giveRange_73 : decode cX8_giveRange 73 = .ok (.iastore, 1) := by decide +kernel
theorem dX8_giveRange_74 : decode cX8_giveRange 74 = .ok (.aload_n 0, 1) := by decide +kernel
theorem dX8_giveRange_75 : decode cX8_giveRange 75 = .ok (.getfield 19, 3) := by decide +kernel
theorem dX8_giveRange_78 : decode cX8_giveRange 78 = .ok (.aload_n 0, 1) := by decide +kernel
theorem dX8_giveRange_79 : decode cX8_giveRange 79 = .ok (.getfield 88, 3) := by decide +kernel
theorem dX8_giveRange_82 : decode cX8_giveRange 82 = .ok (.iload_n 2, 1) := by decide +kernel
theorem dX8_giveRange_83 : decode cX8_giveRange 83 = .ok (.iastore, 1) := by decide +kernel
theorem dX8_giveRange_84 : decode cX8_giveRange 84 = .ok (.aload_n 0, 1) := by decide +kernel
theorem dX8_giveRange_85 : decode cX8_giveRange 85 = .ok (.getfield 22, 3) := by decide +kernel
theorem dX8_giveRange_88 : decode cX8_giveRange 88 = .ok (.aload_n 0, 1) := by decide +kernel
theorem dX8_giveRange_89 : decode cX8_giveRange 89 = .ok (.getfield 88, 3) := by decide +kernel
theorem dX8_giveRange_92 : decode cX8_giveRange 92 = .ok (.iload_n 3, 1) := by decide +kernel
theorem dX8_giveRange_93 : decode cX8_giveRange 93 = .ok (.iastore, 1) := by decide +kernel
theorem dX8_giveRange_94 : decode cX8_giveRange 94 = .ok (.aload_n 0, 1) := by decide +kernel
theorem dX8_giveRange_95 : decode cX8_giveRange 95 = .ok (.dup, 1) := by decide +kernel
theorem dX8_giveRange_96 : decode cX8_giveRange 96 = .ok (.getfield 88, 3) := by decide +kernel
theorem dX8_giveRange_99 : decode cX8_giveRange 99 = .ok (.iconst 1, 1) := by decide +kernel
theorem dX8_giveRange_100 : decode cX8_giveRange 100 = .ok (.iadd, 1) := by decide +kernel
theorem dX8_giveRange_101 : decode cX8_giveRange 101 = .ok (.putfield 88, 3) := by decide +kernel
theorem dX8_giveRange_104 : decode cX8_giveRange 104 = .ok (.aload_n 0, 1) := by decide +kernel
theorem dX8_giveRange_105 : decode cX8_giveRange 105 = .ok (.getfield 88, 3) := by decide +kernel
theorem dX8_giveRange_108 : decode cX8_giveRange 108 = .ok (.ireturn, 1) := by decide +kernel
set_option maxRecDepth 20000 in
theorem ggX8_open_X8_isUser : GoodIn wsX8_open wsX8_isUser := goodIn_r _ [7, 8, 9, 6, 10] (by decide +kernel) (by decide +kernel)
set_option maxRecDepth 20000 in
theorem gX8_open_X8_isUser : GoodIn wsX8_open (va_wsS RX8 117 yX8_isUser wsX8_isUser) := goodIn_app (goodIn_of _ (by decide +kernel)) ggX8_open_X8_isUser
set_option maxRecDepth 20000 in
theorem ggX8_open_X8_fail : GoodIn wsX8_open wsX8_fail := goodIn_r _ [14, 2, 25, 26, 27, 28, 29, 30, 31, 32, 33, 34, 35, 36, 37, 38, 39, 40, 41, 42, 43, 44, 45, 46, 47, 48, 49, 50] (by decide +kernel) (by decide +kernel)
set_option maxRecDepth 20000 in
theorem gX8_open_X8_fail : GoodIn wsX8_open (wsV RX8 121 RX8 yX8_fail wsX8_fail) := goodIn_app (goodIn_of _ (by decide +kernel)) ggX8_open_X8_fail
set_option maxRecDepth 20000 in
theorem ggX8_open_X8_copies : GoodIn wsX8_open wsX8_copies := goodIn_r _ [18, 19, 20, 21, 22, 23, 6, 24, 25, 26, 27, 28, 29, 30, 31, 32, 33, 34, 35, 36, 37, 38, 39, 40, 41, 42, 43, 44, 45, 46, 47, 48, 49, 50] (by decide +kernel) (by decide +kernel)
set_option maxRecDepth 20000 in
theorem gX8_open_X8_copies : GoodIn wsX8_open (wsV RX8 124 RX8 yX8_copies wsX8_copies) := goodIn_app (goodIn_of _ (by decide +kernel)) ggX8_open_X8_copies
theorem dX8_open_0 : decode cX8_open 0 = .ok (.iload_n 1, 1) := by decide +kernel
theorem dX8_open_1 : decode cX8_open 1 = .ok (.invokestatic 117, 3) := by decide +kernel
theorem dX8_open_4 : decode cX8_open 4 = .ok (.ifCond .ne 9, 3) := by decide +kernel
theorem dX8_open_7 : decode cX8_open 7 = .ok (.aload_n 0, 1) := by decide +kernel
theorem dX8_open_8 : decode cX8_open 8 = .ok (.iconst 1, 1) := by decide +kernel
theorem dX8_open_9 : decode cX8_open 9 = .ok (.invokevirtual 121, 3) := by decide +kernel
theorem dX8_open_12 : decode cX8_open 12 = .ok (.ireturn, 1) := by decide +kernel
theorem dX8_open_13 : decode cX8_open 13 = .ok (.aload_n 0, 1) := by decide +kernel
theorem dX8_open_14 : decode cX8_open 14 = .ok (.getfield 74, 3) := by decide +kernel
theorem dX8_open_17 : decode cX8_open 17 = .ok (.iconst 4, 1) := by decide +kernel
theorem dX8_open_18 : decode cX8_open 18 = .ok (.if_icmp .ne 9, 3) := by decide +kernel
theorem dX8_open_21 : decode cX8_open 21 = .ok (.aload_n 0, 1) := by decide +kernel
theorem dX8_open_22 : decode cX8_open 22 = .ok (.iconst 2, 1) := by decide +kernel
theorem dX8_open_23 : decode cX8_open 23 = .ok (.invokevirtual 121, 3) := by decide +kernel
theorem dX8_open_26 : decode cX8_open 26 = .ok (.ireturn, 1) := by decide +kernel
theorem dX8_open_27 : decode cX8_open 27 = .ok (.aload_n 0, 1) := by decide +kernel
theorem dX8_open_28 : decode cX8_open 28 = .ok (.iconst 0, 1) := by decide +kernel
theorem dX8_open_29 : decode cX8_open 29 = .ok (.putfield 70, 3) := by decide +kernel
theorem dX8_open_32 : decode cX8_open 32 = .ok (.aload_n 0, 1) := by decide +kernel
theorem dX8_open_33 : decode cX8_open 33 = .ok (.getfield 25, 3) := by decide +kernel
theorem dX8_open_36 : decode cX8_open 36 = .ok (.aload_n 0, 1) := by decide +kernel
theorem dX8_open_37 : decode cX8_open 37 = .ok (.getfield 74, 3) := by decide +kernel
theorem dX8_open_40 : decode cX8_open 40 = .ok (.iload_n 1, 1) := by decide +kernel
theorem dX8_open_41 : decode cX8_open 41 = .ok (.iastore, 1) := by decide +kernel
theorem dX8_open_42 : decode cX8_open 42 = .ok (.aload_n 0, 1) := by decide +kernel
theorem dX8_open_43 : decode cX8_open 43 = .ok (.iconst 0, 1) := by decide +kernel
theorem dX8_open_44 : decode cX8_open 44 = .ok (.iconst 1, 1) := by decide +kernel
theorem dX8_open_45 : decode cX8_open 45 = .ok (.aload_n 0, 1) := by decide +kernel
theorem dX8_open_46 : decode cX8_open 46 = .ok (.getfield 74, 3) := by decide +kernel
theorem dX8_open_49 : decode cX8_open 49 = .ok (.iadd, 1) := by decide +kernel
theorem dX8_open_50 : decode cX8_open 50 = .ok (.invokevirtual 124, 3) := by decide +kernel
theorem dX8_open_53 : decode cX8_open 53 = .ok (.aload_n 0, 1) := by decide +kernel
theorem dX8_open_54 : decode cX8_open 54 = .ok (.dup, 1) := by decide +kernel
theorem dX8_open_55 : decode cX8_open 55 = .ok (.getfield 74, 3) := by decide +kernel
theorem dX8_open_58 : decode cX8_open 58 = .ok (.iconst 1, 1) := by decide +kernel
theorem dX8_open_59 : decode cX8_open 59 = .ok (.iadd, 1) := by decide +kernel
theorem dX8_open_60 : decode cX8_open 60 = .ok (.putfield 74, 3) := by decide +kernel
theorem dX8_open_63 : decode cX8_open 63 = .ok (.aload_n 0, 1) := by decide +kernel
theorem dX8_open_64 : decode cX8_open 64 = .ok (.getfield 74, 3) := by decide +kernel
theorem dX8_open_67 : decode cX8_open 67 = .ok (.iconst 1, 1) := by decide +kernel
theorem dX8_open_68 : decode cX8_open 68 = .ok (.isub, 1) := by decide +kernel
theorem dX8_open_69 : decode cX8_open 69 = .ok (.ireturn, 1) := by decide +kernel
set_option maxRecDepth 20000 in
theorem ggX8_addLine_X8_isChange : GoodIn wsX8_addLine wsX8_isChange := goodIn_r _ [9, 10, 11, 12, 8, 13, 18, 19, 20, 21, 22, 23, 24, 25, 26, 27, 28, 29, 30, 31, 32, 33, 34, 35, 36, 37, 38, 39, 40, 41, 42, 43] (by decide +kernel) (by decide +kernel)
set_option maxRecDepth 20000 in
theorem gX8_addLine_X8_isChange : GoodIn wsX8_addLine (wsV RX8 128 RX8 yX8_isChange wsX8_isChange) := goodIn_app (goodIn_of _ (by decide +kernel)) ggX8_addLine_X8_isChange
set_option maxRecDepth 20000 in
theorem ggX8_addLine_X8_fail : GoodIn wsX8_addLine wsX8_fail := goodIn_r _ [17, 3, 18, 19, 20, 21, 22, 23, 24, 25, 26, 27, 28, 29, 30, 31, 32, 33, 34, 35, 36, 37, 38, 39, 40, 41, 42, 43] (by decide +kernel) (by decide +kernel)
set_option maxRecDepth 20000 in
theorem gX8_addLine_X8_fail : GoodIn wsX8_addLine (wsV RX8 121 RX8 yX8_fail wsX8_fail) := goodIn_app (goodIn_of _ (by decide +kernel)) ggX8_addLine_X8_fail
set_option maxRecDepth 20000 in
theorem ggX8_addLine_X8_isIn : GoodIn wsX8_addLine wsX8_isIn := goodIn_r _ [13] (by decide +kernel) (by decide +kernel)
set_option maxRecDepth 20000 in
theorem gX8_addLine_X8_isIn : GoodIn wsX8_addLine (va_wsS RX8 77 yX8_isIn wsX8_isIn) := goodIn_app (goodIn_of _ (by decide +kernel)) ggX8_addLine_X8_isIn
theorem dX8_addLine_0 : decode cX8_addLine 0 = .ok (.aload_n 0, 1) := by decide +kernel
theorem dX8_addLine_1 : decode cX8_addLine 1 = .ok (.iload_n 1, 1) := by decide +kernel
theorem dX8_addLine_2 : decode cX8_addLine 2 = .ok (.invokevirtual 128, 3) := by decide +kernel
theorem dX8_addLine_5 : decode cX8_addLine 5 = .ok (.ifCond .ne 9, 3) := by decide +kernel
theorem dX8_addLine_8 : decode cX8_addLine 8 = .ok (.aload_n 0, 1) := by decide +kernel
theorem dX8_addLine_9 : decode cX8_addLine 9 = .ok (.iconst 1, 1) := by decide +kernel
theorem dX8_addLine_10 : decode cX8_addLine 10 = .ok (.invokevirtual 121, 3) := by decide +kernel
theorem dX8_addLine_13 : decode cX8_addLine 13 = .ok (.ireturn, 1) := by decide +kernel
theorem dX8_addLine_14 : decode cX8_addLine 14 = .ok (.iload_n 2, 1) := by decide +kernel
theorem dX8_addLine_15 : decode cX8_addLine 15 = .ok (.iconst 0, 1) := by decide +kernel
theorem dX8_addLine_16 : decode cX8_addLine 16 = .ok (.bipush 99, 2) := by decide +kernel
theorem dX8_addLine_18 : decode cX8_addLine 18 = .ok (.invokestatic 77, 3) := by decide +kernel
theorem dX8_addLine_21 : decode cX8_addLine 21 = .ok (.ifCond .ne 9, 3) := by decide +kernel
theorem dX8_addLine_24 : decode cX8_addLine 24 = .ok (.aload_n 0, 1) := by decide +kernel
theorem dX8_addLine_25 : decode cX8_addLine 25 = .ok (.iconst 2, 1) := by decide +kernel
theorem dX8_addLine_26 : decode cX8_addLine 26 = .ok (.invokevirtual 121, 3) := by decide +kernel
theorem dX8_addLine_29 : decode cX8_addLine 29 = .ok (.ireturn, 1) := by decide +kernel
theorem dX8_addLine_30 : decode cX8_addLine 30 = .ok (.iconst 5, 1) := by decide +kernel
theorem dX8_addLine_31 : decode cX8_addLine 31 = .ok (.iload_n 1, 1) := by decide +kernel
theorem dX8_addLine_32 : decode cX8_addLine 32 = .ok (.iadd, 1) := by decide +kernel
theorem dX8_addLine_33 : decode cX8_addLine 33 = .ok (.istore_n 3, 1) := by decide +kernel
theorem dX8_addLine_34 : decode cX8_addLine 34 = .ok (.aload_n 0, 1) := by decide +kernel
theorem dX8_addLine_35 : decode cX8_addLine 35 = .ok (.getfield 37, 3) := by decide +kernel
theorem dX8_addLine_38 : decode cX8_addLine 38 = .ok (.iload_n 1, 1) := by decide +kernel
theorem dX8_addLine_39 : decode cX8_addLine 39 = .ok (.iaload, 1) := by decide +kernel
theorem dX8_addLine_40 : decode cX8_addLine 40 = .ok (.iconst 1, 1) := by decide +kernel
theorem dX8_addLine_41 : decode cX8_addLine 41 = .ok (.if_icmp .eq 14, 3) := by decide +kernel
theorem dX8_addLine_44 : decode cX8_addLine 44 = .ok (.aload_n 0, 1) := by decide +kernel
theorem dX8_addLine_45 : decode cX8_addLine 45 = .ok (.getfield 13, 3) := by decide +kernel
theorem dX8_addLine_48 : decode cX8_addLine 48 = .ok (.iload_n 3, 1) := by decide +kernel
theorem dX8_addLine_49 : decode cX8_addLine 49 = .ok (.iaload, 1) := by decide +kernel
theorem dX8_addLine_50 : decode cX8_addLine 50 = .ok (.bipush 12, 2) := by decide +kernel
theorem dX8_addLine_52 : decode cX8_addLine 52 = .ok (.if_icmp .ne 9, 3) := by decide +kernel
theorem dX8_addLine_55 : decode cX8_addLine 55 = .ok (.aload_n 0, 1) := by decide +kernel
theorem dX8_addLine_56 : decode cX8_addLine 56 = .ok (.iconst 3, 1) := by decide +kernel
theorem dX8_addLine_57 : decode cX8_addLine 57 = .ok (.invokevirtual 121, 3) := by decide +kernel
theorem dX8_addLine_60 : decode cX8_addLine 60 = .ok (.ireturn, 1) := by decide +kernel
theorem dX8_addLine_61 : decode cX8_addLine 61 = .ok (.aload_n 0, 1) := by decide +kernel
theorem dX8_addLine_62 : decode cX8_addLine 62 = .ok (.iconst 0, 1) := by decide +kernel
theorem dX8_addLine_63 : decode cX8_addLine 63 = .ok (.putfield 70, 3) := by decide +kernel
theorem dX8_addLine_66 : decode cX8_addLine 66 = .ok (.aload_n 0, 1) := by decide +kernel
theorem dX8_addLine_67 : decode cX8_addLine 67 = .ok (.getfield 7, 3) := by decide +kernel
theorem dX8_addLine_70 : decode cX8_addLine 70 = .ok (.bipush 12, 2) := by decide +kernel
theorem dX8_addLine_72 : decode cX8_addLine 72 = .ok (.iload_n 3, 1) := by decide +kernel
theorem dX8_addLine_73 : decode cX8_addLine 73 = .ok (.imul, 1) := by decide +kernel
theorem dX8_addLine_74 : decode cX8_addLine 74 = .ok (.aload_n 0, 1) := by decide +kernel
theorem dX8_addLine_75 : decode cX8_addLine 75 = .ok (.getfield 13, 3) := by decide +kernel
theorem dX8_addLine_78 : decode cX8_addLine 78 = .ok (.iload_n 3, 1) := by decide +kernel
theorem dX8_addLine_79 : decode cX8_addLine 79 = .ok (.iaload, 1) := by decide +kernel
theorem dX8_addLine_80 : decode cX8_addLine 80 = .ok (.iadd, 1) := by decide +kernel
theorem dX8_addLine_81 : decode cX8_addLine 81 = .ok (.iload_n 2, 1) := by decide +kernel
theorem dX8_addLine_82 : decode cX8_addLine 82 = .ok (.iastore, 1) := by decide +kernel
theorem dX8_addLine_83 : decode cX8_addLine 83 = .ok (.aload_n 0, 1) := by decide +kernel
theorem dX8_addLine_84 : decode cX8_addLine 84 = .ok (.getfield 13, 3) := by decide +kernel
theorem dX8_addLine_87 : decode cX8_addLine 87 = .ok (.iload_n 3, 1) := by decide +kernel
theorem dX8_addLine_88 : decode cX8_addLine 88 = .ok (.dup2, 1) := by decide +kernel
theorem dX8_addLine_89 : decode cX8_addLine 89 = .ok (.iaload, 1) := by decide +kernel
theorem dX8_addLine_90 : decode cX8_addLine 90 = .ok (.iconst 1, 1) := by decide +kernel
theorem dX8_addLine_91 : decode cX8_addLine 91 = .ok (.iadd, 1) := by decide +kernel
theorem dX8_addLine_92 : decode cX8_addLine 92 = .ok (.iastore, 1) := by decide +kernel
theorem dX8_addLine_93 : decode cX8_addLine 93 = .ok (.aload_n 0, 1) := by decide +kernel
theorem dX8_addLine_94 : decode cX8_addLine 94 = .ok (.getfield 13, 3) := by decide +kernel
theorem dX8_addLine_97 : decode cX8_addLine 97 = .ok (.iload_n 3, 1) := by decide +kernel
theorem dX8_addLine_98 : decode cX8_addLine 98 = .ok (.iaload, 1) := by decide +kernel
theorem dX8_addLine_99 : decode cX8_addLine 99 = .ok (.ireturn, 1) := by decide +kernel
set_option maxRecDepth 20000 in
theorem ggX8_lay_X8_isChange : GoodIn wsX8_lay wsX8_isChange := goodIn_r _ [9, 10, 11, 12, 8, 13, 30, 31, 32, 33, 34, 35, 36, 37, 38, 39, 40, 41, 42, 43, 44, 45, 46, 47, 48, 49, 50, 51, 52, 53, 54, 55] (by decide +kernel) (by decide +kernel)
set_option maxRecDepth 20000 in
theorem gX8_lay_X8_isChange : GoodIn wsX8_lay (wsV RX8 128 RX8 yX8_isChange wsX8_isChange) := goodIn_app (goodIn_of _ (by decide +kernel)) ggX8_lay_X8_isChange
set_option maxRecDepth 20000 in
theorem ggX8_lay_X8_fail : GoodIn wsX8_lay wsX8_fail := goodIn_r _ [17, 3, 30, 31, 32, 33, 34, 35, 36, 37, 38, 39, 40, 41, 42, 43, 44, 45, 46, 47, 48, 49, 50, 51, 52, 53, 54, 55] (by decide +kernel) (by decide +kernel)
set_option maxRecDepth 20000 in
theorem gX8_lay_X8_fail : GoodIn wsX8_lay (wsV RX8 121 RX8 yX8_fail wsX8_fail) := goodIn_app (goodIn_of _ (by decide +kernel)) ggX8_lay_X8_fail
set_option maxRecDepth 20000 in
theorem ggX8_lay_X8_slot : GoodIn wsX8_lay wsX8_slot := goodIn_r _ [20] (by decide +kernel) (by decide +kernel)
set_option maxRecDepth 20000 in
theorem gX8_lay_X8_slot : GoodIn wsX8_lay (va_wsS RX8 81 yX8_slot wsX8_slot) := goodIn_app (goodIn_of _ (by decide +kernel)) ggX8_lay_X8_slot
set_option maxRecDepth 20000 in
theorem ggX8_lay_X8_copies : GoodIn wsX8_lay wsX8_copies := goodIn_r _ [24, 4, 25, 26, 27, 28, 8, 29, 30, 31, 32, 33, 34, 35, 36, 37, 38, 39, 40, 41, 42, 43, 44, 45, 46, 47, 48, 49, 50, 51, 52, 53, 54, 55] (by decide +kernel) (by decide +kernel)
set_option maxRecDepth 20000 in
theorem gX8_lay_X8_copies : GoodIn wsX8_lay (wsV RX8 124 RX8 yX8_copies wsX8_copies) := goodIn_app (goodIn_of _ (by decide +kernel)) ggX8_lay_X8_copies
theorem dX8_lay_0 : decode cX8_lay 0 = .ok (.aload_n 0, 1) := by decide +kernel
theorem dX8_lay_1 : decode cX8_lay 1 = .ok (.iload_n 1, 1) := by decide +kernel
theorem dX8_lay_2 : decode cX8_lay 2 = .ok (.invokevirtual 128, 3) := by decide +kernel
theorem dX8_lay_5 : decode cX8_lay 5 = .ok (.ifCond .ne 9, 3) := by decide +kernel
theorem dX8_lay_8 : decode cX8_lay 8 = .ok (.aload_n 0, 1) := by decide +kernel
theorem dX8_lay_9 : decode cX8_lay 9 = .ok (.iconst 1, 1) := by decide +kernel
theorem dX8_lay_10 : decode cX8_lay 10 = .ok (.invokevirtual 121, 3) := by decide +kernel
theorem dX8_lay_13 : decode cX8_lay 13 = .ok (.ireturn, 1) := by decide +kernel
theorem dX8_lay_14 : decode cX8_lay 14 = .ok (.aload_n 0, 1) := by decide +kernel
theorem dX8_lay_15 : decode cX8_lay 15 = .ok (.getfield 37, 3) := by decide +kernel
theorem dX8_lay_18 : decode cX8_lay 18 = .ok (.iload_n 1, 1) := by decide +kernel
theorem dX8_lay_19 : decode cX8_lay 19 = .ok (.iaload, 1) := by decide +kernel
theorem dX8_lay_20 : decode cX8_lay 20 = .ok (.iconst 1, 1) := by decide +kernel
theorem dX8_lay_21 : decode cX8_lay 21 = .ok (.if_icmp .eq 13, 3) := by decide +kernel
theorem dX8_lay_24 : decode cX8_lay 24 = .ok (.aload_n 0, 1) := by decide +kernel
theorem dX8_lay_25 : decode cX8_lay 25 = .ok (.getfield 28, 3) := by decide +kernel
theorem dX8_lay_28 : decode cX8_lay 28 = .ok (.iload_n 1, 1) := by decide +kernel
theorem dX8_lay_29 : decode cX8_lay 29 = .ok (.iaload, 1) := by decide +kernel
theorem dX8_lay_30 : decode cX8_lay 30 = .ok (.iconst 4, 1) := by decide +kernel
theorem dX8_lay_31 : decode cX8_lay 31 = .ok (.if_icmp .ne 9, 3) := by decide +kernel
theorem dX8_lay_34 : decode cX8_lay 34 = .ok (.aload_n 0, 1) := by decide +kernel
theorem dX8_lay_35 : decode cX8_lay 35 = .ok (.iconst 2, 1) := by decide +kernel
theorem dX8_lay_36 : decode cX8_lay 36 = .ok (.invokevirtual 121, 3) := by decide +kernel
theorem dX8_lay_39 : decode cX8_lay 39 = .ok (.ireturn, 1) := by decide +kernel
theorem dX8_lay_40 : decode cX8_lay 40 = .ok (.aload_n 0, 1) := by decide +kernel
theorem dX8_lay_41 : decode cX8_lay 41 = .ok (.iconst 0, 1) := by decide +kernel
theorem dX8_lay_42 : decode cX8_lay 42 = .ok (.putfield 70, 3) := by decide +kernel
theorem dX8_lay_45 : decode cX8_lay 45 = .ok (.aload_n 0, 1) := by decide +kernel
theorem dX8_lay_46 : decode cX8_lay 46 = .ok (.iconst 5, 1) := by decide +kernel
theorem dX8_lay_47 : decode cX8_lay 47 = .ok (.iload_n 1, 1) := by decide +kernel
theorem dX8_lay_48 : decode cX8_lay 48 = .ok (.iadd, 1) := by decide +kernel
theorem dX8_lay_49 : decode cX8_lay 49 = .ok (.iload_n 1, 1) := by decide +kernel
theorem dX8_lay_50 : decode cX8_lay 50 = .ok (.aload_n 0, 1) := by decide +kernel
theorem dX8_lay_51 : decode cX8_lay 51 = .ok (.getfield 28, 3) := by decide +kernel
theorem dX8_lay_54 : decode cX8_lay 54 = .ok (.iload_n 1, 1) := by decide +kernel
theorem dX8_lay_55 : decode cX8_lay 55 = .ok (.iaload, 1) := by decide +kernel
theorem dX8_lay_56 : decode cX8_lay 56 = .ok (.invokestatic 81, 3) := by decide +kernel
theorem dX8_lay_59 : decode cX8_lay 59 = .ok (.invokevirtual 124, 3) := by decide +kernel
theorem dX8_lay_62 : decode cX8_lay 62 = .ok (.aload_n 0, 1) := by decide +kernel
theorem dX8_lay_63 : decode cX8_lay 63 = .ok (.getfield 13, 3) := by decide +kernel
theorem dX8_lay_66 : decode cX8_lay 66 = .ok (.iconst 5, 1) := by decide +kernel
theorem dX8_lay_67 : decode cX8_lay 67 = .ok (.iload_n 1, 1) := by decide +kernel
theorem dX8_lay_68 : decode cX8_lay 68 = .ok (.iadd, 1) := by decide +kernel
theorem dX8_lay_69 : decode cX8_lay 69 = .ok (.iconst 0, 1) := by decide +kernel
theorem dX8_lay_70 : decode cX8_lay 70 = .ok (.iastore, 1) := by decide +kernel
theorem dX8_lay_71 : decode cX8_lay 71 = .ok (.aload_n 0, 1) := by decide +kernel
theorem dX8_lay_72 : decode cX8_lay 72 = .ok (.getfield 28, 3) := by decide +kernel
theorem dX8_lay_75 : decode cX8_lay 75 = .ok (.iload_n 1, 1) := by decide +kernel
theorem dX8_lay_76 : decode cX8_lay 76 = .ok (.dup2, 1) := by decide +kernel
theorem dX8_lay_77 : decode cX8_lay 77 = .ok (.iaload, 1) := by decide +kernel
theorem dX8_lay_78 : decode cX8_lay 78 = .ok (.iconst 1, 1) := by decide +kernel
theorem dX8_lay_79 : decode cX8_lay 79 = .ok (.iadd, 1) := by decide +kernel
theorem dX8_lay_80 : decode cX8_lay 80 = .ok (.iastore, 1) := by decide +kernel
theorem dX8_lay_81 : decode cX8_lay 81 = .ok (.aload_n 0, 1) := by decide +kernel
theorem dX8_lay_82 : decode cX8_lay 82 = .ok (.getfield 28, 3) := by decide +kernel
theorem dX8_lay_85 : decode cX8_lay 85 = .ok (.iload_n 1, 1) := by decide +kernel
theorem dX8_lay_86 : decode cX8_lay 86 = .ok (.iaload, 1) := by decide +kernel
theorem dX8_lay_87 : decode cX8_lay 87 = .ok (.iconst 1, 1) := by decide +kernel
theorem dX8_lay_88 : decode cX8_lay 88 = .ok (.isub, 1) := by decide +kernel
theorem dX8_lay_89 : decode cX8_lay 89 = .ok (.ireturn, 1) := by decide +kernel
theorem dX8_allAfter_0 : decode cX8_allAfter 0 = .ok (.aload_n 0, 1) := by decide +kernel
theorem dX8_allAfter_1 : decode cX8_allAfter 1 = .ok (.getfield 31, 3) := by decide +kernel
theorem dX8_allAfter_4 : decode cX8_allAfter 4 = .ok (.iload_n 1, 1) := by decide +kernel
theorem dX8_allAfter_5 : decode cX8_allAfter 5 = .ok (.iaload, 1) := by decide +kernel
theorem dX8_allAfter_6 : decode cX8_allAfter 6 = .ok (.istore_n 2, 1) := by decide +kernel
theorem dX8_allAfter_7 : decode cX8_allAfter 7 = .ok (.iconst 0, 1) := by decide +kernel
theorem dX8_allAfter_8 : decode cX8_allAfter 8 = .ok (.istore_n 3, 1) := by decide +kernel
theorem dX8_allAfter_9 : decode cX8_allAfter 9 = .ok (.iload_n 3, 1) := by decide +kernel
theorem dX8_allAfter_10 : decode cX8_allAfter 10 = .ok (.iconst 4, 1) := by decide +kernel
theorem dX8_allAfter_11 : decode cX8_allAfter 11 = .ok (.if_icmp .ge 47, 3) := by decide +kernel
theorem dX8_allAfter_14 : decode cX8_allAfter 14 = .ok (.iconst 0, 1) := by decide +kernel
theorem dX8_allAfter_15 : decode cX8_allAfter 15 = .ok (.istore 4, 2) := by decide +kernel
theorem dX8_allAfter_17 : decode cX8_allAfter 17 = .ok (.iload 4, 2) := by decide +kernel
theorem dX8_allAfter_19 : decode cX8_allAfter 19 = .ok (.aload_n 0, 1) := by decide +kernel
theorem dX8_allAfter_20 : decode cX8_allAfter 20 = .ok (.getfield 74, 3) := by decide +kernel
theorem dX8_allAfter_23 : decode cX8_allAfter 23 = .ok (.if_icmp .ge 29, 3) := by decide +kernel
theorem dX8_allAfter_26 : decode cX8_allAfter 26 = .ok (.iload_n 2, 1) := by decide +kernel
theorem dX8_allAfter_27 : decode cX8_allAfter 27 = .ok (.iload 4, 2) := by decide +kernel
theorem dX8_allAfter_29 : decode cX8_allAfter 29 = .ok (.ishr, 1) := by decide +kernel
theorem dX8_allAfter_30 : decode cX8_allAfter 30 = .ok (.iconst 1, 1) := by decide +kernel
theorem dX8_allAfter_31 : decode cX8_allAfter 31 = .ok (.iand, 1) := by decide +kernel
theorem dX8_allAfter_32 : decode cX8_allAfter 32 = .ok (.iconst 1, 1) := by decide +kernel
theorem dX8_allAfter_33 : decode cX8_allAfter 33 = .ok (.if_icmp .ne 13, 3) := by decide +kernel
theorem dX8_allAfter_36 : decode cX8_allAfter 36 = .ok (.iload_n 2, 1) := by decide +kernel
theorem dX8_allAfter_37 : decode cX8_allAfter 37 = .ok (.aload_n 0, 1) := by decide +kernel
theorem dX8_allAfter_38 : decode cX8_allAfter 38 = .ok (.getfield 31, 3) := by decide +kernel
theorem dX8_allAfter_41 : decode cX8_allAfter 41 = .ok (.iload 4, 2) := by decide +kernel
theorem dX8_allAfter_43 : decode cX8_allAfter 43 = .ok (.iaload, 1) := by decide +kernel
theorem dX8_allAfter_44 : decode cX8_allAfter 44 = .ok (.ior, 1) := by decide +kernel
theorem dX8_allAfter_45 : decode cX8_allAfter 45 = .ok (.istore_n 2, 1) := by decide +kernel
theorem dX8_allAfter_46 : decode cX8_allAfter 46 = .ok (.iinc 4 1, 3) := by decide +kernel
theorem dX8_allAfter_49 : decode cX8_allAfter 49 = .ok (.goto (-32), 3) := by decide +kernel
theorem dX8_allAfter_52 : decode cX8_allAfter 52 = .ok (.iinc 3 1, 3) := by decide +kernel
theorem dX8_allAfter_55 : decode cX8_allAfter 55 = .ok (.goto (-46), 3) := by decide +kernel
theorem dX8_allAfter_58 : decode cX8_allAfter 58 = .ok (.iload_n 2, 1) := by decide +kernel
theorem dX8_allAfter_59 : decode cX8_allAfter 59 = .ok (.ireturn, 1) := by decide +kernel
set_option maxRecDepth 20000 in
theorem ggX8_landAfter_X8_isChange : GoodIn wsX8_landAfter wsX8_isChange := goodIn_r _ [8, 9, 10, 11, 7, 12, 21, 22, 23, 24, 25, 26, 27, 28, 29, 30, 31, 32, 33, 34, 35, 36, 37, 38, 39, 40, 41, 42, 43, 44, 45, 46] (by decide +kernel) (by decide +kernel)
set_option maxRecDepth 20000 in
theorem gX8_landAfter_X8_isChange : GoodIn wsX8_landAfter (wsV RX8 128 RX8 yX8_isChange wsX8_isChange) := goodIn_app (goodIn_of _ (by decide +kernel)) ggX8_landAfter_X8_isChange
set_option maxRecDepth 20000 in
theorem ggX8_landAfter_X8_fail : GoodIn wsX8_landAfter wsX8_fail := goodIn_r _ [16, 2, 21, 22, 23, 24, 25, 26, 27, 28, 29, 30, 31, 32, 33, 34, 35, 36, 37, 38, 39, 40, 41, 42, 43, 44, 45, 46] (by decide +kernel) (by decide +kernel)
set_option maxRecDepth 20000 in
theorem gX8_landAfter_X8_fail : GoodIn wsX8_landAfter (wsV RX8 121 RX8 yX8_fail wsX8_fail) := goodIn_app (goodIn_of _ (by decide +kernel)) ggX8_landAfter_X8_fail
set_option maxRecDepth 20000 in
theorem ggX8_landAfter_X8_allAfter : GoodIn wsX8_landAfter wsX8_allAfter := goodIn_r _ [20, 3, 9, 21, 22, 23, 24, 25, 26, 27, 28, 29, 30, 31, 32, 33, 34, 35, 36, 37, 38, 39, 40, 41, 42, 43, 44, 45, 46] (by decide +kernel) (by decide +kernel)
set_option maxRecDepth 20000 in
theorem gX8_landAfter_X8_allAfter : GoodIn wsX8_landAfter (wsV RX8 131 RX8 yX8_allAfter wsX8_allAfter) := goodIn_app (goodIn_of _ (by decide +kernel)) ggX8_landAfter_X8_allAfter
theorem dX8_landAfter_0 : decode cX8_landAfter 0 = .ok (.aload_n 0, 1) := by decide +kernel
theorem dX8_landAfter_1 : decode cX8_landAfter 1 = .ok (.iload_n 1, 1) := by decide +kernel
theorem dX8_landAfter_2 : decode cX8_landAfter 2 = .ok (.invokevirtual 128, 3) := by decide +kernel
theorem dX8_landAfter_5 : decode cX8_landAfter 5 = .ok (.ifCond .eq 11, 3) := by decide +kernel
theorem dX8_landAfter_8 : decode cX8_landAfter 8 = .ok (.aload_n 0, 1) := by decide +kernel
theorem dX8_landAfter_9 : decode cX8_landAfter 9 = .ok (.iload_n 2, 1) := by decide +kernel
theorem dX8_landAfter_10 : decode cX8_landAfter 10 = .ok (.invokevirtual 128, 3) := by decide +kernel
theorem dX8_landAfter_13 : decode cX8_landAfter 13 = .ok (.ifCond .ne 9, 3) := by decide +kernel
theorem dX8_landAfter_16 : decode cX8_landAfter 16 = .ok (.aload_n 0, 1) := by decide +kernel
theorem dX8_landAfter_17 : decode cX8_landAfter 17 = .ok (.iconst 1, 1) := by decide +kernel
theorem dX8_landAfter_18 : decode cX8_landAfter 18 = .ok (.invokevirtual 121, 3) := by decide +kernel
theorem dX8_landAfter_21 : decode cX8_landAfter 21 = .ok (.ireturn, 1) := by decide +kernel
theorem dX8_landAfter_22 : decode cX8_landAfter 22 = .ok (.aload_n 0, 1) := by decide +kernel
theorem dX8_landAfter_23 : decode cX8_landAfter 23 = .ok (.getfield 37, 3) := by decide +kernel
theorem dX8_landAfter_26 : decode cX8_landAfter 26 = .ok (.iload_n 1, 1) := by decide +kernel
theorem dX8_landAfter_27 : decode cX8_landAfter 27 = .ok (.iaload, 1) := by decide +kernel
theorem dX8_landAfter_28 : decode cX8_landAfter 28 = .ok (.iconst 1, 1) := by decide +kernel
theorem dX8_landAfter_29 : decode cX8_landAfter 29 = .ok (.if_icmp .ne 9, 3) := by decide +kernel
theorem dX8_landAfter_32 : decode cX8_landAfter 32 = .ok (.aload_n 0, 1) := by decide +kernel
theorem dX8_landAfter_33 : decode cX8_landAfter 33 = .ok (.iconst 2, 1) := by decide +kernel
theorem dX8_landAfter_34 : decode cX8_landAfter 34 = .ok (.invokevirtual 121, 3) := by decide +kernel
theorem dX8_landAfter_37 : decode cX8_landAfter 37 = .ok (.ireturn, 1) := by decide +kernel
theorem dX8_landAfter_38 : decode cX8_landAfter 38 = .ok (.iload_n 1, 1) := by decide +kernel
theorem dX8_landAfter_39 : decode cX8_landAfter 39 = .ok (.iload_n 2, 1) := by decide +kernel
theorem dX8_landAfter_40 : decode cX8_landAfter 40 = .ok (.if_icmp .eq 16, 3) := by decide +kernel
theorem dX8_landAfter_43 : decode cX8_landAfter 43 = .ok (.aload_n 0, 1) := by decide +kernel
theorem dX8_landAfter_44 : decode cX8_landAfter 44 = .ok (.iload_n 2, 1) := by decide +kernel
theorem dX8_landAfter_45 : decode cX8_landAfter 45 = .ok (.invokevirtual 131, 3) := by decide +kernel
theorem dX8_landAfter_48 : decode cX8_landAfter 48 = .ok (.iload_n 1, 1) := by decide +kernel
theorem dX8_landAfter_49 : decode cX8_landAfter 49 = .ok (.ishr, 1) := by decide +kernel
theorem dX8_landAfter_50 : decode cX8_landAfter 50 = .ok (.iconst 1, 1) := by decide +kernel
theorem dX8_landAfter_51 : decode cX8_landAfter 51 = .ok (.iand, 1) := by decide +kernel
theorem dX8_landAfter_52 : decode cX8_landAfter 52 = .ok (.iconst 1, 1) := by decide +kernel
theorem dX8_landAfter_53 : decode cX8_landAfter 53 = .ok (.if_icmp .ne 9, 3) := by decide +kernel
theorem dX8_landAfter_56 : decode cX8_landAfter 56 = .ok (.aload_n 0, 1) := by decide +kernel
theorem dX8_landAfter_57 : decode cX8_landAfter 57 = .ok (.iconst 3, 1) := by decide +kernel
theorem dX8_landAfter_58 : decode cX8_landAfter 58 = .ok (.invokevirtual 121, 3) := by decide +kernel
theorem dX8_landAfter_61 : decode cX8_landAfter 61 = .ok (.ireturn, 1) := by decide +kernel
theorem dX8_landAfter_62 : decode cX8_landAfter 62 = .ok (.aload_n 0, 1) := by decide +kernel
theorem dX8_landAfter_63 : decode cX8_landAfter 63 = .ok (.iconst 0, 1) := by decide +kernel
theorem dX8_landAfter_64 : decode cX8_landAfter 64 = .ok (.putfield 70, 3) := by decide +kernel
theorem dX8_landAfter_67 : decode cX8_landAfter 67 = .ok (.aload_n 0, 1) := by decide +kernel
theorem dX8_landAfter_68 : decode cX8_landAfter 68 = .ok (.getfield 31, 3) := by decide +kernel
theorem dX8_landAfter_71 : decode cX8_landAfter 71 = .ok (.iload_n 1, 1) := by decide +kernel
theorem dX8_landAfter_72 : decode cX8_landAfter 72 = .ok (.dup2, 1) := by decide +kernel
theorem dX8_landAfter_73 : decode cX8_landAfter 73 = .ok (.iaload, 1) := by decide +kernel
theorem dX8_landAfter_74 : decode cX8_landAfter 74 = .ok (.iconst 1, 1) := by decide +kernel
theorem dX8_landAfter_75 : decode cX8_landAfter 75 = .ok (.iload_n 2, 1) := by decide +kernel
theorem dX8_landAfter_76 : decode cX8_landAfter 76 = .ok (.ishl, 1) := by decide +kernel
theorem dX8_landAfter_77 : decode cX8_landAfter 77 = .ok (.ior, 1) := by decide +kernel
theorem dX8_landAfter_78 : decode cX8_landAfter 78 = .ok (.iastore, 1) := by decide +kernel
theorem dX8_landAfter_79 : decode cX8_landAfter 79 = .ok (.iconst 0, 1) := by decide +kernel
theorem dX8_landAfter_80 : decode cX8_landAfter 80 = .ok (.istore_n 3, 1) := by decide +kernel
theorem dX8_landAfter_81 : decode cX8_landAfter 81 = .ok (.iconst 0, 1) := by decide +kernel
theorem dX8_landAfter_82 : decode cX8_landAfter 82 = .ok (.istore 4, 2) := by decide +kernel
theorem dX8_landAfter_84 : decode cX8_landAfter 84 = .ok (.iload 4, 2) := by decide +kernel
theorem dX8_landAfter_86 : decode cX8_landAfter 86 = .ok (.iconst 4, 1) := by decide +kernel
theorem dX8_landAfter_87 : decode cX8_landAfter 87 = .ok (.if_icmp .ge 23, 3) := by decide +kernel
theorem dX8_landAfter_90 : decode cX8_landAfter 90 = .ok (.iload_n 3, 1) := by decide +kernel
theorem dX8_landAfter_91 : decode cX8_landAfter 91 = .ok (.aload_n 0, 1) := by decide +kernel
theorem dX8_landAfter_92 : decode cX8_landAfter 92 = .ok (.getfield 31, 3) := by decide +kernel
theorem dX8_landAfter_95 : decode cX8_landAfter 95 = .ok (.iload_n 1, 1) := by decide +kernel
theorem dX8_landAfter_96 : decode cX8_landAfter 96 = .ok (.iaload, 1) := by decide +kernel
theorem dX8_landAfter_97 : decode cX8_landAfter 97 = .ok (.iload 4, 2) := by decide +kernel
theorem dX8_landAfter_99 : decode cX8_landAfter 99 = .ok (.ishr, 1) := by decide +kernel
theorem dX8_landAfter_100 : decode cX8_landAfter 100 = .ok (.iconst 1, 1) := by decide +kernel
theorem dX8_landAfter_101 : decode cX8_landAfter 101 = .ok (.iand, 1) := by decide +kernel
theorem dX8_landAfter_102 : decode cX8_landAfter 102 = .ok (.iadd, 1) := by decide +kernel
theorem dX8_landAfter_103 : decode cX8_landAfter 103 = .ok (.istore_n 3, 1) := by decide +kernel
theorem dX8_landAfter_104 : decode cX8_landAfter 104 = .ok (.iinc 4 1, 3) := by decide +kernel
theorem dX8_landAfter_107 : decode cX8_landAfter 107 = .ok (.goto (-23), 3) := by decide +kernel
theorem dX8_landAfter_110 : decode cX8_landAfter 110 = .ok (.iload_n 3, 1) := by decide +kernel
theorem dX8_landAfter_111 : decode cX8_landAfter 111 = .ok (.ireturn, 1) := by decide +kernel
set_option maxRecDepth 20000 in
theorem ggX8_setPriority_X8_isChange : GoodIn wsX8_setPriority wsX8_isChange := goodIn_r _ [7, 8, 9, 10, 6, 11, 16, 17, 18, 19, 20, 21, 22, 23, 24, 25, 26, 27, 28, 29, 30, 31, 32, 33, 34, 35, 36, 37, 38, 39, 40, 41] (by decide +kernel) (by decide +kernel)
set_option maxRecDepth 20000 in
theorem gX8_setPriority_X8_isChange : GoodIn wsX8_setPriority (wsV RX8 128 RX8 yX8_isChange wsX8_isChange) := goodIn_app (goodIn_of _ (by decide +kernel)) ggX8_setPriority_X8_isChange
set_option maxRecDepth 20000 in
theorem ggX8_setPriority_X8_fail : GoodIn wsX8_setPriority wsX8_fail := goodIn_r _ [15, 1, 16, 17, 18, 19, 20, 21, 22, 23, 24, 25, 26, 27, 28, 29, 30, 31, 32, 33, 34, 35, 36, 37, 38, 39, 40, 41] (by decide +kernel) (by decide +kernel)
set_option maxRecDepth 20000 in
theorem gX8_setPriority_X8_fail : GoodIn wsX8_setPriority (wsV RX8 121 RX8 yX8_fail wsX8_fail) := goodIn_app (goodIn_of _ (by decide +kernel)) ggX8_setPriority_X8_fail
set_option maxRecDepth 20000 in
theorem ggX8_setPriority_X8_isIn : GoodIn wsX8_setPriority wsX8_isIn := goodIn_r _ [11] (by decide +kernel) (by decide +kernel)
set_option maxRecDepth 20000 in
theorem gX8_setPriority_X8_isIn : GoodIn wsX8_setPriority (va_wsS RX8 77 yX8_isIn wsX8_isIn) := goodIn_app (goodIn_of _ (by decide +kernel)) ggX8_setPriority_X8_isIn
theorem dX8_setPriority_0 : decode cX8_setPriority 0 = .ok (.aload_n 0, 1) := by decide +kernel
theorem dX8_setPriority_1 : decode cX8_setPriority 1 = .ok (.iload_n 1, 1) := by decide +kernel
theorem dX8_setPriority_2 : decode cX8_setPriority 2 = .ok (.invokevirtual 128, 3) := by decide +kernel
theorem dX8_setPriority_5 : decode cX8_setPriority 5 = .ok (.ifCond .ne 9, 3) := by decide +kernel
theorem dX8_setPriority_8 : decode cX8_setPriority 8 = .ok (.aload_n 0, 1) := by decide +kernel
theorem dX8_setPriority_9 : decode cX8_setPriority 9 = .ok (.iconst 1, 1) := by decide +kernel
theorem dX8_setPriority_10 : decode cX8_setPriority 10 = .ok (.invokevirtual 121, 3) := by decide +kernel
theorem dX8_setPriority_13 : decode cX8_setPriority 13 = .ok (.ireturn, 1) := by decide +kernel
theorem dX8_setPriority_14 : decode cX8_setPriority 14 = .ok (.iload_n 2, 1) := by decide +kernel
theorem dX8_setPriority_15 : decode cX8_setPriority 15 = .ok (.iconst 0, 1) := by decide +kernel
theorem dX8_setPriority_16 : decode cX8_setPriority 16 = .ok (.bipush 9, 2) := by decide +kernel
theorem dX8_setPriority_18 : decode cX8_setPriority 18 = .ok (.invokestatic 77, 3) := by decide +kernel
theorem dX8_setPriority_21 : decode cX8_setPriority 21 = .ok (.ifCond .ne 9, 3) := by decide +kernel
theorem dX8_setPriority_24 : decode cX8_setPriority 24 = .ok (.aload_n 0, 1) := by decide +kernel
theorem dX8_setPriority_25 : decode cX8_setPriority 25 = .ok (.iconst 2, 1) := by decide +kernel
theorem dX8_setPriority_26 : decode cX8_setPriority 26 = .ok (.invokevirtual 121, 3) := by decide +kernel
theorem dX8_setPriority_29 : decode cX8_setPriority 29 = .ok (.ireturn, 1) := by decide +kernel
theorem dX8_setPriority_30 : decode cX8_setPriority 30 = .ok (.aload_n 0, 1) := by decide +kernel
theorem dX8_setPriority_31 : decode cX8_setPriority 31 = .ok (.iconst 0, 1) := by decide +kernel
theorem dX8_setPriority_32 : decode cX8_setPriority 32 = .ok (.putfield 70, 3) := by decide +kernel
theorem dX8_setPriority_35 : decode cX8_setPriority 35 = .ok (.aload_n 0, 1) := by decide +kernel
theorem dX8_setPriority_36 : decode cX8_setPriority 36 = .ok (.getfield 34, 3) := by decide +kernel
theorem dX8_setPriority_39 : decode cX8_setPriority 39 = .ok (.iload_n 1, 1) := by decide +kernel
