theorem wsL_law_x0 : ∀ w ∈ (vx_atS RX6 44 "java/lang/IllegalArgumentException" ["java/lang/RuntimeException", "java/lang/Exception"]).filter goodWord, w ∈ lw_tbl := by decide +kernel
theorem wsL_law_x1 : ∀ w ∈ (vx_atS RX6 55 "java/lang/IllegalStateException" ["java/lang/RuntimeException", "java/lang/Exception"]).filter goodWord, w ∈ lw_tbl := by decide +kernel
theorem wsL_law_x2 : ∀ w ∈ (vx_atS RX6 161 "java/lang/IndexOutOfBoundsException" ["java/lang/RuntimeException", "java/lang/Exception"]).filter goodWord, w ∈ lw_tbl := by decide +kernel
theorem wsL_law_in : ∀ w ∈ wsL_law, w ∈ lw_tbl := fun w h => (List.mem_append.mp h).elim (fun h => (List.mem_append.mp h).elim (fun h => (List.mem_append.mp h).elim (fun h => wsL_law_in0 w h) (fun h => wsL_law_x0 w h)) (fun h => wsL_law_x1 w h)) (fun h => wsL_law_x2 w h)
theorem inlX0 : ∀ w ∈ wsX00, w ∈ wsL_law := fun _ h => List.mem_append_left _ (List.mem_append_left _ (List.mem_append_left _ (List.mem_append_left _ (List.mem_append_left _ (List.mem_append_right _ h)))))
theorem inX0 : ∀ w ∈ wsX00, w ∈ lw_tbl := fun w h => wsL_law_in w (inlX0 w h)
theorem inlX1 : ∀ w ∈ wsX10, w ∈ wsL_law := fun _ h => List.mem_append_left _ (List.mem_append_left _ (List.mem_append_left _ (List.mem_append_left _ (List.mem_append_right _ h))))
theorem inX1 : ∀ w ∈ wsX10, w ∈ lw_tbl := fun w h => wsL_law_in w (inlX1 w h)
theorem inX2 : ∀ w ∈ wsX20, w ∈ lw_tbl := by decide +kernel
theorem inX3 : ∀ w ∈ wsX30, w ∈ lw_tbl := by decide +kernel
theorem inlX4 : ∀ w ∈ wsX40, w ∈ wsL_law := fun _ h => List.mem_append_left _ (List.mem_append_left _ (List.mem_append_left _ (List.mem_append_left _ (List.mem_append_left _ (List.mem_append_left _ (List.mem_append_right _ h))))))
theorem inX4 : ∀ w ∈ wsX40, w ∈ lw_tbl := fun w h => wsL_law_in w (inlX4 w h)
theorem inlX5 : ∀ w ∈ wsX50, w ∈ wsL_law := fun _ h => List.mem_append_left _ (List.mem_append_left _ (List.mem_append_left _ (List.mem_append_left _ (List.mem_append_left _ (List.mem_append_left _ (List.mem_append_left _ (List.mem_append_right _ h)))))))
theorem inX5 : ∀ w ∈ wsX50, w ∈ lw_tbl := fun w h => wsL_law_in w (inlX5 w h)
theorem inlX6 : ∀ w ∈ wsX60, w ∈ wsL_law := fun _ h => List.mem_append_left _ (List.mem_append_left _ (List.mem_append_left _ (List.mem_append_left _ (List.mem_append_left _ (List.mem_append_left _ (List.mem_append_left _ (List.mem_append_left _ (List.mem_append_right _ h))))))))
theorem inX6 : ∀ w ∈ wsX60, w ∈ lw_tbl := fun w h => wsL_law_in w (inlX6 w h)
theorem inX7 : ∀ w ∈ wsX70, w ∈ lw_tbl := by decide +kernel
theorem inJx145de : ∀ w ∈ wsJx145de0, w ∈ lw_tbl := by decide +kernel
theorem inJ0 : ∀ w ∈ wsJ00, w ∈ lw_tbl := by decide +kernel
theorem inJ10 : ∀ w ∈ wsJ100, w ∈ lw_tbl := by decide +kernel
theorem inJ7 : ∀ w ∈ wsJ70, w ∈ lw_tbl := by decide +kernel
set_option maxRecDepth 20000 in
theorem ggX0_init_X4_init : GoodIn wsX0_init wsX4_init := goodIn_r _ [9, 10, 2, 3, 11, 12, 13, 14, 15, 16, 17, 18, 19, 20, 21, 22, 7, 23, 24, 25, 26, 27, 28, 29, 30, 31, 32, 33, 34, 35, 36, 37, 41, 42, 43, 44, 45, 46, 47, 48, 49, 50, 51, 52, 53, 54] rfl (by decide +kernel)
set_option maxRecDepth 20000 in
theorem gX0_init_X4_init_n17 : GoodIn wsX0_init (wsX4_init) := ggX0_init_X4_init
theorem dX0_init_0 : decode cX0_init 0 = .ok (.aload_n 0, 1) := by decide +kernel
theorem dX0_init_1 : decode cX0_init 1 = .ok (.invokespecial 3, 3) := by decide +kernel
theorem dX0_init_4 : decode cX0_init 4 = .ok (.aload_n 0, 1) := by decide +kernel
theorem dX0_init_5 : decode cX0_init 5 = .ok (.bipush 14, 2) := by decide +kernel
theorem dX0_init_7 : decode cX0_init 7 = .ok (.anewarray 9, 3) := by decide +kernel
theorem dX0_init_10 : decode cX0_init 10 = .ok (.putfield 11, 3) := by decide +kernel
theorem dX0_init_13 : decode cX0_init 13 = .ok (.iconst 0, 1) := by decide +kernel
theorem dX0_init_14 : decode cX0_init 14 = .ok (.istore_n 1, 1) := by decide +kernel
theorem dX0_init_15 : decode cX0_init 15 = .ok (.iload_n 1, 1) := by decide +kernel
theorem dX0_init_16 : decode cX0_init 16 = .ok (.aload_n 0, 1) := by decide +kernel
theorem dX0_init_17 : decode cX0_init 17 = .ok (.getfield 11, 3) := by decide +kernel
theorem dX0_init_20 : decode cX0_init 20 = .ok (.arraylength, 1) := by decide +kernel
theorem dX0_init_21 : decode cX0_init 21 = .ok (.if_icmp .ge 22, 3) := by decide +kernel
theorem dX0_init_24 : decode cX0_init 24 = .ok (.aload_n 0, 1) := by decide +kernel
theorem dX0_init_25 : decode cX0_init 25 = .ok (.getfield 11, 3) := by decide +kernel
theorem dX0_init_28 : decode cX0_init 28 = .ok (.iload_n 1, 1) := by decide +kernel
theorem dX0_init_29 : decode cX0_init 29 = .ok (.new 9, 3) := by decide +kernel
theorem dX0_init_32 : decode cX0_init 32 = .ok (.dup, 1) := by decide +kernel
theorem dX0_init_33 : decode cX0_init 33 = .ok (.invokespecial 17, 3) := by decide +kernel
theorem dX0_init_36 : decode cX0_init 36 = .ok (.aastore, 1) := by decide +kernel
theorem dX0_init_37 : decode cX0_init 37 = .ok (.iinc 1 1, 3) := by decide +kernel
theorem dX0_init_40 : decode cX0_init 40 = .ok (.goto (-25), 3) := by decide +kernel
theorem dX0_init_43 : decode cX0_init 43 = .ok (.return_, 1) := by decide +kernel
theorem dX0_isEmpty_0 : decode cX0_isEmpty 0 = .ok (.aload_n 0, 1) := by decide +kernel
theorem dX0_isEmpty_1 : decode cX0_isEmpty 1 = .ok (.getfield 18, 3) := by decide +kernel
theorem dX0_isEmpty_4 : decode cX0_isEmpty 4 = .ok (.ifCond .gt 7, 3) := by decide +kernel
theorem dX0_isEmpty_7 : decode cX0_isEmpty 7 = .ok (.iconst 1, 1) := by decide +kernel
theorem dX0_isEmpty_8 : decode cX0_isEmpty 8 = .ok (.goto 4, 3) := by decide +kernel
theorem dX0_isEmpty_11 : decode cX0_isEmpty 11 = .ok (.iconst 0, 1) := by decide +kernel
theorem dX0_isEmpty_12 : decode cX0_isEmpty 12 = .ok (.ireturn, 1) := by decide +kernel
theorem dX0_forget_0 : decode cX0_forget 0 = .ok (.aload_n 0, 1) := by decide +kernel
theorem dX0_forget_1 : decode cX0_forget 1 = .ok (.iconst 0, 1) := by decide +kernel
theorem dX0_forget_2 : decode cX0_forget 2 = .ok (.putfield 18, 3) := by decide +kernel
theorem dX0_forget_5 : decode cX0_forget 5 = .ok (.return_, 1) := by decide +kernel
set_option maxRecDepth 20000 in
theorem ggX0_remember_X6_streetOf : GoodIn wsX0_remember wsX6_streetOf := goodIn_r _ [6] rfl (by decide +kernel)
set_option maxRecDepth 20000 in
theorem gX0_remember_X6_streetOf_n25 : GoodIn wsX0_remember (wsX6_streetOf) := ggX0_remember_X6_streetOf
set_option maxRecDepth 20000 in
theorem ggX0_remember_X4_copyFrom : GoodIn wsX0_remember wsX4_copyFrom := goodIn_r _ [10, 11, 12, 13, 14, 15, 16, 17, 18, 19, 20, 21, 22, 23, 24, 25, 5, 26, 27, 28, 29, 30, 34, 35, 36, 37, 38, 39, 40, 41, 42, 43, 44, 45, 46, 47] rfl (by decide +kernel)
set_option maxRecDepth 20000 in
theorem gX0_remember_X4_copyFrom_n29 : GoodIn wsX0_remember (wsX4_copyFrom) := ggX0_remember_X4_copyFrom
theorem dX0_remember_0 : decode cX0_remember 0 = .ok (.aload_n 0, 1) := by decide +kernel
theorem dX0_remember_1 : decode cX0_remember 1 = .ok (.getfield 18, 3) := by decide +kernel
theorem dX0_remember_4 : decode cX0_remember 4 = .ok (.bipush 14, 2) := by decide +kernel
theorem dX0_remember_6 : decode cX0_remember 6 = .ok (.if_icmp .lt 26, 3) := by decide +kernel
theorem dX0_remember_9 : decode cX0_remember 9 = .ok (.aload_n 0, 1) := by decide +kernel
theorem dX0_remember_10 : decode cX0_remember 10 = .ok (.aload_n 0, 1) := by decide +kernel
theorem dX0_remember_11 : decode cX0_remember 11 = .ok (.getfield 22, 3) := by decide +kernel
theorem dX0_remember_14 : decode cX0_remember 14 = .ok (.iconst 1, 1) := by decide +kernel
theorem dX0_remember_15 : decode cX0_remember 15 = .ok (.iadd, 1) := by decide +kernel
theorem dX0_remember_16 : decode cX0_remember 16 = .ok (.bipush 14, 2) := by decide +kernel
theorem dX0_remember_18 : decode cX0_remember 18 = .ok (.irem, 1) := by decide +kernel
theorem dX0_remember_19 : decode cX0_remember 19 = .ok (.putfield 22, 3) := by decide +kernel
theorem dX0_remember_22 : decode cX0_remember 22 = .ok (.aload_n 0, 1) := by decide +kernel
theorem dX0_remember_23 : decode cX0_remember 23 = .ok (.dup, 1) := by decide +kernel
theorem dX0_remember_24 : decode cX0_remember 24 = .ok (.getfield 18, 3) := by decide +kernel
theorem dX0_remember_27 : decode cX0_remember 27 = .ok (.iconst 1, 1) := by decide +kernel
theorem dX0_remember_28 : decode cX0_remember 28 = .ok (.isub, 1) := by decide +kernel
theorem dX0_remember_29 : decode cX0_remember 29 = .ok (.putfield 18, 3) := by decide +kernel
theorem dX0_remember_32 : decode cX0_remember 32 = .ok (.aload_n 0, 1) := by decide +kernel
theorem dX0_remember_33 : decode cX0_remember 33 = .ok (.getfield 11, 3) := by decide +kernel
theorem dX0_remember_36 : decode cX0_remember 36 = .ok (.aload_n 0, 1) := by decide +kernel
theorem dX0_remember_37 : decode cX0_remember 37 = .ok (.getfield 22, 3) := by decide +kernel
theorem dX0_remember_40 : decode cX0_remember 40 = .ok (.aload_n 0, 1) := by decide +kernel
theorem dX0_remember_41 : decode cX0_remember 41 = .ok (.getfield 18, 3) := by decide +kernel
theorem dX0_remember_44 : decode cX0_remember 44 = .ok (.iadd, 1) := by decide +kernel
theorem dX0_remember_45 : decode cX0_remember 45 = .ok (.bipush 14, 2) := by decide +kernel
theorem dX0_remember_47 : decode cX0_remember 47 = .ok (.irem, 1) := by decide +kernel
theorem dX0_remember_48 : decode cX0_remember 48 = .ok (.invokestatic 25, 3) := by decide +kernel
theorem dX0_remember_51 : decode cX0_remember 51 = .ok (.astore_n 2, 1) := by decide +kernel
theorem dX0_remember_52 : decode cX0_remember 52 = .ok (.aload_n 2, 1) := by decide +kernel
theorem dX0_remember_53 : decode cX0_remember 53 = .ok (.ifnull 18, 3) := by decide +kernel
theorem dX0_remember_56 : decode cX0_remember 56 = .ok (.aload_n 2, 1) := by decide +kernel
theorem dX0_remember_57 : decode cX0_remember 57 = .ok (.aload_n 1, 1) := by decide +kernel
theorem dX0_remember_58 : decode cX0_remember 58 = .ok (.invokevirtual 29, 3) := by decide +kernel
theorem dX0_remember_61 : decode cX0_remember 61 = .ok (.aload_n 0, 1) := by decide +kernel
theorem dX0_remember_62 : decode cX0_remember 62 = .ok (.dup, 1) := by decide +kernel
theorem dX0_remember_63 : decode cX0_remember 63 = .ok (.getfield 18, 3) := by decide +kernel
theorem dX0_remember_66 : decode cX0_remember 66 = .ok (.iconst 1, 1) := by decide +kernel
theorem dX0_remember_67 : decode cX0_remember 67 = .ok (.iadd, 1) := by decide +kernel
theorem dX0_remember_68 : decode cX0_remember 68 = .ok (.putfield 18, 3) := by decide +kernel
theorem dX0_remember_71 : decode cX0_remember 71 = .ok (.return_, 1) := by decide +kernel
set_option maxRecDepth 20000 in
theorem ggX0_takeBack_X0_isEmpty : GoodIn wsX0_takeBack wsX0_isEmpty := goodIn_r _ [8, 1, 36, 37, 38] rfl (by decide +kernel)
set_option maxRecDepth 20000 in
theorem gX0_takeBack_X0_isEmpty : GoodIn wsX0_takeBack (wsV RX0 33 RX0 yX0_isEmpty wsX0_isEmpty) := goodIn_app (goodIn_r _ [4, 5, 6, 7] rfl (by decide +kernel)) ggX0_takeBack_X0_isEmpty
set_option maxRecDepth 20000 in
theorem ggX0_takeBack_X6_streetOf : GoodIn wsX0_takeBack wsX6_streetOf := goodIn_r _ [11] rfl (by decide +kernel)
set_option maxRecDepth 20000 in
theorem gX0_takeBack_X6_streetOf_n25 : GoodIn wsX0_takeBack (wsX6_streetOf) := ggX0_takeBack_X6_streetOf
set_option maxRecDepth 20000 in
theorem ggX0_takeBack_X4_copyFrom : GoodIn wsX0_takeBack wsX4_copyFrom := goodIn_r _ [15, 16, 17, 18, 19, 20, 21, 22, 23, 24, 25, 26, 27, 28, 29, 30, 10, 31, 32, 33, 34, 35, 39, 40, 41, 42, 43, 44, 45, 46, 47, 48, 49, 50, 51, 52] rfl (by decide +kernel)
set_option maxRecDepth 20000 in
theorem gX0_takeBack_X4_copyFrom_n29 : GoodIn wsX0_takeBack (wsX4_copyFrom) := ggX0_takeBack_X4_copyFrom
theorem dX0_takeBack_0 : decode cX0_takeBack 0 = .ok (.aload_n 1, 1) := by decide +kernel
theorem dX0_takeBack_1 : decode cX0_takeBack 1 = .ok (.ifnull 10, 3) := by decide +kernel
theorem dX0_takeBack_4 : decode cX0_takeBack 4 = .ok (.aload_n 0, 1) := by decide +kernel
theorem dX0_takeBack_5 : decode cX0_takeBack 5 = .ok (.invokevirtual 33, 3) := by decide +kernel
theorem dX0_takeBack_8 : decode cX0_takeBack 8 = .ok (.ifCond .eq 5, 3) := by decide +kernel
theorem dX0_takeBack_11 : decode cX0_takeBack 11 = .ok (.iconst (-1), 1) := by decide +kernel
theorem dX0_takeBack_12 : decode cX0_takeBack 12 = .ok (.ireturn, 1) := by decide +kernel
theorem dX0_takeBack_13 : decode cX0_takeBack 13 = .ok (.aload_n 0, 1) := by decide +kernel
theorem dX0_takeBack_14 : decode cX0_takeBack 14 = .ok (.dup, 1) := by decide +kernel
theorem dX0_takeBack_15 : decode cX0_takeBack 15 = .ok (.getfield 18, 3) := by decide +kernel
theorem dX0_takeBack_18 : decode cX0_takeBack 18 = .ok (.iconst 1, 1) := by decide +kernel
theorem dX0_takeBack_19 : decode cX0_takeBack 19 = .ok (.isub, 1) := by decide +kernel
theorem dX0_takeBack_20 : decode cX0_takeBack 20 = .ok (.putfield 18, 3) := by decide +kernel
theorem dX0_takeBack_23 : decode cX0_takeBack 23 = .ok (.aload_n 1, 1) := by decide +kernel
theorem dX0_takeBack_24 : decode cX0_takeBack 24 = .ok (.aload_n 0, 1) := by decide +kernel
theorem dX0_takeBack_25 : decode cX0_takeBack 25 = .ok (.getfield 11, 3) := by decide +kernel
theorem dX0_takeBack_28 : decode cX0_takeBack 28 = .ok (.aload_n 0, 1) := by decide +kernel
theorem dX0_takeBack_29 : decode cX0_takeBack 29 = .ok (.getfield 22, 3) := by decide +kernel
theorem dX0_takeBack_32 : decode cX0_takeBack 32 = .ok (.aload_n 0, 1) := by decide +kernel
theorem dX0_takeBack_33 : decode cX0_takeBack 33 = .ok (.getfield 18, 3) := by decide +kernel
theorem dX0_takeBack_36 : decode cX0_takeBack 36 = .ok (.iadd, 1) := by decide +kernel
theorem dX0_takeBack_37 : decode cX0_takeBack 37 = .ok (.bipush 14, 2) := by decide +kernel
theorem dX0_takeBack_39 : decode cX0_takeBack 39 = .ok (.irem, 1) := by decide +kernel
theorem dX0_takeBack_40 : decode cX0_takeBack 40 = .ok (.invokestatic 25, 3) := by decide +kernel
theorem dX0_takeBack_43 : decode cX0_takeBack 43 = .ok (.invokevirtual 29, 3) := by decide +kernel
theorem dX0_takeBack_46 : decode cX0_takeBack 46 = .ok (.aload_n 0, 1) := by decide +kernel
theorem dX0_takeBack_47 : decode cX0_takeBack 47 = .ok (.getfield 18, 3) := by decide +kernel
theorem dX0_takeBack_50 : decode cX0_takeBack 50 = .ok (.ireturn, 1) := by decide +kernel
set_option maxRecDepth 20000 in
theorem ggX1_init_X4_init : GoodIn wsX1_init wsX4_init := goodIn_r _ [11, 12, 2, 3, 13, 14, 15, 16, 17, 18, 19, 20, 21, 22, 23, 24, 9, 25, 26, 27, 28, 29, 30, 31, 32, 33, 34, 35, 36, 37, 38, 39, 42, 43, 44, 45, 46, 47, 48, 49, 50, 51, 52, 53, 54, 55] rfl (by decide +kernel)
set_option maxRecDepth 20000 in
theorem gX1_init_X4_init_n21 : GoodIn wsX1_init (wsX4_init) := ggX1_init_X4_init
theorem dX1_init_0 : decode cX1_init 0 = .ok (.aload_n 0, 1) := by decide +kernel
theorem dX1_init_1 : decode cX1_init 1 = .ok (.invokespecial 3, 3) := by decide +kernel
theorem dX1_init_4 : decode cX1_init 4 = .ok (.aload_n 0, 1) := by decide +kernel
theorem dX1_init_5 : decode cX1_init 5 = .ok (.iconst 2, 1) := by decide +kernel
theorem dX1_init_6 : decode cX1_init 6 = .ok (.anewarray 9, 3) := by decide +kernel
theorem dX1_init_9 : decode cX1_init 9 = .ok (.putfield 11, 3) := by decide +kernel
theorem dX1_init_12 : decode cX1_init 12 = .ok (.aload_n 0, 1) := by decide +kernel
theorem dX1_init_13 : decode cX1_init 13 = .ok (.iconst 2, 1) := by decide +kernel
theorem dX1_init_14 : decode cX1_init 14 = .ok (.newarray .boolean, 2) := by decide +kernel
theorem dX1_init_16 : decode cX1_init 16 = .ok (.putfield 17, 3) := by decide +kernel
theorem dX1_init_19 : decode cX1_init 19 = .ok (.iconst 0, 1) := by decide +kernel
theorem dX1_init_20 : decode cX1_init 20 = .ok (.istore_n 1, 1) := by decide +kernel
theorem dX1_init_21 : decode cX1_init 21 = .ok (.iload_n 1, 1) := by decide +kernel
theorem dX1_init_22 : decode cX1_init 22 = .ok (.aload_n 0, 1) := by decide +kernel
theorem dX1_init_23 : decode cX1_init 23 = .ok (.getfield 11, 3) := by decide +kernel
theorem dX1_init_26 : decode cX1_init 26 = .ok (.arraylength, 1) := by decide +kernel
theorem dX1_init_27 : decode cX1_init 27 = .ok (.if_icmp .ge 22, 3) := by decide +kernel
theorem dX1_init_30 : decode cX1_init 30 = .ok (.aload_n 0, 1) := by decide +kernel
theorem dX1_init_31 : decode cX1_init 31 = .ok (.getfield 11, 3) := by decide +kernel
theorem dX1_init_34 : decode cX1_init 34 = .ok (.iload_n 1, 1) := by decide +kernel
theorem dX1_init_35 : decode cX1_init 35 = .ok (.new 9, 3) := by decide +kernel
theorem dX1_init_38 : decode cX1_init 38 = .ok (.dup, 1) := by decide +kernel
theorem dX1_init_39 : decode cX1_init 39 = .ok (.invokespecial 21, 3) := by decide +kernel
theorem dX1_init_42 : decode cX1_init 42 = .ok (.aastore, 1) := by decide +kernel
theorem dX1_init_43 : decode cX1_init 43 = .ok (.iinc 1 1, 3) := by decide +kernel
theorem dX1_init_46 : decode cX1_init 46 = .ok (.goto (-25), 3) := by decide +kernel
theorem dX1_init_49 : decode cX1_init 49 = .ok (.return_, 1) := by decide +kernel
theorem dX1_empty_0 : decode cX1_empty 0 = .ok (.iconst 0, 1) := by decide +kernel
theorem dX1_empty_1 : decode cX1_empty 1 = .ok (.istore_n 1, 1) := by decide +kernel
theorem dX1_empty_2 : decode cX1_empty 2 = .ok (.iload_n 1, 1) := by decide +kernel
theorem dX1_empty_3 : decode cX1_empty 3 = .ok (.aload_n 0, 1) := by decide +kernel
theorem dX1_empty_4 : decode cX1_empty 4 = .ok (.getfield 17, 3) := by decide +kernel
theorem dX1_empty_7 : decode cX1_empty 7 = .ok (.arraylength, 1) := by decide +kernel
theorem dX1_empty_8 : decode cX1_empty 8 = .ok (.if_icmp .ge 16, 3) := by decide +kernel
theorem dX1_empty_11 : decode cX1_empty 11 = .ok (.aload_n 0, 1) := by decide +kernel
theorem dX1_empty_12 : decode cX1_empty 12 = .ok (.getfield 17, 3) := by decide +kernel
theorem dX1_empty_15 : decode cX1_empty 15 = .ok (.iload_n 1, 1) := by decide +kernel
theorem dX1_empty_16 : decode cX1_empty 16 = .ok (.iconst 0, 1) := by decide +kernel
theorem dX1_empty_17 : decode cX1_empty 17 = .ok (.bastore, 1) := by decide +kernel
theorem dX1_empty_18 : decode cX1_empty 18 = .ok (.iinc 1 1, 3) := by decide +kernel
theorem dX1_empty_21 : decode cX1_empty 21 = .ok (.goto (-19), 3) := by decide +kernel
theorem dX1_empty_24 : decode cX1_empty 24 = .ok (.return_, 1) := by decide +kernel
theorem dX1_isFilled_0 : decode cX1_isFilled 0 = .ok (.iload_n 1, 1) := by decide +kernel
theorem dX1_isFilled_1 : decode cX1_isFilled 1 = .ok (.ifCond .lt 25, 3) := by decide +kernel
theorem dX1_isFilled_4 : decode cX1_isFilled 4 = .ok (.iload_n 1, 1) := by decide +kernel
theorem dX1_isFilled_5 : decode cX1_isFilled 5 = .ok (.aload_n 0, 1) := by decide +kernel
theorem dX1_isFilled_6 : decode cX1_isFilled 6 = .ok (.getfield 17, 3) := by decide +kernel
theorem dX1_isFilled_9 : decode cX1_isFilled 9 = .ok (.arraylength, 1) := by decide +kernel
theorem dX1_isFilled_10 : decode cX1_isFilled 10 = .ok (.if_icmp .ge 16, 3) := by decide +kernel
theorem dX1_isFilled_13 : decode cX1_isFilled 13 = .ok (.aload_n 0, 1) := by decide +kernel
theorem dX1_isFilled_14 : decode cX1_isFilled 14 = .ok (.getfield 17, 3) := by decide +kernel
theorem dX1_isFilled_17 : decode cX1_isFilled 17 = .ok (.iload_n 1, 1) := by decide +kernel
theorem dX1_isFilled_18 : decode cX1_isFilled 18 = .ok (.baload, 1) := by decide +kernel
theorem dX1_isFilled_19 : decode cX1_isFilled 19 = .ok (.ifCond .eq 7, 3) := by decide +kernel
theorem dX1_isFilled_22 : decode cX1_isFilled 22 = .ok (.iconst 1, 1) := by decide +kernel
theorem dX1_isFilled_23 : decode cX1_isFilled 23 = .ok (.goto 4, 3) := by decide +kernel
theorem dX1_isFilled_26 : decode cX1_isFilled 26 = .ok (.iconst 0, 1) := by decide +kernel
theorem dX1_isFilled_27 : decode cX1_isFilled 27 = .ok (.ireturn, 1) := by decide +kernel
set_option maxRecDepth 20000 in
theorem ggX1_keep_X6_streetOf : GoodIn wsX1_keep wsX6_streetOf := goodIn_r _ [5] rfl (by decide +kernel)
set_option maxRecDepth 20000 in
theorem gX1_keep_X6_streetOf_n22 : GoodIn wsX1_keep (wsX6_streetOf) := ggX1_keep_X6_streetOf
set_option maxRecDepth 20000 in
theorem ggX1_keep_X4_copyFrom : GoodIn wsX1_keep wsX4_copyFrom := goodIn_r _ [9, 10, 11, 12, 13, 14, 15, 16, 17, 18, 19, 20, 21, 22, 23, 24, 4, 25, 26, 27, 28, 29, 32, 33, 34, 35, 36, 37, 38, 39, 40, 41, 42, 43, 44, 45] rfl (by decide +kernel)
set_option maxRecDepth 20000 in
theorem gX1_keep_X4_copyFrom_n26 : GoodIn wsX1_keep (wsX4_copyFrom) := ggX1_keep_X4_copyFrom
theorem dX1_keep_0 : decode cX1_keep 0 = .ok (.aload_n 0, 1) := by decide +kernel
theorem dX1_keep_1 : decode cX1_keep 1 = .ok (.getfield 11, 3) := by decide +kernel
theorem dX1_keep_4 : decode cX1_keep 4 = .ok (.iload_n 1, 1) := by decide +kernel
theorem dX1_keep_5 : decode cX1_keep 5 = .ok (.invokestatic 22, 3) := by decide +kernel
theorem dX1_keep_8 : decode cX1_keep 8 = .ok (.astore_n 3, 1) := by decide +kernel
theorem dX1_keep_9 : decode cX1_keep 9 = .ok (.aload_n 3, 1) := by decide +kernel
theorem dX1_keep_10 : decode cX1_keep 10 = .ok (.ifnull 28, 3) := by decide +kernel
theorem dX1_keep_13 : decode cX1_keep 13 = .ok (.iload_n 1, 1) := by decide +kernel
theorem dX1_keep_14 : decode cX1_keep 14 = .ok (.ifCond .lt 24, 3) := by decide +kernel
theorem dX1_keep_17 : decode cX1_keep 17 = .ok (.iload_n 1, 1) := by decide +kernel
theorem dX1_keep_18 : decode cX1_keep 18 = .ok (.aload_n 0, 1) := by decide +kernel
theorem dX1_keep_19 : decode cX1_keep 19 = .ok (.getfield 17, 3) := by decide +kernel
theorem dX1_keep_22 : decode cX1_keep 22 = .ok (.arraylength, 1) := by decide +kernel
theorem dX1_keep_23 : decode cX1_keep 23 = .ok (.if_icmp .ge 15, 3) := by decide +kernel
theorem dX1_keep_26 : decode cX1_keep 26 = .ok (.aload_n 3, 1) := by decide +kernel
theorem dX1_keep_27 : decode cX1_keep 27 = .ok (.aload_n 2, 1) := by decide +kernel
theorem dX1_keep_28 : decode cX1_keep 28 = .ok (.invokevirtual 26, 3) := by decide +kernel
theorem dX1_keep_31 : decode cX1_keep 31 = .ok (.aload_n 0, 1) := by decide +kernel
theorem dX1_keep_32 : decode cX1_keep 32 = .ok (.getfield 17, 3) := by decide +kernel
theorem dX1_keep_35 : decode cX1_keep 35 = .ok (.iload_n 1, 1) := by decide +kernel
theorem dX1_keep_36 : decode cX1_keep 36 = .ok (.iconst 1, 1) := by decide +kernel
theorem dX1_keep_37 : decode cX1_keep 37 = .ok (.bastore, 1) := by decide +kernel
theorem dX1_keep_38 : decode cX1_keep 38 = .ok (.return_, 1) := by decide +kernel
set_option maxRecDepth 20000 in
theorem ggX1_giveBack_X1_isFilled : GoodIn wsX1_giveBack wsX1_isFilled := goodIn_r _ [6, 7, 35, 36] rfl (by decide +kernel)
set_option maxRecDepth 20000 in
theorem gX1_giveBack_X1_isFilled : GoodIn wsX1_giveBack (wsV RX1 30 RX1 yX1_isFilled wsX1_isFilled) := goodIn_app (goodIn_r _ [2, 3, 4, 5] rfl (by decide +kernel)) ggX1_giveBack_X1_isFilled
set_option maxRecDepth 20000 in
theorem ggX1_giveBack_X6_streetOf : GoodIn wsX1_giveBack wsX6_streetOf := goodIn_r _ [10] rfl (by decide +kernel)
set_option maxRecDepth 20000 in
theorem gX1_giveBack_X6_streetOf_n22 : GoodIn wsX1_giveBack (wsX6_streetOf) := ggX1_giveBack_X6_streetOf
set_option maxRecDepth 20000 in
theorem ggX1_giveBack_X4_copyFrom : GoodIn wsX1_giveBack wsX4_copyFrom := goodIn_r _ [14, 15, 16, 17, 18, 19, 20, 21, 22, 23, 24, 25, 26, 27, 28, 29, 9, 30, 31, 32, 33, 34, 37, 38, 39, 40, 41, 42, 43, 44, 45, 46, 47, 48, 49, 50] rfl (by decide +kernel)
set_option maxRecDepth 20000 in
theorem gX1_giveBack_X4_copyFrom_n26 : GoodIn wsX1_giveBack (wsX4_copyFrom) := ggX1_giveBack_X4_copyFrom
theorem dX1_giveBack_0 : decode cX1_giveBack 0 = .ok (.aload_n 2, 1) := by decide +kernel
theorem dX1_giveBack_1 : decode cX1_giveBack 1 = .ok (.ifnull 23, 3) := by decide +kernel
theorem dX1_giveBack_4 : decode cX1_giveBack 4 = .ok (.aload_n 0, 1) := by decide +kernel
theorem dX1_giveBack_5 : decode cX1_giveBack 5 = .ok (.iload_n 1, 1) := by decide +kernel
theorem dX1_giveBack_6 : decode cX1_giveBack 6 = .ok (.invokevirtual 30, 3) := by decide +kernel
theorem dX1_giveBack_9 : decode cX1_giveBack 9 = .ok (.ifCond .eq 15, 3) := by decide +kernel
theorem dX1_giveBack_12 : decode cX1_giveBack 12 = .ok (.aload_n 2, 1) := by decide +kernel
theorem dX1_giveBack_13 : decode cX1_giveBack 13 = .ok (.aload_n 0, 1) := by decide +kernel
theorem dX1_giveBack_14 : decode cX1_giveBack 14 = .ok (.getfield 11, 3) := by decide +kernel
theorem dX1_giveBack_17 : decode cX1_giveBack 17 = .ok (.iload_n 1, 1) := by decide +kernel
theorem dX1_giveBack_18 : decode cX1_giveBack 18 = .ok (.invokestatic 22, 3) := by decide +kernel
theorem dX1_giveBack_21 : decode cX1_giveBack 21 = .ok (.invokevirtual 26, 3) := by decide +kernel
theorem dX1_giveBack_24 : decode cX1_giveBack 24 = .ok (.return_, 1) := by decide +kernel
set_option maxRecDepth 20000 in
theorem ggX2_succeeds_X2_comesAsTold : GoodIn wsX2_succeeds wsX2_comesAsTold := goodIn_r _ [5, 6, 7, 8, 9, 10, 11, 12, 13, 14, 15, 16, 17, 18, 19, 20, 21, 22, 23, 24, 25, 26, 27, 28, 29, 30, 31, 32, 33, 34, 35, 36, 37, 38, 39, 40, 41, 42, 43, 44, 45, 46, 47, 48, 49, 50, 51, 52, 53, 54, 55, 56, 57, 58, 59, 60, 61, 62, 63, 64, 65, 66, 67, 68, 69, 70, 71, 72, 73, 74, 75, 76, 77, 149, 150, 151, 152, 153, 154, 155, 156, 157, 158, 159, 160, 161, 162] rfl (by decide +kernel)
set_option maxRecDepth 20000 in
theorem gX2_succeeds_X2_comesAsTold : GoodIn wsX2_succeeds (va_wsS RX2 10 yX2_comesAsTold wsX2_comesAsTold) := goodIn_app (goodIn_r _ [2, 3, 4] rfl (by decide +kernel)) ggX2_succeeds_X2_comesAsTold
set_option maxRecDepth 20000 in
theorem ggX2_succeeds_X4_depart : GoodIn wsX2_succeeds wsX4_depart := goodIn_r _ [80, 14, 11, 13, 81, 71, 72, 7, 73, 74, 75, 76, 77, 10, 32, 18, 33, 62, 63, 64, 65, 66, 26, 27, 67, 68, 69, 70, 48, 149, 150, 151, 152, 153, 154, 155, 156, 157, 158, 159, 160, 161, 162] rfl (by decide +kernel)
set_option maxRecDepth 20000 in
theorem gX2_succeeds_X4_depart_n16 : GoodIn wsX2_succeeds (wsX4_depart) := ggX2_succeeds_X4_depart
set_option maxRecDepth 20000 in
theorem ggX2_succeeds_X4_shift : GoodIn wsX2_succeeds wsX4_shift := goodIn_r _ [84, 14, 11, 85, 86, 87, 7, 88, 66, 32, 18, 33, 81, 71, 72, 73, 13, 74, 75, 76, 77, 10, 89, 90, 91, 92, 93, 94, 62, 63, 64, 65, 26, 27, 67, 68, 69, 70, 48, 149, 150, 151, 152, 153, 154, 155, 156, 157, 158, 159, 160, 161, 162] rfl (by decide +kernel)
set_option maxRecDepth 20000 in
theorem gX2_succeeds_X4_shift_n22 : GoodIn wsX2_succeeds (wsX4_shift) := ggX2_succeeds_X4_shift
set_option maxRecDepth 20000 in
theorem ggX2_succeeds_X4_passMinutes : GoodIn wsX2_succeeds wsX4_passMinutes := goodIn_r _ [97, 98, 99, 18, 100, 101, 102, 103, 7, 104, 10, 15, 81, 71, 72, 73, 13, 74, 75, 76, 77, 32, 33, 26, 27, 105, 106, 107, 108, 12, 109, 78, 79, 80, 14, 11, 62, 63, 64, 65, 66, 67, 68, 69, 70, 48, 110, 111, 112, 113, 28, 29, 30, 31, 34, 35, 36, 37, 38, 39, 40, 41, 42, 43, 44, 45, 46, 47, 49, 50, 51, 52, 53, 54, 55, 56, 57, 58, 59, 60, 61, 114, 115, 116, 117, 16, 118, 149, 150, 151, 152, 153, 154, 155, 156, 157, 158, 159, 160, 161, 162] rfl (by decide +kernel)
set_option maxRecDepth 20000 in
theorem gX2_succeeds_X4_passMinutes_n25 : GoodIn wsX2_succeeds (wsX4_passMinutes) := ggX2_succeeds_X4_passMinutes
set_option maxRecDepth 20000 in
theorem ggX2_succeeds_X4_changeSetting : GoodIn wsX2_succeeds wsX4_changeSetting := goodIn_r _ [121, 38, 49, 118, 122, 18, 123, 124, 125, 126, 7, 127, 149, 150, 151, 152, 153, 154, 155, 156, 157, 158, 159, 160, 161, 162] rfl (by decide +kernel)
set_option maxRecDepth 20000 in
theorem gX2_succeeds_X4_changeSetting_n29 : GoodIn wsX2_succeeds (wsX4_changeSetting) := ggX2_succeeds_X4_changeSetting
set_option maxRecDepth 20000 in
theorem ggX2_succeeds_X4_putHydrant : GoodIn wsX2_succeeds wsX4_putHydrant := goodIn_r _ [130, 66, 131, 132, 133, 7, 134, 89, 18, 90, 91, 92, 93, 94, 32, 33, 62, 63, 64, 65, 26, 27, 67, 68, 69, 70, 48, 135, 136, 137, 138, 149, 150, 151, 152, 153, 154, 155, 156, 157, 158, 159, 160, 161, 162] rfl (by decide +kernel)
set_option maxRecDepth 20000 in
theorem gX2_succeeds_X4_putHydrant_n32 : GoodIn wsX2_succeeds (wsX4_putHydrant) := ggX2_succeeds_X4_putHydrant
set_option maxRecDepth 20000 in
theorem ggX2_succeeds_X6_isLength : GoodIn wsX2_succeeds wsX6_isLength := goodIn_r _ [19] rfl (by decide +kernel)
set_option maxRecDepth 20000 in
theorem gX2_succeeds_X6_isLength_n36 : GoodIn wsX2_succeeds (wsX6_isLength) := ggX2_succeeds_X6_isLength
set_option maxRecDepth 20000 in
theorem ggX2_succeeds_X4_reasonAgainst : GoodIn wsX2_succeeds wsX4_reasonAgainst := goodIn_r _ [141, 49, 142, 143, 144, 7, 145, 48, 149, 150, 151, 152, 153, 154, 155, 156, 157, 158, 159, 160, 161, 162] rfl (by decide +kernel)
set_option maxRecDepth 20000 in
theorem gX2_succeeds_X4_reasonAgainst_n40 : GoodIn wsX2_succeeds (wsX4_reasonAgainst) := ggX2_succeeds_X4_reasonAgainst
set_option maxRecDepth 20000 in
theorem ggX2_succeeds_X4_isCar : GoodIn wsX2_succeeds wsX4_isCar := goodIn_r _ [77, 10, 149, 150, 151, 152, 153, 154, 155, 156, 157, 158, 159, 160, 161, 162] rfl (by decide +kernel)
set_option maxRecDepth 20000 in
theorem gX2_succeeds_X4_isCar_n43 : GoodIn wsX2_succeeds (wsX4_isCar) := ggX2_succeeds_X4_isCar
set_option maxRecDepth 20000 in
theorem ggX2_succeeds_X6_get : GoodIn wsX2_succeeds wsX6_get := goodIn_r _ [33] rfl (by decide +kernel)
set_option maxRecDepth 20000 in
theorem gX2_succeeds_X6_get_n50 : GoodIn wsX2_succeeds (wsX6_get) := ggX2_succeeds_X6_get
set_option maxRecDepth 20000 in
theorem ggX2_succeeds_X4_fittingByGaps : GoodIn wsX2_succeeds wsX4_fittingByGaps := goodIn_r _ [148, 48, 49, 149, 150, 151, 152, 153, 154, 155, 156, 157, 158, 159, 160, 161, 162] rfl (by decide +kernel)
set_option maxRecDepth 20000 in
theorem gX2_succeeds_X4_fittingByGaps_n54 : GoodIn wsX2_succeeds (wsX4_fittingByGaps) := ggX2_succeeds_X4_fittingByGaps
theorem dX2_succeeds_0 : decode cX2_succeeds 0 = .ok (.aload_n 1, 1) := by decide +kernel
theorem dX2_succeeds_1 : decode cX2_succeeds 1 = .ok (.ifnonnull 5, 3) := by decide +kernel
theorem dX2_succeeds_4 : decode cX2_succeeds 4 = .ok (.iconst 0, 1) := by decide +kernel
theorem dX2_succeeds_5 : decode cX2_succeeds 5 = .ok (.ireturn, 1) := by decide +kernel
theorem dX2_succeeds_6 : decode cX2_succeeds 6 = .ok (.iload_n 0, 1) := by decide +kernel
theorem dX2_succeeds_7 : decode cX2_succeeds 7 = .ok (.sipush 10000, 3) := by decide +kernel
theorem dX2_succeeds_10 : decode cX2_succeeds 10 = .ok (.idiv, 1) := by decide +kernel
theorem dX2_succeeds_11 : decode cX2_succeeds 11 = .ok (.bipush 10, 2) := by decide +kernel
theorem dX2_succeeds_13 : decode cX2_succeeds 13 = .ok (.irem, 1) := by decide +kernel
theorem dX2_succeeds_14 : decode cX2_succeeds 14 = .ok (.istore_n 2, 1) := by decide +kernel
theorem dX2_succeeds_15 : decode cX2_succeeds 15 = .ok (.iload_n 0, 1) := by decide +kernel
theorem dX2_succeeds_16 : decode cX2_succeeds 16 = .ok (.sipush 1000, 3) := by decide +kernel
theorem dX2_succeeds_19 : decode cX2_succeeds 19 = .ok (.idiv, 1) := by decide +kernel
theorem dX2_succeeds_20 : decode cX2_succeeds 20 = .ok (.bipush 100, 2) := by decide +kernel
theorem dX2_succeeds_22 : decode cX2_succeeds 22 = .ok (.irem, 1) := by decide +kernel
theorem dX2_succeeds_23 : decode cX2_succeeds 23 = .ok (.istore_n 3, 1) := by decide +kernel
theorem dX2_succeeds_24 : decode cX2_succeeds 24 = .ok (.iload_n 0, 1) := by decide +kernel
theorem dX2_succeeds_25 : decode cX2_succeeds 25 = .ok (.bipush 10, 2) := by decide +kernel
theorem dX2_succeeds_27 : decode cX2_succeeds 27 = .ok (.idiv, 1) := by decide +kernel
theorem dX2_succeeds_28 : decode cX2_succeeds 28 = .ok (.bipush 100, 2) := by decide +kernel
theorem dX2_succeeds_30 : decode cX2_succeeds 30 = .ok (.irem, 1) := by decide +kernel
theorem dX2_succeeds_31 : decode cX2_succeeds 31 = .ok (.istore 4, 2) := by decide +kernel
theorem dX2_succeeds_33 : decode cX2_succeeds 33 = .ok (.iload_n 0, 1) := by decide +kernel
theorem dX2_succeeds_34 : decode cX2_succeeds 34 = .ok (.bipush 100, 2) := by decide +kernel
theorem dX2_succeeds_36 : decode cX2_succeeds 36 = .ok (.irem, 1) := by decide +kernel
theorem dX2_succeeds_37 : decode cX2_succeeds 37 = .ok (.istore 5, 2) := by decide +kernel
theorem dX2_succeeds_39 : decode cX2_succeeds 39 = .ok (.iload_n 0, 1) := by decide +kernel
theorem dX2_succeeds_40 : decode cX2_succeeds 40 = .ok (.bipush 10, 2) := by decide +kernel
theorem dX2_succeeds_42 : decode cX2_succeeds 42 = .ok (.irem, 1) := by decide +kernel
theorem dX2_succeeds_43 : decode cX2_succeeds 43 = .ok (.istore 6, 2) := by decide +kernel
theorem dX2_succeeds_45 : decode cX2_succeeds 45 = .ok (.iload_n 0, 1) := by decide +kernel
theorem dX2_succeeds_46 : decode cX2_succeeds 46 = .ok (.ldc 9, 2) := by decide +kernel
theorem dX2_succeeds_48 : decode cX2_succeeds 48 = .ok (.idiv, 1) := by decide +kernel
theorem dX2_succeeds_49 : decode cX2_succeeds 49 = .ok (.tableswitch 295 1 9 #[51, 57, 81, 103, 130, 159, 196, 230, 262], 51) := by decide +kernel
theorem dX2_succeeds_100 : decode cX2_succeeds 100 = .ok (.iload_n 0, 1) := by decide +kernel
theorem dX2_succeeds_101 : decode cX2_succeeds 101 = .ok (.aload_n 1, 1) := by decide +kernel
theorem dX2_succeeds_102 : decode cX2_succeeds 102 = .ok (.invokestatic 10, 3) := by decide +kernel
theorem dX2_succeeds_105 : decode cX2_succeeds 105 = .ok (.ireturn, 1) := by decide +kernel
theorem dX2_succeeds_106 : decode cX2_succeeds 106 = .ok (.iload_n 0, 1) := by decide +kernel
theorem dX2_succeeds_107 : decode cX2_succeeds 107 = .ok (.sipush 1000, 3) := by decide +kernel
theorem dX2_succeeds_110 : decode cX2_succeeds 110 = .ok (.irem, 1) := by decide +kernel
theorem dX2_succeeds_111 : decode cX2_succeeds 111 = .ok (.ifCond .ne 17, 3) := by decide +kernel
theorem dX2_succeeds_114 : decode cX2_succeeds 114 = .ok (.aload_n 1, 1) := by decide +kernel
theorem dX2_succeeds_115 : decode cX2_succeeds 115 = .ok (.iload_n 3, 1) := by decide +kernel
theorem dX2_succeeds_116 : decode cX2_succeeds 116 = .ok (.iconst 2, 1) := by decide +kernel
theorem dX2_succeeds_117 : decode cX2_succeeds 117 = .ok (.invokevirtual 16, 3) := by decide +kernel
theorem dX2_succeeds_120 : decode cX2_succeeds 120 = .ok (.iconst (-1), 1) := by decide +kernel
theorem dX2_succeeds_121 : decode cX2_succeeds 121 = .ok (.if_icmp .eq 7, 3) := by decide +kernel
theorem dX2_succeeds_124 : decode cX2_succeeds 124 = .ok (.iconst 1, 1) := by decide +kernel
theorem dX2_succeeds_125 : decode cX2_succeeds 125 = .ok (.goto 4, 3) := by decide +kernel
theorem dX2_succeeds_128 : decode cX2_succeeds 128 = .ok (.iconst 0, 1) := by decide +kernel
theorem dX2_succeeds_129 : decode cX2_succeeds 129 = .ok (.ireturn, 1) := by decide +kernel
theorem dX2_succeeds_130 : decode cX2_succeeds 130 = .ok (.iload 6, 2) := by decide +kernel
theorem dX2_succeeds_132 : decode cX2_succeeds 132 = .ok (.ifCond .ne 18, 3) := by decide +kernel
theorem dX2_succeeds_135 : decode cX2_succeeds 135 = .ok (.aload_n 1, 1) := by decide +kernel
theorem dX2_succeeds_136 : decode cX2_succeeds 136 = .ok (.iload_n 3, 1) := by decide +kernel
theorem dX2_succeeds_137 : decode cX2_succeeds 137 = .ok (.iload 4, 2) := by decide +kernel
theorem dX2_succeeds_139 : decode cX2_succeeds 139 = .ok (.invokevirtual 22, 3) := by decide +kernel
theorem dX2_succeeds_142 : decode cX2_succeeds 142 = .ok (.iconst (-1), 1) := by decide +kernel
theorem dX2_succeeds_143 : decode cX2_succeeds 143 = .ok (.if_icmp .eq 7, 3) := by decide +kernel
theorem dX2_succeeds_146 : decode cX2_succeeds 146 = .ok (.iconst 1, 1) := by decide +kernel
theorem dX2_succeeds_147 : decode cX2_succeeds 147 = .ok (.goto 4, 3) := by decide +kernel
theorem dX2_succeeds_150 : decode cX2_succeeds 150 = .ok (.iconst 0, 1) := by decide +kernel
theorem dX2_succeeds_151 : decode cX2_succeeds 151 = .ok (.ireturn, 1) := by decide +kernel
theorem dX2_succeeds_152 : decode cX2_succeeds 152 = .ok (.iload_n 0, 1) := by decide +kernel
theorem dX2_succeeds_153 : decode cX2_succeeds 153 = .ok (.bipush 100, 2) := by decide +kernel
theorem dX2_succeeds_155 : decode cX2_succeeds 155 = .ok (.idiv, 1) := by decide +kernel
theorem dX2_succeeds_156 : decode cX2_succeeds 156 = .ok (.sipush 1000, 3) := by decide +kernel
theorem dX2_succeeds_159 : decode cX2_succeeds 159 = .ok (.irem, 1) := by decide +kernel
theorem dX2_succeeds_160 : decode cX2_succeeds 160 = .ok (.ifCond .ne 17, 3) := by decide +kernel
theorem dX2_succeeds_163 : decode cX2_succeeds 163 = .ok (.aload_n 1, 1) := by decide +kernel
theorem dX2_succeeds_164 : decode cX2_succeeds 164 = .ok (.iload 5, 2) := by decide +kernel
theorem dX2_succeeds_166 : decode cX2_succeeds 166 = .ok (.invokevirtual 25, 3) := by decide +kernel
theorem dX2_succeeds_169 : decode cX2_succeeds 169 = .ok (.iconst (-1), 1) := by decide +kernel
theorem dX2_succeeds_170 : decode cX2_succeeds 170 = .ok (.if_icmp .eq 7, 3) := by decide +kernel
theorem dX2_succeeds_173 : decode cX2_succeeds 173 = .ok (.iconst 1, 1) := by decide +kernel
theorem dX2_succeeds_174 : decode cX2_succeeds 174 = .ok (.goto 4, 3) := by decide +kernel
theorem dX2_succeeds_177 : decode cX2_succeeds 177 = .ok (.iconst 0, 1) := by decide +kernel
theorem dX2_succeeds_178 : decode cX2_succeeds 178 = .ok (.ireturn, 1) := by decide +kernel
theorem dX2_succeeds_179 : decode cX2_succeeds 179 = .ok (.iload_n 3, 1) := by decide +kernel
theorem dX2_succeeds_180 : decode cX2_succeeds 180 = .ok (.bipush 10, 2) := by decide +kernel
theorem dX2_succeeds_182 : decode cX2_succeeds 182 = .ok (.irem, 1) := by decide +kernel
theorem dX2_succeeds_183 : decode cX2_succeeds 183 = .ok (.ifCond .ne 23, 3) := by decide +kernel
theorem dX2_succeeds_186 : decode cX2_succeeds 186 = .ok (.iload 6, 2) := by decide +kernel
theorem dX2_succeeds_188 : decode cX2_succeeds 188 = .ok (.ifCond .ne 18, 3) := by decide +kernel
theorem dX2_succeeds_191 : decode cX2_succeeds 191 = .ok (.aload_n 1, 1) := by decide +kernel
theorem dX2_succeeds_192 : decode cX2_succeeds 192 = .ok (.iload_n 2, 1) := by decide +kernel
theorem dX2_succeeds_193 : decode cX2_succeeds 193 = .ok (.iload 4, 2) := by decide +kernel
theorem dX2_succeeds_195 : decode cX2_succeeds 195 = .ok (.invokevirtual 29, 3) := by decide +kernel
theorem dX2_succeeds_198 : decode cX2_succeeds 198 = .ok (.iconst (-1), 1) := by decide +kernel
theorem dX2_succeeds_199 : decode cX2_succeeds 199 = .ok (.if_icmp .eq 7, 3) := by decide +kernel
theorem dX2_succeeds_202 : decode cX2_succeeds 202 = .ok (.iconst 1, 1) := by decide +kernel
theorem dX2_succeeds_203 : decode cX2_succeeds 203 = .ok (.goto 4, 3) := by decide +kernel
theorem dX2_succeeds_206 : decode cX2_succeeds 206 = .ok (.iconst 0, 1) := by decide +kernel
theorem dX2_succeeds_207 : decode cX2_succeeds 207 = .ok (.ireturn, 1) := by decide +kernel
theorem dX2_succeeds_208 : decode cX2_succeeds 208 = .ok (.iload 4, 2) := by decide +kernel
theorem dX2_succeeds_210 : decode cX2_succeeds 210 = .ok (.ifCond .ne 33, 3) := by decide +kernel
theorem dX2_succeeds_213 : decode cX2_succeeds 213 = .ok (.iload 6, 2) := by decide +kernel
theorem dX2_succeeds_215 : decode cX2_succeeds 215 = .ok (.iconst 1, 1) := by decide +kernel
theorem dX2_succeeds_216 : decode cX2_succeeds 216 = .ok (.if_icmp .gt 27, 3) := by decide +kernel
theorem dX2_succeeds_219 : decode cX2_succeeds 219 = .ok (.aload_n 1, 1) := by decide +kernel
theorem dX2_succeeds_220 : decode cX2_succeeds 220 = .ok (.iload_n 3, 1) := by decide +kernel
theorem dX2_succeeds_221 : decode cX2_succeeds 221 = .ok (.iload 6, 2) := by decide +kernel
theorem dX2_succeeds_223 : decode cX2_succeeds 223 = .ok (.iconst 1, 1) := by decide +kernel
theorem dX2_succeeds_224 : decode cX2_succeeds 224 = .ok (.if_icmp .ne 7, 3) := by decide +kernel
theorem dX2_succeeds_227 : decode cX2_succeeds 227 = .ok (.iconst 1, 1) := by decide +kernel
theorem dX2_succeeds_228 : decode cX2_succeeds 228 = .ok (.goto 4, 3) := by decide +kernel
theorem dX2_succeeds_231 : decode cX2_succeeds 231 = .ok (.iconst 0, 1) := by decide +kernel
theorem dX2_succeeds_232 : decode cX2_succeeds 232 = .ok (.invokevirtual 32, 3) := by decide +kernel
theorem dX2_succeeds_235 : decode cX2_succeeds 235 = .ok (.iconst (-1), 1) := by decide +kernel
theorem dX2_succeeds_236 : decode cX2_succeeds 236 = .ok (.if_icmp .eq 7, 3) := by decide +kernel
theorem dX2_succeeds_239 : decode cX2_succeeds 239 = .ok (.iconst 1, 1) := by decide +kernel
theorem dX2_succeeds_240 : decode cX2_succeeds 240 = .ok (.goto 4, 3) := by decide +kernel
theorem dX2_succeeds_243 : decode cX2_succeeds 243 = .ok (.iconst 0, 1) := by decide +kernel
theorem dX2_succeeds_244 : decode cX2_succeeds 244 = .ok (.ireturn, 1) := by decide +kernel
theorem dX2_succeeds_245 : decode cX2_succeeds 245 = .ok (.iload_n 0, 1) := by decide +kernel
theorem dX2_succeeds_246 : decode cX2_succeeds 246 = .ok (.bipush 10, 2) := by decide +kernel
theorem dX2_succeeds_248 : decode cX2_succeeds 248 = .ok (.idiv, 1) := by decide +kernel
theorem dX2_succeeds_249 : decode cX2_succeeds 249 = .ok (.sipush 1000, 3) := by decide +kernel
theorem dX2_succeeds_252 : decode cX2_succeeds 252 = .ok (.irem, 1) := by decide +kernel
theorem dX2_succeeds_253 : decode cX2_succeeds 253 = .ok (.ifCond .ne 24, 3) := by decide +kernel
theorem dX2_succeeds_256 : decode cX2_succeeds 256 = .ok (.iload_n 2, 1) := by decide +kernel
theorem dX2_succeeds_257 : decode cX2_succeeds 257 = .ok (.invokestatic 36, 3) := by decide +kernel
theorem dX2_succeeds_260 : decode cX2_succeeds 260 = .ok (.ifCond .eq 17, 3) := by decide +kernel
theorem dX2_succeeds_263 : decode cX2_succeeds 263 = .ok (.aload_n 1, 1) := by decide +kernel
theorem dX2_succeeds_264 : decode cX2_succeeds 264 = .ok (.iload_n 2, 1) := by decide +kernel
theorem dX2_succeeds_265 : decode cX2_succeeds 265 = .ok (.invokevirtual 40, 3) := by decide +kernel
theorem dX2_succeeds_268 : decode cX2_succeeds 268 = .ok (.iload 6, 2) := by decide +kernel
theorem dX2_succeeds_270 : decode cX2_succeeds 270 = .ok (.if_icmp .ne 7, 3) := by decide +kernel
theorem dX2_succeeds_273 : decode cX2_succeeds 273 = .ok (.iconst 1, 1) := by decide +kernel
theorem dX2_succeeds_274 : decode cX2_succeeds 274 = .ok (.goto 4, 3) := by decide +kernel
theorem dX2_succeeds_277 : decode cX2_succeeds 277 = .ok (.iconst 0, 1) := by decide +kernel
theorem dX2_succeeds_278 : decode cX2_succeeds 278 = .ok (.ireturn, 1) := by decide +kernel
theorem dX2_succeeds_279 : decode cX2_succeeds 279 = .ok (.iload 4, 2) := by decide +kernel
theorem dX2_succeeds_281 : decode cX2_succeeds 281 = .ok (.ifCond .ne 28, 3) := by decide +kernel
theorem dX2_succeeds_284 : decode cX2_succeeds 284 = .ok (.aload_n 1, 1) := by decide +kernel
theorem dX2_succeeds_285 : decode cX2_succeeds 285 = .ok (.iload_n 3, 1) := by decide +kernel
theorem dX2_succeeds_286 : decode cX2_succeeds 286 = .ok (.invokevirtual 43, 3) := by decide +kernel
theorem dX2_succeeds_289 : decode cX2_succeeds 289 = .ok (.ifCond .eq 20, 3) := by decide +kernel
theorem dX2_succeeds_292 : decode cX2_succeeds 292 = .ok (.aload_n 1, 1) := by decide +kernel
theorem dX2_succeeds_293 : decode cX2_succeeds 293 = .ok (.getfield 46, 3) := by decide +kernel
theorem dX2_succeeds_296 : decode cX2_succeeds 296 = .ok (.iload_n 3, 1) := by decide +kernel
theorem dX2_succeeds_297 : decode cX2_succeeds 297 = .ok (.invokestatic 50, 3) := by decide +kernel
theorem dX2_succeeds_300 : decode cX2_succeeds 300 = .ok (.iload 6, 2) := by decide +kernel
theorem dX2_succeeds_302 : decode cX2_succeeds 302 = .ok (.if_icmp .ne 7, 3) := by decide +kernel
theorem dX2_succeeds_305 : decode cX2_succeeds 305 = .ok (.iconst 1, 1) := by decide +kernel
theorem dX2_succeeds_306 : decode cX2_succeeds 306 = .ok (.goto 4, 3) := by decide +kernel
theorem dX2_succeeds_309 : decode cX2_succeeds 309 = .ok (.iconst 0, 1) := by decide +kernel
theorem dX2_succeeds_310 : decode cX2_succeeds 310 = .ok (.ireturn, 1) := by decide +kernel
theorem dX2_succeeds_311 : decode cX2_succeeds 311 = .ok (.iload_n 0, 1) := by decide +kernel
theorem dX2_succeeds_312 : decode cX2_succeeds 312 = .ok (.bipush 100, 2) := by decide +kernel
theorem dX2_succeeds_314 : decode cX2_succeeds 314 = .ok (.idiv, 1) := by decide +kernel
theorem dX2_succeeds_315 : decode cX2_succeeds 315 = .ok (.bipush 100, 2) := by decide +kernel
theorem dX2_succeeds_317 : decode cX2_succeeds 317 = .ok (.irem, 1) := by decide +kernel
theorem dX2_succeeds_318 : decode cX2_succeeds 318 = .ok (.ifCond .ne 24, 3) := by decide +kernel
theorem dX2_succeeds_321 : decode cX2_succeeds 321 = .ok (.iload_n 2, 1) := by decide +kernel
theorem dX2_succeeds_322 : decode cX2_succeeds 322 = .ok (.invokestatic 36, 3) := by decide +kernel
theorem dX2_succeeds_325 : decode cX2_succeeds 325 = .ok (.ifCond .eq 17, 3) := by decide +kernel
theorem dX2_succeeds_328 : decode cX2_succeeds 328 = .ok (.aload_n 1, 1) := by decide +kernel
theorem dX2_succeeds_329 : decode cX2_succeeds 329 = .ok (.iload_n 2, 1) := by decide +kernel
theorem dX2_succeeds_330 : decode cX2_succeeds 330 = .ok (.invokevirtual 54, 3) := by decide +kernel
theorem dX2_succeeds_333 : decode cX2_succeeds 333 = .ok (.iload 5, 2) := by decide +kernel
theorem dX2_succeeds_335 : decode cX2_succeeds 335 = .ok (.if_icmp .lt 7, 3) := by decide +kernel
theorem dX2_succeeds_338 : decode cX2_succeeds 338 = .ok (.iconst 1, 1) := by decide +kernel
theorem dX2_succeeds_339 : decode cX2_succeeds 339 = .ok (.goto 4, 3) := by decide +kernel
theorem dX2_succeeds_342 : decode cX2_succeeds 342 = .ok (.iconst 0, 1) := by decide +kernel
theorem dX2_succeeds_343 : decode cX2_succeeds 343 = .ok (.ireturn, 1) := by decide +kernel
theorem dX2_succeeds_344 : decode cX2_succeeds 344 = .ok (.iconst 0, 1) := by decide +kernel
theorem dX2_succeeds_345 : decode cX2_succeeds 345 = .ok (.ireturn, 1) := by decide +kernel
set_option maxRecDepth 20000 in
theorem ggX2_comesAsTold_X4_arrive : GoodIn wsX2_comesAsTold wsX4_arrive := goodIn_r _ [4, 5, 6, 7, 8, 9, 10, 11, 12, 13, 14, 15, 16, 17, 18, 19, 2, 20, 21, 22, 23, 24, 25, 26, 27, 28, 29, 30, 31, 32, 33, 34, 35, 36, 37, 38, 39, 40, 41, 42, 43, 44, 45, 46, 47, 48, 49, 50, 51, 52, 53, 54, 55, 56, 57, 58, 59, 60, 61, 62, 63, 64, 65, 73, 74, 75, 76, 77, 78, 79, 80, 81, 82, 83, 84, 85, 86] rfl (by decide +kernel)
set_option maxRecDepth 20000 in
theorem gX2_comesAsTold_X4_arrive_n57 : GoodIn wsX2_comesAsTold (wsX4_arrive) := ggX2_comesAsTold_X4_arrive
set_option maxRecDepth 20000 in
theorem ggX2_comesAsTold_X4_isParked : GoodIn wsX2_comesAsTold wsX4_isParked := goodIn_r _ [68, 8, 69, 70, 71, 2, 72, 5, 27, 13, 28, 73, 74, 75, 76, 77, 78, 79, 80, 81, 82, 83, 84, 85, 86] rfl (by decide +kernel)
set_option maxRecDepth 20000 in
theorem gX2_comesAsTold_X4_isParked_n60 : GoodIn wsX2_comesAsTold (wsX4_isParked) := ggX2_comesAsTold_X4_isParked
theorem dX2_comesAsTold_0 : decode cX2_comesAsTold 0 = .ok (.iload_n 0, 1) := by decide +kernel
theorem dX2_comesAsTold_1 : decode cX2_comesAsTold 1 = .ok (.bipush 100, 2) := by decide +kernel
theorem dX2_comesAsTold_3 : decode cX2_comesAsTold 3 = .ok (.irem, 1) := by decide +kernel
theorem dX2_comesAsTold_4 : decode cX2_comesAsTold 4 = .ok (.istore_n 2, 1) := by decide +kernel
theorem dX2_comesAsTold_5 : decode cX2_comesAsTold 5 = .ok (.iload_n 2, 1) := by decide +kernel
theorem dX2_comesAsTold_6 : decode cX2_comesAsTold 6 = .ok (.iconst 1, 1) := by decide +kernel
theorem dX2_comesAsTold_7 : decode cX2_comesAsTold 7 = .ok (.if_icmp .le 5, 3) := by decide +kernel
theorem dX2_comesAsTold_10 : decode cX2_comesAsTold 10 = .ok (.iconst 0, 1) := by decide +kernel
theorem dX2_comesAsTold_11 : decode cX2_comesAsTold 11 = .ok (.ireturn, 1) := by decide +kernel
theorem dX2_comesAsTold_12 : decode cX2_comesAsTold 12 = .ok (.aload_n 1, 1) := by decide +kernel
theorem dX2_comesAsTold_13 : decode cX2_comesAsTold 13 = .ok (.iload_n 0, 1) := by decide +kernel
theorem dX2_comesAsTold_14 : decode cX2_comesAsTold 14 = .ok (.sipush 10000, 3) := by decide +kernel
theorem dX2_comesAsTold_17 : decode cX2_comesAsTold 17 = .ok (.idiv, 1) := by decide +kernel
theorem dX2_comesAsTold_18 : decode cX2_comesAsTold 18 = .ok (.bipush 10, 2) := by decide +kernel
theorem dX2_comesAsTold_20 : decode cX2_comesAsTold 20 = .ok (.irem, 1) := by decide +kernel
theorem dX2_comesAsTold_21 : decode cX2_comesAsTold 21 = .ok (.iload_n 0, 1) := by decide +kernel
theorem dX2_comesAsTold_22 : decode cX2_comesAsTold 22 = .ok (.bipush 100, 2) := by decide +kernel
theorem dX2_comesAsTold_24 : decode cX2_comesAsTold 24 = .ok (.idiv, 1) := by decide +kernel
theorem dX2_comesAsTold_25 : decode cX2_comesAsTold 25 = .ok (.bipush 100, 2) := by decide +kernel
theorem dX2_comesAsTold_27 : decode cX2_comesAsTold 27 = .ok (.irem, 1) := by decide +kernel
theorem dX2_comesAsTold_28 : decode cX2_comesAsTold 28 = .ok (.invokevirtual 57, 3) := by decide +kernel
theorem dX2_comesAsTold_31 : decode cX2_comesAsTold 31 = .ok (.istore_n 3, 1) := by decide +kernel
theorem dX2_comesAsTold_32 : decode cX2_comesAsTold 32 = .ok (.iload_n 3, 1) := by decide +kernel
theorem dX2_comesAsTold_33 : decode cX2_comesAsTold 33 = .ok (.iconst (-1), 1) := by decide +kernel
theorem dX2_comesAsTold_34 : decode cX2_comesAsTold 34 = .ok (.if_icmp .eq 25, 3) := by decide +kernel
theorem dX2_comesAsTold_37 : decode cX2_comesAsTold 37 = .ok (.aload_n 1, 1) := by decide +kernel
theorem dX2_comesAsTold_38 : decode cX2_comesAsTold 38 = .ok (.iload_n 3, 1) := by decide +kernel
theorem dX2_comesAsTold_39 : decode cX2_comesAsTold 39 = .ok (.invokevirtual 60, 3) := by decide +kernel
theorem dX2_comesAsTold_42 : decode cX2_comesAsTold 42 = .ok (.iload_n 2, 1) := by decide +kernel
theorem dX2_comesAsTold_43 : decode cX2_comesAsTold 43 = .ok (.iconst 1, 1) := by decide +kernel
theorem dX2_comesAsTold_44 : decode cX2_comesAsTold 44 = .ok (.if_icmp .ne 7, 3) := by decide +kernel
theorem dX2_comesAsTold_47 : decode cX2_comesAsTold 47 = .ok (.iconst 1, 1) := by decide +kernel
theorem dX2_comesAsTold_48 : decode cX2_comesAsTold 48 = .ok (.goto 4, 3) := by decide +kernel
theorem dX2_comesAsTold_51 : decode cX2_comesAsTold 51 = .ok (.iconst 0, 1) := by decide +kernel
theorem dX2_comesAsTold_52 : decode cX2_comesAsTold 52 = .ok (.if_icmp .ne 7, 3) := by decide +kernel
theorem dX2_comesAsTold_55 : decode cX2_comesAsTold 55 = .ok (.iconst 1, 1) := by decide +kernel
theorem dX2_comesAsTold_56 : decode cX2_comesAsTold 56 = .ok (.goto 4, 3) := by decide +kernel
theorem dX2_comesAsTold_59 : decode cX2_comesAsTold 59 = .ok (.iconst 0, 1) := by decide +kernel
theorem dX2_comesAsTold_60 : decode cX2_comesAsTold 60 = .ok (.ireturn, 1) := by decide +kernel
set_option maxRecDepth 20000 in
theorem ggX3_doTurn_X4_arrive : GoodIn wsX3_doTurn wsX4_arrive := goodIn_r _ [4, 5, 6, 7, 8, 9, 10, 11, 12, 13, 14, 15, 16, 17, 18, 19, 2, 20, 21, 22, 23, 24, 25, 26, 27, 28, 29, 30, 31, 32, 33, 34, 35, 36, 37, 38, 39, 40, 41, 42, 43, 44, 45, 46, 47, 48, 49, 50, 51, 52, 53, 54, 55, 56, 57, 58, 59, 60, 61, 62, 63, 64, 65, 131, 132, 133, 134, 135, 136, 137, 138, 139, 140, 141, 142, 143, 144] rfl (by decide +kernel)
set_option maxRecDepth 20000 in
theorem gX3_doTurn_X4_arrive_n9 : GoodIn wsX3_doTurn (wsX4_arrive) := ggX3_doTurn_X4_arrive
set_option maxRecDepth 20000 in
theorem ggX3_doTurn_X4_depart : GoodIn wsX3_doTurn wsX4_depart := goodIn_r _ [68, 9, 6, 8, 69, 70, 71, 2, 72, 73, 74, 75, 76, 5, 27, 13, 28, 57, 58, 59, 60, 61, 21, 22, 62, 63, 64, 65, 43, 131, 132, 133, 134, 135, 136, 137, 138, 139, 140, 141, 142, 143, 144] rfl (by decide +kernel)
set_option maxRecDepth 20000 in
theorem gX3_doTurn_X4_depart_n15 : GoodIn wsX3_doTurn (wsX4_depart) := ggX3_doTurn_X4_depart
set_option maxRecDepth 20000 in
theorem ggX3_doTurn_X4_putHydrant : GoodIn wsX3_doTurn wsX4_putHydrant := goodIn_r _ [79, 61, 80, 81, 82, 2, 83, 84, 13, 85, 86, 87, 88, 89, 27, 28, 57, 58, 59, 60, 21, 22, 62, 63, 64, 65, 43, 90, 91, 92, 93, 131, 132, 133, 134, 135, 136, 137, 138, 139, 140, 141, 142, 143, 144] rfl (by decide +kernel)
set_option maxRecDepth 20000 in
theorem gX3_doTurn_X4_putHydrant_n18 : GoodIn wsX3_doTurn (wsX4_putHydrant) := ggX3_doTurn_X4_putHydrant
set_option maxRecDepth 20000 in
theorem ggX3_doTurn_X3_changeRuleOrRoom : GoodIn wsX3_doTurn wsX3_changeRuleOrRoom := goodIn_r _ [97, 98, 2, 99, 100, 33, 44, 101, 102, 13, 103, 104, 105, 106, 107, 131, 132, 133, 134, 135, 136, 137, 138, 139, 140, 141, 142, 143, 144] rfl (by decide +kernel)
set_option maxRecDepth 20000 in
theorem gX3_doTurn_X3_changeRuleOrRoom : GoodIn wsX3_doTurn (va_wsS RX3 22 yX3_changeRuleOrRoom wsX3_changeRuleOrRoom) := goodIn_app (goodIn_r _ [94, 95, 96] rfl (by decide +kernel)) ggX3_doTurn_X3_changeRuleOrRoom
set_option maxRecDepth 20000 in
theorem ggX3_doTurn_X4_passMinutes : GoodIn wsX3_doTurn wsX4_passMinutes := goodIn_r _ [110, 111, 112, 13, 113, 114, 115, 116, 2, 117, 5, 10, 69, 70, 71, 72, 8, 73, 74, 75, 76, 27, 28, 21, 22, 118, 119, 120, 121, 7, 122, 66, 67, 68, 9, 6, 57, 58, 59, 60, 61, 62, 63, 64, 65, 43, 123, 124, 125, 126, 23, 24, 25, 26, 29, 30, 31, 32, 33, 34, 35, 36, 37, 38, 39, 40, 41, 42, 44, 45, 46, 47, 48, 49, 50, 51, 52, 53, 54, 55, 56, 127, 128, 129, 130, 11, 101, 131, 132, 133, 134, 135, 136, 137, 138, 139, 140, 141, 142, 143, 144] rfl (by decide +kernel)
set_option maxRecDepth 20000 in
theorem gX3_doTurn_X4_passMinutes_n28 : GoodIn wsX3_doTurn (wsX4_passMinutes) := ggX3_doTurn_X4_passMinutes
theorem dX3_doTurn_0 : decode cX3_doTurn 0 = .ok (.iload_n 0, 1) := by decide +kernel
theorem dX3_doTurn_1 : decode cX3_doTurn 1 = .ok (.bipush 8, 2) := by decide +kernel
theorem dX3_doTurn_3 : decode cX3_doTurn 3 = .ok (.idiv, 1) := by decide +kernel
theorem dX3_doTurn_4 : decode cX3_doTurn 4 = .ok (.istore_n 2, 1) := by decide +kernel
theorem dX3_doTurn_5 : decode cX3_doTurn 5 = .ok (.aload_n 1, 1) := by decide +kernel
theorem dX3_doTurn_6 : decode cX3_doTurn 6 = .ok (.ifnonnull 4, 3) := by decide +kernel
theorem dX3_doTurn_9 : decode cX3_doTurn 9 = .ok (.return_, 1) := by decide +kernel
theorem dX3_doTurn_10 : decode cX3_doTurn 10 = .ok (.iload_n 0, 1) := by decide +kernel
theorem dX3_doTurn_11 : decode cX3_doTurn 11 = .ok (.bipush 8, 2) := by decide +kernel
theorem dX3_doTurn_13 : decode cX3_doTurn 13 = .ok (.irem, 1) := by decide +kernel
theorem dX3_doTurn_14 : decode cX3_doTurn 14 = .ok (.tableswitch 109 0 5 #[38, 38, 38, 61, 74, 101], 38) := by decide +kernel
theorem dX3_doTurn_52 : decode cX3_doTurn 52 = .ok (.aload_n 1, 1) := by decide +kernel
theorem dX3_doTurn_53 : decode cX3_doTurn 53 = .ok (.iconst 2, 1) := by decide +kernel
theorem dX3_doTurn_54 : decode cX3_doTurn 54 = .ok (.iload_n 2, 1) := by decide +kernel
theorem dX3_doTurn_55 : decode cX3_doTurn 55 = .ok (.bipush 7, 2) := by decide +kernel
theorem dX3_doTurn_57 : decode cX3_doTurn 57 = .ok (.irem, 1) := by decide +kernel
theorem dX3_doTurn_58 : decode cX3_doTurn 58 = .ok (.iadd, 1) := by decide +kernel
theorem dX3_doTurn_59 : decode cX3_doTurn 59 = .ok (.iconst 1, 1) := by decide +kernel
theorem dX3_doTurn_60 : decode cX3_doTurn 60 = .ok (.iload_n 2, 1) := by decide +kernel
theorem dX3_doTurn_61 : decode cX3_doTurn 61 = .ok (.bipush 8, 2) := by decide +kernel
theorem dX3_doTurn_63 : decode cX3_doTurn 63 = .ok (.idiv, 1) := by decide +kernel
theorem dX3_doTurn_64 : decode cX3_doTurn 64 = .ok (.bipush 30, 2) := by decide +kernel
theorem dX3_doTurn_66 : decode cX3_doTurn 66 = .ok (.irem, 1) := by decide +kernel
theorem dX3_doTurn_67 : decode cX3_doTurn 67 = .ok (.iadd, 1) := by decide +kernel
theorem dX3_doTurn_68 : decode cX3_doTurn 68 = .ok (.invokevirtual 9, 3) := by decide +kernel
theorem dX3_doTurn_71 : decode cX3_doTurn 71 = .ok (.pop, 1) := by decide +kernel
theorem dX3_doTurn_72 : decode cX3_doTurn 72 = .ok (.goto 62, 3) := by decide +kernel
theorem dX3_doTurn_75 : decode cX3_doTurn 75 = .ok (.aload_n 1, 1) := by decide +kernel
theorem dX3_doTurn_76 : decode cX3_doTurn 76 = .ok (.iload_n 2, 1) := by decide +kernel
theorem dX3_doTurn_77 : decode cX3_doTurn 77 = .ok (.bipush 40, 2) := by decide +kernel
theorem dX3_doTurn_79 : decode cX3_doTurn 79 = .ok (.irem, 1) := by decide +kernel
theorem dX3_doTurn_80 : decode cX3_doTurn 80 = .ok (.iconst 2, 1) := by decide +kernel
theorem dX3_doTurn_81 : decode cX3_doTurn 81 = .ok (.invokevirtual 15, 3) := by decide +kernel
theorem dX3_doTurn_84 : decode cX3_doTurn 84 = .ok (.pop, 1) := by decide +kernel
theorem dX3_doTurn_85 : decode cX3_doTurn 85 = .ok (.goto 49, 3) := by decide +kernel
theorem dX3_doTurn_88 : decode cX3_doTurn 88 = .ok (.aload_n 1, 1) := by decide +kernel
theorem dX3_doTurn_89 : decode cX3_doTurn 89 = .ok (.iload_n 2, 1) := by decide +kernel
theorem dX3_doTurn_90 : decode cX3_doTurn 90 = .ok (.bipush 80, 2) := by decide +kernel
theorem dX3_doTurn_92 : decode cX3_doTurn 92 = .ok (.irem, 1) := by decide +kernel
theorem dX3_doTurn_93 : decode cX3_doTurn 93 = .ok (.iload_n 2, 1) := by decide +kernel
theorem dX3_doTurn_94 : decode cX3_doTurn 94 = .ok (.sipush 128, 3) := by decide +kernel
theorem dX3_doTurn_97 : decode cX3_doTurn 97 = .ok (.idiv, 1) := by decide +kernel
theorem dX3_doTurn_98 : decode cX3_doTurn 98 = .ok (.iconst 3, 1) := by decide +kernel
theorem dX3_doTurn_99 : decode cX3_doTurn 99 = .ok (.irem, 1) := by decide +kernel
theorem dX3_doTurn_100 : decode cX3_doTurn 100 = .ok (.ifCond .eq 7, 3) := by decide +kernel
theorem dX3_doTurn_103 : decode cX3_doTurn 103 = .ok (.iconst 1, 1) := by decide +kernel
theorem dX3_doTurn_104 : decode cX3_doTurn 104 = .ok (.goto 4, 3) := by decide +kernel
theorem dX3_doTurn_107 : decode cX3_doTurn 107 = .ok (.iconst 0, 1) := by decide +kernel
theorem dX3_doTurn_108 : decode cX3_doTurn 108 = .ok (.invokevirtual 18, 3) := by decide +kernel
theorem dX3_doTurn_111 : decode cX3_doTurn 111 = .ok (.pop, 1) := by decide +kernel
theorem dX3_doTurn_112 : decode cX3_doTurn 112 = .ok (.goto 22, 3) := by decide +kernel
theorem dX3_doTurn_115 : decode cX3_doTurn 115 = .ok (.iload_n 2, 1) := by decide +kernel
theorem dX3_doTurn_116 : decode cX3_doTurn 116 = .ok (.aload_n 1, 1) := by decide +kernel
theorem dX3_doTurn_117 : decode cX3_doTurn 117 = .ok (.invokestatic 22, 3) := by decide +kernel
theorem dX3_doTurn_120 : decode cX3_doTurn 120 = .ok (.goto 14, 3) := by decide +kernel
theorem dX3_doTurn_123 : decode cX3_doTurn 123 = .ok (.aload_n 1, 1) := by decide +kernel
theorem dX3_doTurn_124 : decode cX3_doTurn 124 = .ok (.iconst 1, 1) := by decide +kernel
theorem dX3_doTurn_125 : decode cX3_doTurn 125 = .ok (.iload_n 2, 1) := by decide +kernel
theorem dX3_doTurn_126 : decode cX3_doTurn 126 = .ok (.bipush 9, 2) := by decide +kernel
theorem dX3_doTurn_128 : decode cX3_doTurn 128 = .ok (.irem, 1) := by decide +kernel
theorem dX3_doTurn_129 : decode cX3_doTurn 129 = .ok (.iadd, 1) := by decide +kernel
theorem dX3_doTurn_130 : decode cX3_doTurn 130 = .ok (.invokevirtual 28, 3) := by decide +kernel
theorem dX3_doTurn_133 : decode cX3_doTurn 133 = .ok (.pop, 1) := by decide +kernel
theorem dX3_doTurn_134 : decode cX3_doTurn 134 = .ok (.return_, 1) := by decide +kernel
set_option maxRecDepth 20000 in
theorem ggX3_changeRuleOrRoom_X4_changeSetting : GoodIn wsX3_changeRuleOrRoom wsX4_changeSetting := goodIn_r _ [4, 5, 6, 7, 8, 9, 10, 11, 12, 13, 2, 14, 15, 16, 17, 18, 19, 20, 21, 22, 23, 24, 25, 26, 27, 28] rfl (by decide +kernel)
set_option maxRecDepth 20000 in
theorem gX3_changeRuleOrRoom_X4_changeSetting_n32 : GoodIn wsX3_changeRuleOrRoom (wsX4_changeSetting) := ggX3_changeRuleOrRoom_X4_changeSetting
theorem dX3_changeRuleOrRoom_0 : decode cX3_changeRuleOrRoom 0 = .ok (.iload_n 0, 1) := by decide +kernel
theorem dX3_changeRuleOrRoom_1 : decode cX3_changeRuleOrRoom 1 = .ok (.iconst 4, 1) := by decide +kernel
theorem dX3_changeRuleOrRoom_2 : decode cX3_changeRuleOrRoom 2 = .ok (.idiv, 1) := by decide +kernel
theorem dX3_changeRuleOrRoom_3 : decode cX3_changeRuleOrRoom 3 = .ok (.iconst 2, 1) := by decide +kernel
theorem dX3_changeRuleOrRoom_4 : decode cX3_changeRuleOrRoom 4 = .ok (.irem, 1) := by decide +kernel
theorem dX3_changeRuleOrRoom_5 : decode cX3_changeRuleOrRoom 5 = .ok (.ifCond .ne 15, 3) := by decide +kernel
theorem dX3_changeRuleOrRoom_8 : decode cX3_changeRuleOrRoom 8 = .ok (.aload_n 1, 1) := by decide +kernel
theorem dX3_changeRuleOrRoom_9 : decode cX3_changeRuleOrRoom 9 = .ok (.iconst 0, 1) := by decide +kernel
theorem dX3_changeRuleOrRoom_10 : decode cX3_changeRuleOrRoom 10 = .ok (.iload_n 0, 1) := by decide +kernel
theorem dX3_changeRuleOrRoom_11 : decode cX3_changeRuleOrRoom 11 = .ok (.iconst 3, 1) := by decide +kernel
theorem dX3_changeRuleOrRoom_12 : decode cX3_changeRuleOrRoom 12 = .ok (.irem, 1) := by decide +kernel
theorem dX3_changeRuleOrRoom_13 : decode cX3_changeRuleOrRoom 13 = .ok (.invokevirtual 32, 3) := by decide +kernel
theorem dX3_changeRuleOrRoom_16 : decode cX3_changeRuleOrRoom 16 = .ok (.pop, 1) := by decide +kernel
theorem dX3_changeRuleOrRoom_17 : decode cX3_changeRuleOrRoom 17 = .ok (.goto 15, 3) := by decide +kernel
theorem dX3_changeRuleOrRoom_20 : decode cX3_changeRuleOrRoom 20 = .ok (.aload_n 1, 1) := by decide +kernel
theorem dX3_changeRuleOrRoom_21 : decode cX3_changeRuleOrRoom 21 = .ok (.iconst 1, 1) := by decide +kernel
theorem dX3_changeRuleOrRoom_22 : decode cX3_changeRuleOrRoom 22 = .ok (.iload_n 0, 1) := by decide +kernel
theorem dX3_changeRuleOrRoom_23 : decode cX3_changeRuleOrRoom 23 = .ok (.bipush 8, 2) := by decide +kernel
theorem dX3_changeRuleOrRoom_25 : decode cX3_changeRuleOrRoom 25 = .ok (.idiv, 1) := by decide +kernel
theorem dX3_changeRuleOrRoom_26 : decode cX3_changeRuleOrRoom 26 = .ok (.iconst 5, 1) := by decide +kernel
theorem dX3_changeRuleOrRoom_27 : decode cX3_changeRuleOrRoom 27 = .ok (.irem, 1) := by decide +kernel
theorem dX3_changeRuleOrRoom_28 : decode cX3_changeRuleOrRoom 28 = .ok (.invokevirtual 32, 3) := by decide +kernel
theorem dX3_changeRuleOrRoom_31 : decode cX3_changeRuleOrRoom 31 = .ok (.pop, 1) := by decide +kernel
theorem dX3_changeRuleOrRoom_32 : decode cX3_changeRuleOrRoom 32 = .ok (.return_, 1) := by decide +kernel
set_option maxRecDepth 20000 in
theorem ggX4_init_X4_makeNew : GoodIn wsX4_init wsX4_makeNew := goodIn_r _ [17, 5, 18, 19, 20, 21, 22, 23, 24, 25, 26, 27, 28, 29, 30, 16, 31, 6, 32, 33, 34, 35, 36, 37, 38, 39, 40, 41, 42, 43, 44, 45] rfl (by decide +kernel)
set_option maxRecDepth 20000 in
theorem gX4_init_X4_makeNew : GoodIn wsX4_init (wsV RX4 36 RX4 yX4_makeNew wsX4_makeNew) := goodIn_app (goodIn_r _ [13, 14, 15, 16] rfl (by decide +kernel)) ggX4_init_X4_makeNew
theorem dX4_init_0 : decode cX4_init 0 = .ok (.aload_n 0, 1) := by decide +kernel
theorem dX4_init_1 : decode cX4_init 1 = .ok (.invokespecial 3, 3) := by decide +kernel
theorem dX4_init_4 : decode cX4_init 4 = .ok (.aload_n 0, 1) := by decide +kernel
theorem dX4_init_5 : decode cX4_init 5 = .ok (.bipush 80, 2) := by decide +kernel
theorem dX4_init_7 : decode cX4_init 7 = .ok (.newarray .int, 2) := by decide +kernel
theorem dX4_init_9 : decode cX4_init 9 = .ok (.putfield 9, 3) := by decide +kernel
theorem dX4_init_12 : decode cX4_init 12 = .ok (.aload_n 0, 1) := by decide +kernel
theorem dX4_init_13 : decode cX4_init 13 = .ok (.bipush 80, 2) := by decide +kernel
theorem dX4_init_15 : decode cX4_init 15 = .ok (.newarray .int, 2) := by decide +kernel
theorem dX4_init_17 : decode cX4_init 17 = .ok (.putfield 15, 3) := by decide +kernel
theorem dX4_init_20 : decode cX4_init 20 = .ok (.aload_n 0, 1) := by decide +kernel
theorem dX4_init_21 : decode cX4_init 21 = .ok (.bipush 40, 2) := by decide +kernel
theorem dX4_init_23 : decode cX4_init 23 = .ok (.newarray .int, 2) := by decide +kernel
theorem dX4_init_25 : decode cX4_init 25 = .ok (.putfield 18, 3) := by decide +kernel
theorem dX4_init_28 : decode cX4_init 28 = .ok (.aload_n 0, 1) := by decide +kernel
theorem dX4_init_29 : decode cX4_init 29 = .ok (.bipush 40, 2) := by decide +kernel
theorem dX4_init_31 : decode cX4_init 31 = .ok (.newarray .int, 2) := by decide +kernel
theorem dX4_init_33 : decode cX4_init 33 = .ok (.putfield 21, 3) := by decide +kernel
theorem dX4_init_36 : decode cX4_init 36 = .ok (.aload_n 0, 1) := by decide +kernel
theorem dX4_init_37 : decode cX4_init 37 = .ok (.bipush 40, 2) := by decide +kernel
theorem dX4_init_39 : decode cX4_init 39 = .ok (.newarray .int, 2) := by decide +kernel
theorem dX4_init_41 : decode cX4_init 41 = .ok (.putfield 24, 3) := by decide +kernel
theorem dX4_init_44 : decode cX4_init 44 = .ok (.aload_n 0, 1) := by decide +kernel
theorem dX4_init_45 : decode cX4_init 45 = .ok (.bipush 40, 2) := by decide +kernel
theorem dX4_init_47 : decode cX4_init 47 = .ok (.newarray .int, 2) := by decide +kernel
theorem dX4_init_49 : decode cX4_init 49 = .ok (.putfield 27, 3) := by decide +kernel
theorem dX4_init_52 : decode cX4_init 52 = .ok (.aload_n 0, 1) := by decide +kernel
theorem dX4_init_53 : decode cX4_init 53 = .ok (.bipush 40, 2) := by decide +kernel
theorem dX4_init_55 : decode cX4_init 55 = .ok (.newarray .int, 2) := by decide +kernel
theorem dX4_init_57 : decode cX4_init 57 = .ok (.putfield 30, 3) := by decide +kernel
theorem dX4_init_60 : decode cX4_init 60 = .ok (.aload_n 0, 1) := by decide +kernel
theorem dX4_init_61 : decode cX4_init 61 = .ok (.bipush 40, 2) := by decide +kernel
theorem dX4_init_63 : decode cX4_init 63 = .ok (.newarray .int, 2) := by decide +kernel
theorem dX4_init_65 : decode cX4_init 65 = .ok (.putfield 33, 3) := by decide +kernel
theorem dX4_init_68 : decode cX4_init 68 = .ok (.aload_n 0, 1) := by decide +kernel
theorem dX4_init_69 : decode cX4_init 69 = .ok (.invokevirtual 36, 3) := by decide +kernel
theorem dX4_init_72 : decode cX4_init 72 = .ok (.return_, 1) := by decide +kernel
set_option maxRecDepth 20000 in
theorem ggX4_makeNew_J7_fill_53178 : GoodIn wsX4_makeNew wsJ7_fill_53178 := goodIn_r _ [11] rfl (by decide +kernel)
set_option maxRecDepth 20000 in
theorem gX4_makeNew_J7_fill_53178 : GoodIn wsX4_makeNew (va_wsS RX4 39 yJ7_fill_53178 wsJ7_fill_53178) := goodIn_app (goodIn_r _ [8, 9, 10] rfl (by decide +kernel)) ggX4_makeNew_J7_fill_53178
set_option maxRecDepth 20000 in
theorem ggX4_makeNew_X4_findGaps : GoodIn wsX4_makeNew wsX4_findGaps := goodIn_r _ [16, 1, 17, 18, 19, 20, 21, 22, 23, 24, 25, 26, 27, 28, 29, 30, 31] rfl (by decide +kernel)
set_option maxRecDepth 20000 in
theorem gX4_makeNew_X4_findGaps : GoodIn wsX4_makeNew (wsV RX4 45 RX4 yX4_findGaps wsX4_findGaps) := goodIn_app (goodIn_r _ [12, 13, 14, 15] rfl (by decide +kernel)) ggX4_makeNew_X4_findGaps
theorem dX4_makeNew_0 : decode cX4_makeNew 0 = .ok (.aload_n 0, 1) := by decide +kernel
theorem dX4_makeNew_1 : decode cX4_makeNew 1 = .ok (.getfield 9, 3) := by decide +kernel
theorem dX4_makeNew_4 : decode cX4_makeNew 4 = .ok (.iconst (-1), 1) := by decide +kernel
theorem dX4_makeNew_5 : decode cX4_makeNew 5 = .ok (.invokestatic 39, 3) := by decide +kernel
theorem dX4_makeNew_8 : decode cX4_makeNew 8 = .ok (.aload_n 0, 1) := by decide +kernel
theorem dX4_makeNew_9 : decode cX4_makeNew 9 = .ok (.invokevirtual 45, 3) := by decide +kernel
theorem dX4_makeNew_12 : decode cX4_makeNew 12 = .ok (.aload_n 0, 1) := by decide +kernel
theorem dX4_makeNew_13 : decode cX4_makeNew 13 = .ok (.iconst 0, 1) := by decide +kernel
theorem dX4_makeNew_14 : decode cX4_makeNew 14 = .ok (.putfield 48, 3) := by decide +kernel
theorem dX4_makeNew_17 : decode cX4_makeNew 17 = .ok (.aload_n 0, 1) := by decide +kernel
theorem dX4_makeNew_18 : decode cX4_makeNew 18 = .ok (.iconst 0, 1) := by decide +kernel
theorem dX4_makeNew_19 : decode cX4_makeNew 19 = .ok (.putfield 52, 3) := by decide +kernel
theorem dX4_makeNew_22 : decode cX4_makeNew 22 = .ok (.aload_n 0, 1) := by decide +kernel
theorem dX4_makeNew_23 : decode cX4_makeNew 23 = .ok (.lconst 1, 1) := by decide +kernel
theorem dX4_makeNew_24 : decode cX4_makeNew 24 = .ok (.putfield 55, 3) := by decide +kernel
theorem dX4_makeNew_27 : decode cX4_makeNew 27 = .ok (.aload_n 0, 1) := by decide +kernel
theorem dX4_makeNew_28 : decode cX4_makeNew 28 = .ok (.iconst 0, 1) := by decide +kernel
theorem dX4_makeNew_29 : decode cX4_makeNew 29 = .ok (.putfield 59, 3) := by decide +kernel
theorem dX4_makeNew_32 : decode cX4_makeNew 32 = .ok (.aload_n 0, 1) := by decide +kernel
theorem dX4_makeNew_33 : decode cX4_makeNew 33 = .ok (.iconst 1, 1) := by decide +kernel
theorem dX4_makeNew_34 : decode cX4_makeNew 34 = .ok (.putfield 62, 3) := by decide +kernel
theorem dX4_makeNew_37 : decode cX4_makeNew 37 = .ok (.aload_n 0, 1) := by decide +kernel
theorem dX4_makeNew_38 : decode cX4_makeNew 38 = .ok (.iconst 5, 1) := by decide +kernel
theorem dX4_makeNew_39 : decode cX4_makeNew 39 = .ok (.putfield 65, 3) := by decide +kernel
theorem dX4_makeNew_42 : decode cX4_makeNew 42 = .ok (.return_, 1) := by decide +kernel
set_option maxRecDepth 20000 in
theorem ggX4_copyFrom_X6_copyRow : GoodIn wsX4_copyFrom wsX6_copyRow := goodIn_r _ [17, 18, 19, 20, 21] rfl (by decide +kernel)
set_option maxRecDepth 20000 in
theorem gX4_copyFrom_X6_copyRow_n68 : GoodIn wsX4_copyFrom (wsX6_copyRow) := ggX4_copyFrom_X6_copyRow
theorem dX4_copyFrom_0 : decode cX4_copyFrom 0 = .ok (.aload_n 1, 1) := by decide +kernel
theorem dX4_copyFrom_1 : decode cX4_copyFrom 1 = .ok (.ifnonnull 4, 3) := by decide +kernel
theorem dX4_copyFrom_4 : decode cX4_copyFrom 4 = .ok (.return_, 1) := by decide +kernel
theorem dX4_copyFrom_5 : decode cX4_copyFrom 5 = .ok (.aload_n 1, 1) := by decide +kernel
theorem dX4_copyFrom_6 : decode cX4_copyFrom 6 = .ok (.getfield 9, 3) := by decide +kernel
theorem dX4_copyFrom_9 : decode cX4_copyFrom 9 = .ok (.aload_n 0, 1) := by decide +kernel
theorem dX4_copyFrom_10 : decode cX4_copyFrom 10 = .ok (.getfield 9, 3) := by decide +kernel
theorem dX4_copyFrom_13 : decode cX4_copyFrom 13 = .ok (.invokestatic 68, 3) := by decide +kernel
theorem dX4_copyFrom_16 : decode cX4_copyFrom 16 = .ok (.aload_n 1, 1) := by decide +kernel
theorem dX4_copyFrom_17 : decode cX4_copyFrom 17 = .ok (.getfield 15, 3) := by decide +kernel
theorem dX4_copyFrom_20 : decode cX4_copyFrom 20 = .ok (.aload_n 0, 1) := by decide +kernel
theorem dX4_copyFrom_21 : decode cX4_copyFrom 21 = .ok (.getfield 15, 3) := by decide +kernel
theorem dX4_copyFrom_24 : decode cX4_copyFrom 24 = .ok (.invokestatic 68, 3) := by decide +kernel
theorem dX4_copyFrom_27 : decode cX4_copyFrom 27 = .ok (.aload_n 1, 1) := by decide +kernel
theorem dX4_copyFrom_28 : decode cX4_copyFrom 28 = .ok (.getfield 18, 3) := by decide +kernel
theorem dX4_copyFrom_31 : decode cX4_copyFrom 31 = .ok (.aload_n 0, 1) := by decide +kernel
theorem dX4_copyFrom_32 : decode cX4_copyFrom 32 = .ok (.getfield 18, 3) := by decide +kernel
theorem dX4_copyFrom_35 : decode cX4_copyFrom 35 = .ok (.invokestatic 68, 3) := by decide +kernel
theorem dX4_copyFrom_38 : decode cX4_copyFrom 38 = .ok (.aload_n 1, 1) := by decide +kernel
theorem dX4_copyFrom_39 : decode cX4_copyFrom 39 = .ok (.getfield 21, 3) := by decide +kernel
theorem dX4_copyFrom_42 : decode cX4_copyFrom 42 = .ok (.aload_n 0, 1) := by decide +kernel
theorem dX4_copyFrom_43 : decode cX4_copyFrom 43 = .ok (.getfield 21, 3) := by decide +kernel
theorem dX4_copyFrom_46 : decode cX4_copyFrom 46 = .ok (.invokestatic 68, 3) := by decide +kernel
theorem dX4_copyFrom_49 : decode cX4_copyFrom 49 = .ok (.aload_n 1, 1) := by decide +kernel
theorem dX4_copyFrom_50 : decode cX4_copyFrom 50 = .ok (.getfield 24, 3) := by decide +kernel
theorem dX4_copyFrom_53 : decode cX4_copyFrom 53 = .ok (.aload_n 0, 1) := by decide +kernel
theorem dX4_copyFrom_54 : decode cX4_copyFrom 54 = .ok (.getfield 24, 3) := by decide +kernel
theorem dX4_copyFrom_57 : decode cX4_copyFrom 57 = .ok (.invokestatic 68, 3) := by decide +kernel
theorem dX4_copyFrom_60 : decode cX4_copyFrom 60 = .ok (.aload_n 1, 1) := by decide +kernel
theorem dX4_copyFrom_61 : decode cX4_copyFrom 61 = .ok (.getfield 27, 3) := by decide +kernel
theorem dX4_copyFrom_64 : decode cX4_copyFrom 64 = .ok (.aload_n 0, 1) := by decide +kernel
theorem dX4_copyFrom_65 : decode cX4_copyFrom 65 = .ok (.getfield 27, 3) := by decide +kernel
theorem dX4_copyFrom_68 : decode cX4_copyFrom 68 = .ok (.invokestatic 68, 3) := by decide +kernel
theorem dX4_copyFrom_71 : decode cX4_copyFrom 71 = .ok (.aload_n 1, 1) := by decide +kernel
theorem dX4_copyFrom_72 : decode cX4_copyFrom 72 = .ok (.getfield 30, 3) := by decide +kernel
theorem dX4_copyFrom_75 : decode cX4_copyFrom 75 = .ok (.aload_n 0, 1) := by decide +kernel
theorem dX4_copyFrom_76 : decode cX4_copyFrom 76 = .ok (.getfield 30, 3) := by decide +kernel
theorem dX4_copyFrom_79 : decode cX4_copyFrom 79 = .ok (.invokestatic 68, 3) := by decide +kernel
theorem dX4_copyFrom_82 : decode cX4_copyFrom 82 = .ok (.aload_n 1, 1) := by decide +kernel
theorem dX4_copyFrom_83 : decode cX4_copyFrom 83 = .ok (.getfield 33, 3) := by decide +kernel
theorem dX4_copyFrom_86 : decode cX4_copyFrom 86 = .ok (.aload_n 0, 1) := by decide +kernel
theorem dX4_copyFrom_87 : decode cX4_copyFrom 87 = .ok (.getfield 33, 3) := by decide +kernel
theorem dX4_copyFrom_90 : decode cX4_copyFrom 90 = .ok (.invokestatic 68, 3) := by decide +kernel
theorem dX4_copyFrom_93 : decode cX4_copyFrom 93 = .ok (.aload_n 0, 1) := by decide +kernel
theorem dX4_copyFrom_94 : decode cX4_copyFrom 94 = .ok (.aload_n 1, 1) := by decide +kernel
theorem dX4_copyFrom_95 : decode cX4_copyFrom 95 = .ok (.getfield 48, 3) := by decide +kernel
theorem dX4_copyFrom_98 : decode cX4_copyFrom 98 = .ok (.putfield 48, 3) := by decide +kernel
theorem dX4_copyFrom_101 : decode cX4_copyFrom 101 = .ok (.aload_n 0, 1) := by decide +kernel
theorem dX4_copyFrom_102 : decode cX4_copyFrom 102 = .ok (.aload_n 1, 1) := by decide +kernel
theorem dX4_copyFrom_103 : decode cX4_copyFrom 103 = .ok (.getfield 52, 3) := by decide +kernel
theorem dX4_copyFrom_106 : decode cX4_copyFrom 106 = .ok (.putfield 52, 3) := by decide +kernel
theorem dX4_copyFrom_109 : decode cX4_copyFrom 109 = .ok (.aload_n 0, 1) := by decide +kernel
theorem dX4_copyFrom_110 : decode cX4_copyFrom 110 = .ok (.aload_n 1, 1) := by decide +kernel
theorem dX4_copyFrom_111 : decode cX4_copyFrom 111 = .ok (.getfield 55, 3) := by decide +kernel
theorem dX4_copyFrom_114 : decode cX4_copyFrom 114 = .ok (.putfield 55, 3) := by decide +kernel
theorem dX4_copyFrom_117 : decode cX4_copyFrom 117 = .ok (.aload_n 0, 1) := by decide +kernel
theorem dX4_copyFrom_118 : decode cX4_copyFrom 118 = .ok (.aload_n 1, 1) := by decide +kernel
theorem dX4_copyFrom_119 : decode cX4_copyFrom 119 = .ok (.getfield 59, 3) := by decide +kernel
theorem dX4_copyFrom_122 : decode cX4_copyFrom 122 = .ok (.putfield 59, 3) := by decide +kernel
theorem dX4_copyFrom_125 : decode cX4_copyFrom 125 = .ok (.aload_n 0, 1) := by decide +kernel
theorem dX4_copyFrom_126 : decode cX4_copyFrom 126 = .ok (.aload_n 1, 1) := by decide +kernel
theorem dX4_copyFrom_127 : decode cX4_copyFrom 127 = .ok (.getfield 62, 3) := by decide +kernel
theorem dX4_copyFrom_130 : decode cX4_copyFrom 130 = .ok (.putfield 62, 3) := by decide +kernel
theorem dX4_copyFrom_133 : decode cX4_copyFrom 133 = .ok (.aload_n 0, 1) := by decide +kernel
theorem dX4_copyFrom_134 : decode cX4_copyFrom 134 = .ok (.aload_n 1, 1) := by decide +kernel
theorem dX4_copyFrom_135 : decode cX4_copyFrom 135 = .ok (.getfield 65, 3) := by decide +kernel
theorem dX4_copyFrom_138 : decode cX4_copyFrom 138 = .ok (.putfield 65, 3) := by decide +kernel
theorem dX4_copyFrom_141 : decode cX4_copyFrom 141 = .ok (.return_, 1) := by decide +kernel
theorem dX4_settingOf_0 : decode cX4_settingOf 0 = .ok (.iload_n 1, 1) := by decide +kernel
theorem dX4_settingOf_1 : decode cX4_settingOf 1 = .ok (.tableswitch 42 0 2 #[27, 32, 37], 27) := by decide +kernel
theorem dX4_settingOf_28 : decode cX4_settingOf 28 = .ok (.aload_n 0, 1) := by decide +kernel
theorem dX4_settingOf_29 : decode cX4_settingOf 29 = .ok (.getfield 59, 3) := by decide +kernel
theorem dX4_settingOf_32 : decode cX4_settingOf 32 = .ok (.ireturn, 1) := by decide +kernel
theorem dX4_settingOf_33 : decode cX4_settingOf 33 = .ok (.aload_n 0, 1) := by decide +kernel
theorem dX4_settingOf_34 : decode cX4_settingOf 34 = .ok (.getfield 62, 3) := by decide +kernel
theorem dX4_settingOf_37 : decode cX4_settingOf 37 = .ok (.ireturn, 1) := by decide +kernel
theorem dX4_settingOf_38 : decode cX4_settingOf 38 = .ok (.aload_n 0, 1) := by decide +kernel
theorem dX4_settingOf_39 : decode cX4_settingOf 39 = .ok (.getfield 65, 3) := by decide +kernel
theorem dX4_settingOf_42 : decode cX4_settingOf 42 = .ok (.ireturn, 1) := by decide +kernel
theorem dX4_settingOf_43 : decode cX4_settingOf 43 = .ok (.iconst (-1), 1) := by decide +kernel
theorem dX4_settingOf_44 : decode cX4_settingOf 44 = .ok (.ireturn, 1) := by decide +kernel
set_option maxRecDepth 20000 in
theorem ggX4_changeSetting_X6_isSettingValue : GoodIn wsX4_changeSetting wsX6_isSettingValue := goodIn_r _ [6] rfl (by decide +kernel)
set_option maxRecDepth 20000 in
theorem gX4_changeSetting_X6_isSettingValue_n72 : GoodIn wsX4_changeSetting (wsX6_isSettingValue) := ggX4_changeSetting_X6_isSettingValue
set_option maxRecDepth 20000 in
theorem ggX4_changeSetting_X4_settingOf : GoodIn wsX4_changeSetting wsX4_settingOf := goodIn_r _ [11, 1, 2, 3, 12, 13, 14, 15, 16, 17, 18, 19, 20, 21, 22, 23, 24, 25] rfl (by decide +kernel)
set_option maxRecDepth 20000 in
theorem gX4_changeSetting_X4_settingOf : GoodIn wsX4_changeSetting (wsV RX4 76 RX4 yX4_settingOf wsX4_settingOf) := goodIn_app (goodIn_r _ [7, 8, 9, 10] rfl (by decide +kernel)) ggX4_changeSetting_X4_settingOf
theorem dX4_changeSetting_0 : decode cX4_changeSetting 0 = .ok (.iload_n 1, 1) := by decide +kernel
theorem dX4_changeSetting_1 : decode cX4_changeSetting 1 = .ok (.iload_n 2, 1) := by decide +kernel
theorem dX4_changeSetting_2 : decode cX4_changeSetting 2 = .ok (.invokestatic 72, 3) := by decide +kernel
theorem dX4_changeSetting_5 : decode cX4_changeSetting 5 = .ok (.ifCond .ne 5, 3) := by decide +kernel
theorem dX4_changeSetting_8 : decode cX4_changeSetting 8 = .ok (.iconst (-1), 1) := by decide +kernel
theorem dX4_changeSetting_9 : decode cX4_changeSetting 9 = .ok (.ireturn, 1) := by decide +kernel
theorem dX4_changeSetting_10 : decode cX4_changeSetting 10 = .ok (.aload_n 0, 1) := by decide +kernel
theorem dX4_changeSetting_11 : decode cX4_changeSetting 11 = .ok (.iload_n 1, 1) := by decide +kernel
theorem dX4_changeSetting_12 : decode cX4_changeSetting 12 = .ok (.invokevirtual 76, 3) := by decide +kernel
theorem dX4_changeSetting_15 : decode cX4_changeSetting 15 = .ok (.istore_n 3, 1) := by decide +kernel
theorem dX4_changeSetting_16 : decode cX4_changeSetting 16 = .ok (.iload_n 1, 1) := by decide +kernel
theorem dX4_changeSetting_17 : decode cX4_changeSetting 17 = .ok (.ifCond .ne 11, 3) := by decide +kernel
theorem dX4_changeSetting_20 : decode cX4_changeSetting 20 = .ok (.aload_n 0, 1) := by decide +kernel
theorem dX4_changeSetting_21 : decode cX4_changeSetting 21 = .ok (.iload_n 2, 1) := by decide +kernel
theorem dX4_changeSetting_22 : decode cX4_changeSetting 22 = .ok (.putfield 59, 3) := by decide +kernel
theorem dX4_changeSetting_25 : decode cX4_changeSetting 25 = .ok (.goto 21, 3) := by decide +kernel
theorem dX4_changeSetting_28 : decode cX4_changeSetting 28 = .ok (.iload_n 1, 1) := by decide +kernel
theorem dX4_changeSetting_29 : decode cX4_changeSetting 29 = .ok (.iconst 1, 1) := by decide +kernel
theorem dX4_changeSetting_30 : decode cX4_changeSetting 30 = .ok (.if_icmp .ne 11, 3) := by decide +kernel
theorem dX4_changeSetting_33 : decode cX4_changeSetting 33 = .ok (.aload_n 0, 1) := by decide +kernel
theorem dX4_changeSetting_34 : decode cX4_changeSetting 34 = .ok (.iload_n 2, 1) := by decide +kernel
theorem dX4_changeSetting_35 : decode cX4_changeSetting 35 = .ok (.putfield 62, 3) := by decide +kernel
theorem dX4_changeSetting_38 : decode cX4_changeSetting 38 = .ok (.goto 8, 3) := by decide +kernel
theorem dX4_changeSetting_41 : decode cX4_changeSetting 41 = .ok (.aload_n 0, 1) := by decide +kernel
theorem dX4_changeSetting_42 : decode cX4_changeSetting 42 = .ok (.iload_n 2, 1) := by decide +kernel
theorem dX4_changeSetting_43 : decode cX4_changeSetting 43 = .ok (.putfield 65, 3) := by decide +kernel
theorem dX4_changeSetting_46 : decode cX4_changeSetting 46 = .ok (.iload_n 3, 1) := by decide +kernel
theorem dX4_changeSetting_47 : decode cX4_changeSetting 47 = .ok (.ireturn, 1) := by decide +kernel
set_option maxRecDepth 20000 in
theorem ggX4_isFree_X6_isCell : GoodIn wsX4_isFree wsX6_isCell := goodIn_r _ [4] rfl (by decide +kernel)
set_option maxRecDepth 20000 in
theorem gX4_isFree_X6_isCell_n80 : GoodIn wsX4_isFree (wsX6_isCell) := ggX4_isFree_X6_isCell
set_option maxRecDepth 20000 in
theorem ggX4_isFree_X6_get : GoodIn wsX4_isFree wsX6_get := goodIn_r _ [6] rfl (by decide +kernel)
set_option maxRecDepth 20000 in
theorem gX4_isFree_X6_get_n84 : GoodIn wsX4_isFree (wsX6_get) := ggX4_isFree_X6_get
theorem dX4_isFree_0 : decode cX4_isFree 0 = .ok (.iload_n 1, 1) := by decide +kernel
theorem dX4_isFree_1 : decode cX4_isFree 1 = .ok (.invokestatic 80, 3) := by decide +kernel
theorem dX4_isFree_4 : decode cX4_isFree 4 = .ok (.ifCond .eq 19, 3) := by decide +kernel
theorem dX4_isFree_7 : decode cX4_isFree 7 = .ok (.aload_n 0, 1) := by decide +kernel
theorem dX4_isFree_8 : decode cX4_isFree 8 = .ok (.getfield 9, 3) := by decide +kernel
theorem dX4_isFree_11 : decode cX4_isFree 11 = .ok (.iload_n 1, 1) := by decide +kernel
theorem dX4_isFree_12 : decode cX4_isFree 12 = .ok (.invokestatic 84, 3) := by decide +kernel
theorem dX4_isFree_15 : decode cX4_isFree 15 = .ok (.iconst (-1), 1) := by decide +kernel
theorem dX4_isFree_16 : decode cX4_isFree 16 = .ok (.if_icmp .ne 7, 3) := by decide +kernel
theorem dX4_isFree_19 : decode cX4_isFree 19 = .ok (.iconst 1, 1) := by decide +kernel
theorem dX4_isFree_20 : decode cX4_isFree 20 = .ok (.goto 4, 3) := by decide +kernel
theorem dX4_isFree_23 : decode cX4_isFree 23 = .ok (.iconst 0, 1) := by decide +kernel
theorem dX4_isFree_24 : decode cX4_isFree 24 = .ok (.ireturn, 1) := by decide +kernel
theorem dX4_cellsWith_0 : decode cX4_cellsWith 0 = .ok (.iconst 0, 1) := by decide +kernel
theorem dX4_cellsWith_1 : decode cX4_cellsWith 1 = .ok (.istore_n 2, 1) := by decide +kernel
theorem dX4_cellsWith_2 : decode cX4_cellsWith 2 = .ok (.iconst 0, 1) := by decide +kernel
theorem dX4_cellsWith_3 : decode cX4_cellsWith 3 = .ok (.istore_n 3, 1) := by decide +kernel
theorem dX4_cellsWith_4 : decode cX4_cellsWith 4 = .ok (.iload_n 3, 1) := by decide +kernel
theorem dX4_cellsWith_5 : decode cX4_cellsWith 5 = .ok (.aload_n 0, 1) := by decide +kernel
theorem dX4_cellsWith_6 : decode cX4_cellsWith 6 = .ok (.getfield 9, 3) := by decide +kernel
theorem dX4_cellsWith_9 : decode cX4_cellsWith 9 = .ok (.arraylength, 1) := by decide +kernel
theorem dX4_cellsWith_10 : decode cX4_cellsWith 10 = .ok (.if_icmp .ge 22, 3) := by decide +kernel
theorem dX4_cellsWith_13 : decode cX4_cellsWith 13 = .ok (.aload_n 0, 1) := by decide +kernel
theorem dX4_cellsWith_14 : decode cX4_cellsWith 14 = .ok (.getfield 9, 3) := by decide +kernel
theorem dX4_cellsWith_17 : decode cX4_cellsWith 17 = .ok (.iload_n 3, 1) := by decide +kernel
theorem dX4_cellsWith_18 : decode cX4_cellsWith 18 = .ok (.iaload, 1) := by decide +kernel
theorem dX4_cellsWith_19 : decode cX4_cellsWith 19 = .ok (.iload_n 1, 1) := by decide +kernel
theorem dX4_cellsWith_20 : decode cX4_cellsWith 20 = .ok (.if_icmp .ne 6, 3) := by decide +kernel
theorem dX4_cellsWith_23 : decode cX4_cellsWith 23 = .ok (.iinc 2 1, 3) := by decide +kernel
theorem dX4_cellsWith_26 : decode cX4_cellsWith 26 = .ok (.iinc 3 1, 3) := by decide +kernel
theorem dX4_cellsWith_29 : decode cX4_cellsWith 29 = .ok (.goto (-25), 3) := by decide +kernel
theorem dX4_cellsWith_32 : decode cX4_cellsWith 32 = .ok (.iload_n 2, 1) := by decide +kernel
theorem dX4_cellsWith_33 : decode cX4_cellsWith 33 = .ok (.ireturn, 1) := by decide +kernel
theorem dX4_findGaps_0 : decode cX4_findGaps 0 = .ok (.iconst 0, 1) := by decide +kernel
theorem dX4_findGaps_1 : decode cX4_findGaps 1 = .ok (.istore_n 1, 1) := by decide +kernel
theorem dX4_findGaps_2 : decode cX4_findGaps 2 = .ok (.iconst 0, 1) := by decide +kernel
theorem dX4_findGaps_3 : decode cX4_findGaps 3 = .ok (.istore_n 2, 1) := by decide +kernel
theorem dX4_findGaps_4 : decode cX4_findGaps 4 = .ok (.iload_n 2, 1) := by decide +kernel
theorem dX4_findGaps_5 : decode cX4_findGaps 5 = .ok (.aload_n 0, 1) := by decide +kernel
theorem dX4_findGaps_6 : decode cX4_findGaps 6 = .ok (.getfield 9, 3) := by decide +kernel
theorem dX4_findGaps_9 : decode cX4_findGaps 9 = .ok (.arraylength, 1) := by decide +kernel
theorem dX4_findGaps_10 : decode cX4_findGaps 10 = .ok (.if_icmp .ge 65, 3) := by decide +kernel
theorem dX4_findGaps_13 : decode cX4_findGaps 13 = .ok (.iload_n 2, 1) := by decide +kernel
theorem dX4_findGaps_14 : decode cX4_findGaps 14 = .ok (.aload_n 0, 1) := by decide +kernel
theorem dX4_findGaps_15 : decode cX4_findGaps 15 = .ok (.getfield 15, 3) := by decide +kernel
theorem dX4_findGaps_18 : decode cX4_findGaps 18 = .ok (.arraylength, 1) := by decide +kernel
theorem dX4_findGaps_19 : decode cX4_findGaps 19 = .ok (.if_icmp .ge 56, 3) := by decide +kernel
theorem dX4_findGaps_22 : decode cX4_findGaps 22 = .ok (.aload_n 0, 1) := by decide +kernel
theorem dX4_findGaps_23 : decode cX4_findGaps 23 = .ok (.getfield 15, 3) := by decide +kernel
theorem dX4_findGaps_26 : decode cX4_findGaps 26 = .ok (.iload_n 2, 1) := by decide +kernel
theorem dX4_findGaps_27 : decode cX4_findGaps 27 = .ok (.iconst 0, 1) := by decide +kernel
theorem dX4_findGaps_28 : decode cX4_findGaps 28 = .ok (.iastore, 1) := by decide +kernel
theorem dX4_findGaps_29 : decode cX4_findGaps 29 = .ok (.aload_n 0, 1) := by decide +kernel
theorem dX4_findGaps_30 : decode cX4_findGaps 30 = .ok (.getfield 9, 3) := by decide +kernel
theorem dX4_findGaps_33 : decode cX4_findGaps 33 = .ok (.iload_n 2, 1) := by decide +kernel
theorem dX4_findGaps_34 : decode cX4_findGaps 34 = .ok (.iaload, 1) := by decide +kernel
theorem dX4_findGaps_35 : decode cX4_findGaps 35 = .ok (.iconst (-1), 1) := by decide +kernel
theorem dX4_findGaps_36 : decode cX4_findGaps 36 = .ok (.if_icmp .eq 10, 3) := by decide +kernel
theorem dX4_findGaps_39 : decode cX4_findGaps 39 = .ok (.iload_n 2, 1) := by decide +kernel
theorem dX4_findGaps_40 : decode cX4_findGaps 40 = .ok (.iconst 1, 1) := by decide +kernel
theorem dX4_findGaps_41 : decode cX4_findGaps 41 = .ok (.iadd, 1) := by decide +kernel
theorem dX4_findGaps_42 : decode cX4_findGaps 42 = .ok (.istore_n 1, 1) := by decide +kernel
theorem dX4_findGaps_43 : decode cX4_findGaps 43 = .ok (.goto 26, 3) := by decide +kernel
theorem dX4_findGaps_46 : decode cX4_findGaps 46 = .ok (.iload_n 1, 1) := by decide +kernel
theorem dX4_findGaps_47 : decode cX4_findGaps 47 = .ok (.ifCond .lt 22, 3) := by decide +kernel
theorem dX4_findGaps_50 : decode cX4_findGaps 50 = .ok (.iload_n 1, 1) := by decide +kernel
theorem dX4_findGaps_51 : decode cX4_findGaps 51 = .ok (.aload_n 0, 1) := by decide +kernel
theorem dX4_findGaps_52 : decode cX4_findGaps 52 = .ok (.getfield 15, 3) := by decide +kernel
theorem dX4_findGaps_55 : decode cX4_findGaps 55 = .ok (.arraylength, 1) := by decide +kernel
theorem dX4_findGaps_56 : decode cX4_findGaps 56 = .ok (.if_icmp .ge 13, 3) := by decide +kernel
theorem dX4_findGaps_59 : decode cX4_findGaps 59 = .ok (.aload_n 0, 1) := by decide +kernel
theorem dX4_findGaps_60 : decode cX4_findGaps 60 = .ok (.getfield 15, 3) := by decide +kernel
theorem dX4_findGaps_63 : decode cX4_findGaps 63 = .ok (.iload_n 1, 1) := by decide +kernel
theorem dX4_findGaps_64 : decode cX4_findGaps 64 = .ok (.dup2, 1) := by decide +kernel
theorem dX4_findGaps_65 : decode cX4_findGaps 65 = .ok (.iaload, 1) := by decide +kernel
theorem dX4_findGaps_66 : decode cX4_findGaps 66 = .ok (.iconst 1, 1) := by decide +kernel
theorem dX4_findGaps_67 : decode cX4_findGaps 67 = .ok (.iadd, 1) := by decide +kernel
theorem dX4_findGaps_68 : decode cX4_findGaps 68 = .ok (.iastore, 1) := by decide +kernel
theorem dX4_findGaps_69 : decode cX4_findGaps 69 = .ok (.iinc 2 1, 3) := by decide +kernel
theorem dX4_findGaps_72 : decode cX4_findGaps 72 = .ok (.goto (-68), 3) := by decide +kernel
theorem dX4_findGaps_75 : decode cX4_findGaps 75 = .ok (.return_, 1) := by decide +kernel
theorem dX4_gapCount_0 : decode cX4_gapCount 0 = .ok (.iconst 0, 1) := by decide +kernel
theorem dX4_gapCount_1 : decode cX4_gapCount 1 = .ok (.istore_n 1, 1) := by decide +kernel
theorem dX4_gapCount_2 : decode cX4_gapCount 2 = .ok (.iconst 0, 1) := by decide +kernel
theorem dX4_gapCount_3 : decode cX4_gapCount 3 = .ok (.istore_n 2, 1) := by decide +kernel
theorem dX4_gapCount_4 : decode cX4_gapCount 4 = .ok (.iload_n 2, 1) := by decide +kernel
theorem dX4_gapCount_5 : decode cX4_gapCount 5 = .ok (.aload_n 0, 1) := by decide +kernel
theorem dX4_gapCount_6 : decode cX4_gapCount 6 = .ok (.getfield 15, 3) := by decide +kernel
theorem dX4_gapCount_9 : decode cX4_gapCount 9 = .ok (.arraylength, 1) := by decide +kernel
theorem dX4_gapCount_10 : decode cX4_gapCount 10 = .ok (.if_icmp .ge 21, 3) := by decide +kernel
theorem dX4_gapCount_13 : decode cX4_gapCount 13 = .ok (.aload_n 0, 1) := by decide +kernel
theorem dX4_gapCount_14 : decode cX4_gapCount 14 = .ok (.getfield 15, 3) := by decide +kernel
theorem dX4_gapCount_17 : decode cX4_gapCount 17 = .ok (.iload_n 2, 1) := by decide +kernel
theorem dX4_gapCount_18 : decode cX4_gapCount 18 = .ok (.iaload, 1) := by decide +kernel
theorem dX4_gapCount_19 : decode cX4_gapCount 19 = .ok (.ifCond .le 6, 3) := by decide +kernel
theorem dX4_gapCount_22 : decode cX4_gapCount 22 = .ok (.iinc 1 1, 3) := by decide +kernel
theorem dX4_gapCount_25 : decode cX4_gapCount 25 = .ok (.iinc 2 1, 3) := by decide +kernel
theorem dX4_gapCount_28 : decode cX4_gapCount 28 = .ok (.goto (-24), 3) := by decide +kernel
theorem dX4_gapCount_31 : decode cX4_gapCount 31 = .ok (.iload_n 1, 1) := by decide +kernel
theorem dX4_gapCount_32 : decode cX4_gapCount 32 = .ok (.ireturn, 1) := by decide +kernel
theorem dX4_gapStart_0 : decode cX4_gapStart 0 = .ok (.iconst 0, 1) := by decide +kernel
theorem dX4_gapStart_1 : decode cX4_gapStart 1 = .ok (.istore_n 2, 1) := by decide +kernel
theorem dX4_gapStart_2 : decode cX4_gapStart 2 = .ok (.iconst 0, 1) := by decide +kernel
theorem dX4_gapStart_3 : decode cX4_gapStart 3 = .ok (.istore_n 3, 1) := by decide +kernel
theorem dX4_gapStart_4 : decode cX4_gapStart 4 = .ok (.iload_n 3, 1) := by decide +kernel
theorem dX4_gapStart_5 : decode cX4_gapStart 5 = .ok (.aload_n 0, 1) := by decide +kernel
theorem dX4_gapStart_6 : decode cX4_gapStart 6 = .ok (.getfield 15, 3) := by decide +kernel
theorem dX4_gapStart_9 : decode cX4_gapStart 9 = .ok (.arraylength, 1) := by decide +kernel
theorem dX4_gapStart_10 : decode cX4_gapStart 10 = .ok (.if_icmp .ge 28, 3) := by decide +kernel
theorem dX4_gapStart_13 : decode cX4_gapStart 13 = .ok (.aload_n 0, 1) := by decide +kernel
theorem dX4_gapStart_14 : decode cX4_gapStart 14 = .ok (.getfield 15, 3) := by decide +kernel
theorem dX4_gapStart_17 : decode cX4_gapStart 17 = .ok (.iload_n 3, 1) := by decide +kernel
theorem dX4_gapStart_18 : decode cX4_gapStart 18 = .ok (.iaload, 1) := by decide +kernel
theorem dX4_gapStart_19 : decode cX4_gapStart 19 = .ok (.ifCond .le 13, 3) := by decide +kernel
theorem dX4_gapStart_22 : decode cX4_gapStart 22 = .ok (.iload_n 2, 1) := by decide +kernel
theorem dX4_gapStart_23 : decode cX4_gapStart 23 = .ok (.iload_n 1, 1) := by decide +kernel
theorem dX4_gapStart_24 : decode cX4_gapStart 24 = .ok (.if_icmp .ne 5, 3) := by decide +kernel
theorem dX4_gapStart_27 : decode cX4_gapStart 27 = .ok (.iload_n 3, 1) := by decide +kernel
theorem dX4_gapStart_28 : decode cX4_gapStart 28 = .ok (.ireturn, 1) := by decide +kernel
theorem dX4_gapStart_29 : decode cX4_gapStart 29 = .ok (.iinc 2 1, 3) := by decide +kernel
theorem dX4_gapStart_32 : decode cX4_gapStart 32 = .ok (.iinc 3 1, 3) := by decide +kernel
theorem dX4_gapStart_35 : decode cX4_gapStart 35 = .ok (.goto (-31), 3) := by decide +kernel
theorem dX4_gapStart_38 : decode cX4_gapStart 38 = .ok (.iconst (-1), 1) := by decide +kernel
theorem dX4_gapStart_39 : decode cX4_gapStart 39 = .ok (.ireturn, 1) := by decide +kernel
theorem dX4_longestGap_0 : decode cX4_longestGap 0 = .ok (.iconst 0, 1) := by decide +kernel
theorem dX4_longestGap_1 : decode cX4_longestGap 1 = .ok (.istore_n 1, 1) := by decide +kernel
theorem dX4_longestGap_2 : decode cX4_longestGap 2 = .ok (.iconst 0, 1) := by decide +kernel
theorem dX4_longestGap_3 : decode cX4_longestGap 3 = .ok (.istore_n 2, 1) := by decide +kernel
theorem dX4_longestGap_4 : decode cX4_longestGap 4 = .ok (.iload_n 2, 1) := by decide +kernel
theorem dX4_longestGap_5 : decode cX4_longestGap 5 = .ok (.aload_n 0, 1) := by decide +kernel
theorem dX4_longestGap_6 : decode cX4_longestGap 6 = .ok (.getfield 15, 3) := by decide +kernel
theorem dX4_longestGap_9 : decode cX4_longestGap 9 = .ok (.arraylength, 1) := by decide +kernel
theorem dX4_longestGap_10 : decode cX4_longestGap 10 = .ok (.if_icmp .ge 26, 3) := by decide +kernel
theorem dX4_longestGap_13 : decode cX4_longestGap 13 = .ok (.aload_n 0, 1) := by decide +kernel
theorem dX4_longestGap_14 : decode cX4_longestGap 14 = .ok (.getfield 15, 3) := by decide +kernel
theorem dX4_longestGap_17 : decode cX4_longestGap 17 = .ok (.iload_n 2, 1) := by decide +kernel
theorem dX4_longestGap_18 : decode cX4_longestGap 18 = .ok (.iaload, 1) := by decide +kernel
theorem dX4_longestGap_19 : decode cX4_longestGap 19 = .ok (.iload_n 1, 1) := by decide +kernel
theorem dX4_longestGap_20 : decode cX4_longestGap 20 = .ok (.if_icmp .le 10, 3) := by decide +kernel
theorem dX4_longestGap_23 : decode cX4_longestGap 23 = .ok (.aload_n 0, 1) := by decide +kernel
theorem dX4_longestGap_24 : decode cX4_longestGap 24 = .ok (.getfield 15, 3) := by decide +kernel
theorem dX4_longestGap_27 : decode cX4_longestGap 27 = .ok (.iload_n 2, 1) := by decide +kernel
theorem dX4_longestGap_28 : decode cX4_longestGap 28 = .ok (.iaload, 1) := by decide +kernel
theorem dX4_longestGap_29 : decode cX4_longestGap 29 = .ok (.istore_n 1, 1) := by decide +kernel
theorem dX4_longestGap_30 : decode cX4_longestGap 30 = .ok (.iinc 2 1, 3) := by decide +kernel
theorem dX4_longestGap_33 : decode cX4_longestGap 33 = .ok (.goto (-29), 3) := by decide +kernel
theorem dX4_longestGap_36 : decode cX4_longestGap 36 = .ok (.iload_n 1, 1) := by decide +kernel
theorem dX4_longestGap_37 : decode cX4_longestGap 37 = .ok (.ireturn, 1) := by decide +kernel
set_option maxRecDepth 20000 in
theorem ggX4_occupy_X6_put : GoodIn wsX4_occupy wsX6_put := goodIn_r _ [4] rfl (by decide +kernel)
set_option maxRecDepth 20000 in
theorem gX4_occupy_X6_put_n88 : GoodIn wsX4_occupy (wsX6_put) := ggX4_occupy_X6_put
set_option maxRecDepth 20000 in
theorem ggX4_occupy_X4_findGaps : GoodIn wsX4_occupy wsX4_findGaps := goodIn_r _ [9, 1, 10, 11, 12, 13, 14, 15, 16, 17, 18, 19, 20, 21, 22, 23, 24] rfl (by decide +kernel)
set_option maxRecDepth 20000 in
theorem gX4_occupy_X4_findGaps : GoodIn wsX4_occupy (wsV RX4 45 RX4 yX4_findGaps wsX4_findGaps) := goodIn_app (goodIn_r _ [5, 6, 7, 8] rfl (by decide +kernel)) ggX4_occupy_X4_findGaps
theorem dX4_occupy_0 : decode cX4_occupy 0 = .ok (.iconst 0, 1) := by decide +kernel
theorem dX4_occupy_1 : decode cX4_occupy 1 = .ok (.istore 4, 2) := by decide +kernel
theorem dX4_occupy_3 : decode cX4_occupy 3 = .ok (.iload 4, 2) := by decide +kernel
theorem dX4_occupy_5 : decode cX4_occupy 5 = .ok (.iload_n 2, 1) := by decide +kernel
theorem dX4_occupy_6 : decode cX4_occupy 6 = .ok (.if_icmp .ge 21, 3) := by decide +kernel
theorem dX4_occupy_9 : decode cX4_occupy 9 = .ok (.aload_n 0, 1) := by decide +kernel
theorem dX4_occupy_10 : decode cX4_occupy 10 = .ok (.getfield 9, 3) := by decide +kernel
theorem dX4_occupy_13 : decode cX4_occupy 13 = .ok (.iload_n 1, 1) := by decide +kernel
theorem dX4_occupy_14 : decode cX4_occupy 14 = .ok (.iload 4, 2) := by decide +kernel
theorem dX4_occupy_16 : decode cX4_occupy 16 = .ok (.iadd, 1) := by decide +kernel
theorem dX4_occupy_17 : decode cX4_occupy 17 = .ok (.iload_n 3, 1) := by decide +kernel
theorem dX4_occupy_18 : decode cX4_occupy 18 = .ok (.invokestatic 88, 3) := by decide +kernel
theorem dX4_occupy_21 : decode cX4_occupy 21 = .ok (.iinc 4 1, 3) := by decide +kernel
theorem dX4_occupy_24 : decode cX4_occupy 24 = .ok (.goto (-21), 3) := by decide +kernel
theorem dX4_occupy_27 : decode cX4_occupy 27 = .ok (.aload_n 0, 1) := by decide +kernel
theorem dX4_occupy_28 : decode cX4_occupy 28 = .ok (.invokevirtual 45, 3) := by decide +kernel
theorem dX4_occupy_31 : decode cX4_occupy 31 = .ok (.return_, 1) := by decide +kernel
set_option maxRecDepth 20000 in
theorem ggX4_reasonAgainst_X4_longestGap : GoodIn wsX4_reasonAgainst wsX4_longestGap := goodIn_r _ [6, 7, 8, 9, 10, 11, 12, 13, 14, 15, 16, 17, 18, 19, 20, 21] rfl (by decide +kernel)
set_option maxRecDepth 20000 in
theorem gX4_reasonAgainst_X4_longestGap : GoodIn wsX4_reasonAgainst (wsV RX4 92 RX4 yX4_longestGap wsX4_longestGap) := goodIn_app (goodIn_r _ [2, 3, 4, 5] rfl (by decide +kernel)) ggX4_reasonAgainst_X4_longestGap
theorem dX4_reasonAgainst_0 : decode cX4_reasonAgainst 0 = .ok (.aload_n 0, 1) := by decide +kernel
theorem dX4_reasonAgainst_1 : decode cX4_reasonAgainst 1 = .ok (.invokevirtual 92, 3) := by decide +kernel
theorem dX4_reasonAgainst_4 : decode cX4_reasonAgainst 4 = .ok (.istore_n 2, 1) := by decide +kernel
theorem dX4_reasonAgainst_5 : decode cX4_reasonAgainst 5 = .ok (.iload_n 2, 1) := by decide +kernel
theorem dX4_reasonAgainst_6 : decode cX4_reasonAgainst 6 = .ok (.iload_n 1, 1) := by decide +kernel
theorem dX4_reasonAgainst_7 : decode cX4_reasonAgainst 7 = .ok (.if_icmp .ge 5, 3) := by decide +kernel
theorem dX4_reasonAgainst_10 : decode cX4_reasonAgainst 10 = .ok (.iconst 1, 1) := by decide +kernel
theorem dX4_reasonAgainst_11 : decode cX4_reasonAgainst 11 = .ok (.ireturn, 1) := by decide +kernel
theorem dX4_reasonAgainst_12 : decode cX4_reasonAgainst 12 = .ok (.iload_n 2, 1) := by decide +kernel
theorem dX4_reasonAgainst_13 : decode cX4_reasonAgainst 13 = .ok (.iload_n 1, 1) := by decide +kernel
theorem dX4_reasonAgainst_14 : decode cX4_reasonAgainst 14 = .ok (.aload_n 0, 1) := by decide +kernel
theorem dX4_reasonAgainst_15 : decode cX4_reasonAgainst 15 = .ok (.getfield 62, 3) := by decide +kernel
theorem dX4_reasonAgainst_18 : decode cX4_reasonAgainst 18 = .ok (.iadd, 1) := by decide +kernel
theorem dX4_reasonAgainst_19 : decode cX4_reasonAgainst 19 = .ok (.if_icmp .ge 7, 3) := by decide +kernel
theorem dX4_reasonAgainst_22 : decode cX4_reasonAgainst 22 = .ok (.iconst 2, 1) := by decide +kernel
theorem dX4_reasonAgainst_23 : decode cX4_reasonAgainst 23 = .ok (.goto 4, 3) := by decide +kernel
theorem dX4_reasonAgainst_26 : decode cX4_reasonAgainst 26 = .ok (.iconst 0, 1) := by decide +kernel
theorem dX4_reasonAgainst_27 : decode cX4_reasonAgainst 27 = .ok (.ireturn, 1) := by decide +kernel
set_option maxRecDepth 20000 in
theorem ggX4_chosenPlace_X6_nextChance : GoodIn wsX4_chosenPlace wsX6_nextChance := goodIn_r _ [5, 6, 7] rfl (by decide +kernel)
set_option maxRecDepth 20000 in
theorem gX4_chosenPlace_X6_nextChance_n96 : GoodIn wsX4_chosenPlace (wsX6_nextChance) := ggX4_chosenPlace_X6_nextChance
set_option maxRecDepth 20000 in
theorem ggX4_chosenPlace_X4_placeByChance : GoodIn wsX4_chosenPlace wsX4_placeByChance := goodIn_r _ [12, 13, 14, 23, 24, 25, 26, 27, 28, 29, 30, 31, 32, 33, 34, 35, 36] rfl (by decide +kernel)
set_option maxRecDepth 20000 in
theorem gX4_chosenPlace_X4_placeByChance : GoodIn wsX4_chosenPlace (wsV RX4 100 RX4 yX4_placeByChance wsX4_placeByChance) := goodIn_app (goodIn_r _ [8, 9, 10, 11] rfl (by decide +kernel)) ggX4_chosenPlace_X4_placeByChance
set_option maxRecDepth 20000 in
theorem ggX4_chosenPlace_X4_shortestGapFor : GoodIn wsX4_chosenPlace wsX4_shortestGapFor := goodIn_r _ [18, 13, 14, 23, 24, 25, 26, 27, 28, 29, 30, 31, 32, 33, 34, 35, 36] rfl (by decide +kernel)
set_option maxRecDepth 20000 in
theorem gX4_chosenPlace_X4_shortestGapFor : GoodIn wsX4_chosenPlace (wsV RX4 104 RX4 yX4_shortestGapFor wsX4_shortestGapFor) := goodIn_app (goodIn_r _ [15, 16, 17, 11] rfl (by decide +kernel)) ggX4_chosenPlace_X4_shortestGapFor
set_option maxRecDepth 20000 in
theorem ggX4_chosenPlace_X4_lowestGapFor : GoodIn wsX4_chosenPlace wsX4_lowestGapFor := goodIn_r _ [22, 13, 14, 23, 24, 25, 26, 27, 28, 29, 30, 31, 32, 33, 34, 35, 36] rfl (by decide +kernel)
set_option maxRecDepth 20000 in
theorem gX4_chosenPlace_X4_lowestGapFor : GoodIn wsX4_chosenPlace (wsV RX4 107 RX4 yX4_lowestGapFor wsX4_lowestGapFor) := goodIn_app (goodIn_r _ [19, 20, 21, 11] rfl (by decide +kernel)) ggX4_chosenPlace_X4_lowestGapFor
theorem dX4_chosenPlace_0 : decode cX4_chosenPlace 0 = .ok (.aload_n 0, 1) := by decide +kernel
theorem dX4_chosenPlace_1 : decode cX4_chosenPlace 1 = .ok (.getfield 59, 3) := by decide +kernel
theorem dX4_chosenPlace_4 : decode cX4_chosenPlace 4 = .ok (.iconst 2, 1) := by decide +kernel
theorem dX4_chosenPlace_5 : decode cX4_chosenPlace 5 = .ok (.if_icmp .ne 16, 3) := by decide +kernel
theorem dX4_chosenPlace_8 : decode cX4_chosenPlace 8 = .ok (.aload_n 0, 1) := by decide +kernel
theorem dX4_chosenPlace_9 : decode cX4_chosenPlace 9 = .ok (.iload_n 1, 1) := by decide +kernel
theorem dX4_chosenPlace_10 : decode cX4_chosenPlace 10 = .ok (.aload_n 0, 1) := by decide +kernel
theorem dX4_chosenPlace_11 : decode cX4_chosenPlace 11 = .ok (.getfield 55, 3) := by decide +kernel
theorem dX4_chosenPlace_14 : decode cX4_chosenPlace 14 = .ok (.invokestatic 96, 3) := by decide +kernel
theorem dX4_chosenPlace_17 : decode cX4_chosenPlace 17 = .ok (.invokevirtual 100, 3) := by decide +kernel
theorem dX4_chosenPlace_20 : decode cX4_chosenPlace 20 = .ok (.ireturn, 1) := by decide +kernel
theorem dX4_chosenPlace_21 : decode cX4_chosenPlace 21 = .ok (.aload_n 0, 1) := by decide +kernel
theorem dX4_chosenPlace_22 : decode cX4_chosenPlace 22 = .ok (.getfield 59, 3) := by decide +kernel
theorem dX4_chosenPlace_25 : decode cX4_chosenPlace 25 = .ok (.iconst 1, 1) := by decide +kernel
theorem dX4_chosenPlace_26 : decode cX4_chosenPlace 26 = .ok (.if_icmp .ne 11, 3) := by decide +kernel
theorem dX4_chosenPlace_29 : decode cX4_chosenPlace 29 = .ok (.aload_n 0, 1) := by decide +kernel
theorem dX4_chosenPlace_30 : decode cX4_chosenPlace 30 = .ok (.iload_n 1, 1) := by decide +kernel
theorem dX4_chosenPlace_31 : decode cX4_chosenPlace 31 = .ok (.invokevirtual 104, 3) := by decide +kernel
theorem dX4_chosenPlace_34 : decode cX4_chosenPlace 34 = .ok (.goto 8, 3) := by decide +kernel
theorem dX4_chosenPlace_37 : decode cX4_chosenPlace 37 = .ok (.aload_n 0, 1) := by decide +kernel
theorem dX4_chosenPlace_38 : decode cX4_chosenPlace 38 = .ok (.iload_n 1, 1) := by decide +kernel
theorem dX4_chosenPlace_39 : decode cX4_chosenPlace 39 = .ok (.invokevirtual 107, 3) := by decide +kernel
theorem dX4_chosenPlace_42 : decode cX4_chosenPlace 42 = .ok (.ireturn, 1) := by decide +kernel
theorem dX4_lowestGapFor_0 : decode cX4_lowestGapFor 0 = .ok (.iconst 0, 1) := by decide +kernel
theorem dX4_lowestGapFor_1 : decode cX4_lowestGapFor 1 = .ok (.istore_n 2, 1) := by decide +kernel
theorem dX4_lowestGapFor_2 : decode cX4_lowestGapFor 2 = .ok (.iload_n 2, 1) := by decide +kernel
theorem dX4_lowestGapFor_3 : decode cX4_lowestGapFor 3 = .ok (.aload_n 0, 1) := by decide +kernel
theorem dX4_lowestGapFor_4 : decode cX4_lowestGapFor 4 = .ok (.getfield 15, 3) := by decide +kernel
theorem dX4_lowestGapFor_7 : decode cX4_lowestGapFor 7 = .ok (.arraylength, 1) := by decide +kernel
theorem dX4_lowestGapFor_8 : decode cX4_lowestGapFor 8 = .ok (.if_icmp .ge 26, 3) := by decide +kernel
theorem dX4_lowestGapFor_11 : decode cX4_lowestGapFor 11 = .ok (.aload_n 0, 1) := by decide +kernel
theorem dX4_lowestGapFor_12 : decode cX4_lowestGapFor 12 = .ok (.getfield 15, 3) := by decide +kernel
theorem dX4_lowestGapFor_15 : decode cX4_lowestGapFor 15 = .ok (.iload_n 2, 1) := by decide +kernel
theorem dX4_lowestGapFor_16 : decode cX4_lowestGapFor 16 = .ok (.iaload, 1) := by decide +kernel
theorem dX4_lowestGapFor_17 : decode cX4_lowestGapFor 17 = .ok (.iload_n 1, 1) := by decide +kernel
theorem dX4_lowestGapFor_18 : decode cX4_lowestGapFor 18 = .ok (.aload_n 0, 1) := by decide +kernel
theorem dX4_lowestGapFor_19 : decode cX4_lowestGapFor 19 = .ok (.getfield 62, 3) := by decide +kernel
theorem dX4_lowestGapFor_22 : decode cX4_lowestGapFor 22 = .ok (.iadd, 1) := by decide +kernel
theorem dX4_lowestGapFor_23 : decode cX4_lowestGapFor 23 = .ok (.if_icmp .lt 5, 3) := by decide +kernel
theorem dX4_lowestGapFor_26 : decode cX4_lowestGapFor 26 = .ok (.iload_n 2, 1) := by decide +kernel
theorem dX4_lowestGapFor_27 : decode cX4_lowestGapFor 27 = .ok (.ireturn, 1) := by decide +kernel
theorem dX4_lowestGapFor_28 : decode cX4_lowestGapFor 28 = .ok (.iinc 2 1, 3) := by decide +kernel
theorem dX4_lowestGapFor_31 : decode cX4_lowestGapFor 31 = .ok (.goto (-29), 3) := by decide +kernel
theorem dX4_lowestGapFor_34 : decode cX4_lowestGapFor 34 = .ok (.iconst (-1), 1) := by decide +kernel
theorem dX4_lowestGapFor_35 : decode cX4_lowestGapFor 35 = .ok (.ireturn, 1) := by decide +kernel
theorem dX4_shortestGapFor_0 : decode cX4_shortestGapFor 0 = .ok (.iconst (-1), 1) := by decide +kernel
theorem dX4_shortestGapFor_1 : decode cX4_shortestGapFor 1 = .ok (.istore_n 2, 1) := by decide +kernel
theorem dX4_shortestGapFor_2 : decode cX4_shortestGapFor 2 = .ok (.bipush 81, 2) := by decide +kernel
