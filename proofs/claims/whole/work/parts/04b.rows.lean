set_option maxRecDepth 20000 in
theorem ggX5_init_X4_init : GoodIn wsX5_init wsX4_init := goodIn_r _ [25, 26, 2, 3, 27, 28, 29, 30, 31, 32, 33, 34, 64, 65, 66, 67, 68, 69] (by decide +kernel) (by decide +kernel)
set_option maxRecDepth 20000 in
theorem gX5_init_X4_init_n9 : GoodIn wsX5_init (wsX4_init) := ggX5_init_X4_init
set_option maxRecDepth 20000 in
theorem ggX5_init_X2_init : GoodIn wsX5_init wsX2_init := goodIn_r _ [36, 37, 2, 3, 27, 38, 39, 31, 40, 41, 42, 75, 76, 77, 78, 79] (by decide +kernel) (by decide +kernel)
set_option maxRecDepth 20000 in
theorem gX5_init_X2_init_n18 : GoodIn wsX5_init (wsX2_init) := ggX5_init_X2_init
set_option maxRecDepth 20000 in
theorem ggX5_init_X0_init : GoodIn wsX5_init wsX0_init := goodIn_r _ [44, 45, 2, 3, 27, 46, 47, 48, 80, 81, 82] (by decide +kernel) (by decide +kernel)
set_option maxRecDepth 20000 in
theorem gX5_init_X0_init_n25 : GoodIn wsX5_init (wsX0_init) := ggX5_init_X0_init
set_option maxRecDepth 20000 in
theorem ggX5_init_X1_init : GoodIn wsX5_init wsX1_init := goodIn_r _ [50, 51, 2, 3, 27, 52, 53, 54, 55, 56, 83, 84, 85, 86, 87] (by decide +kernel) (by decide +kernel)
set_option maxRecDepth 20000 in
theorem gX5_init_X1_init_n32 : GoodIn wsX5_init (wsX1_init) := ggX5_init_X1_init
set_option maxRecDepth 20000 in
theorem ggX5_init_X3_init : GoodIn wsX5_init wsX3_init := goodIn_r _ [58, 59, 2, 3, 27, 60, 61, 62, 63, 88, 89, 90, 91] (by decide +kernel) (by decide +kernel)
set_option maxRecDepth 20000 in
theorem gX5_init_X3_init_n39 : GoodIn wsX5_init (wsX3_init) := ggX5_init_X3_init
theorem dX5_init_0 : decode cX5_init 0 = .ok (.aload_n 0, 1) := by decide +kernel
theorem dX5_init_1 : decode cX5_init 1 = .ok (.invokespecial 1, 3) := by decide +kernel
theorem dX5_init_4 : decode cX5_init 4 = .ok (.aload_n 0, 1) := by decide +kernel
theorem dX5_init_5 : decode cX5_init 5 = .ok (.new 7, 3) := by decide +kernel
theorem dX5_init_8 : decode cX5_init 8 = .ok (.dup, 1) := by decide +kernel
theorem dX5_init_9 : decode cX5_init 9 = .ok (.invokespecial 9, 3) := by decide +kernel
theorem dX5_init_12 : decode cX5_init 12 = .ok (.putfield 10, 3) := by decide +kernel
theorem dX5_init_15 : decode cX5_init 15 = .ok (.aload_n 0, 1) := by decide +kernel
theorem dX5_init_16 : decode cX5_init 16 = .ok (.new 16, 3) := by decide +kernel
theorem dX5_init_19 : decode cX5_init 19 = .ok (.dup, 1) := by decide +kernel
theorem dX5_init_20 : decode cX5_init 20 = .ok (.invokespecial 18, 3) := by decide +kernel
theorem dX5_init_23 : decode cX5_init 23 = .ok (.putfield 19, 3) := by decide +kernel
theorem dX5_init_26 : decode cX5_init 26 = .ok (.aload_n 0, 1) := by decide +kernel
theorem dX5_init_27 : decode cX5_init 27 = .ok (.new 23, 3) := by decide +kernel
theorem dX5_init_30 : decode cX5_init 30 = .ok (.dup, 1) := by decide +kernel
theorem dX5_init_31 : decode cX5_init 31 = .ok (.invokespecial 25, 3) := by decide +kernel
theorem dX5_init_34 : decode cX5_init 34 = .ok (.putfield 26, 3) := by decide +kernel
theorem dX5_init_37 : decode cX5_init 37 = .ok (.aload_n 0, 1) := by decide +kernel
theorem dX5_init_38 : decode cX5_init 38 = .ok (.new 30, 3) := by decide +kernel
theorem dX5_init_41 : decode cX5_init 41 = .ok (.dup, 1) := by decide +kernel
theorem dX5_init_42 : decode cX5_init 42 = .ok (.invokespecial 32, 3) := by decide +kernel
theorem dX5_init_45 : decode cX5_init 45 = .ok (.putfield 33, 3) := by decide +kernel
theorem dX5_init_48 : decode cX5_init 48 = .ok (.aload_n 0, 1) := by decide +kernel
theorem dX5_init_49 : decode cX5_init 49 = .ok (.new 37, 3) := by decide +kernel
theorem dX5_init_52 : decode cX5_init 52 = .ok (.dup, 1) := by decide +kernel
theorem dX5_init_53 : decode cX5_init 53 = .ok (.invokespecial 39, 3) := by decide +kernel
theorem dX5_init_56 : decode cX5_init 56 = .ok (.putfield 40, 3) := by decide +kernel
theorem dX5_init_59 : decode cX5_init 59 = .ok (.return_, 1) := by decide +kernel
set_option maxRecDepth 20000 in
theorem ggX5_thing_X4_add : GoodIn wsX5_thing wsX4_add := goodIn_ca (goodIn_r _ [6, 7, 8, 9, 10, 11, 12, 13, 14, 15, 5, 16, 22, 23, 24, 25, 26, 27] (by decide +kernel) (by decide +kernel)) (goodIn_sub (fun _ h => List.mem_cons_of_mem _ (List.mem_append_right _ h)) (by decide +kernel))
set_option maxRecDepth 20000 in
theorem gX5_thing_X4_add : GoodIn wsX5_thing (wsV RX5 44 RX4 yX4_add wsX4_add) := goodIn_app (goodIn_of _ (by decide +kernel)) ggX5_thing_X4_add
theorem dX5_thing_0 : decode cX5_thing 0 = .ok (.iload_n 1, 1) := by decide +kernel
theorem dX5_thing_1 : decode cX5_thing 1 = .ok (.ifCond .lt 22, 3) := by decide +kernel
theorem dX5_thing_4 : decode cX5_thing 4 = .ok (.iload_n 1, 1) := by decide +kernel
theorem dX5_thing_5 : decode cX5_thing 5 = .ok (.iconst 3, 1) := by decide +kernel
theorem dX5_thing_6 : decode cX5_thing 6 = .ok (.if_icmp .gt 17, 3) := by decide +kernel
theorem dX5_thing_9 : decode cX5_thing 9 = .ok (.iload_n 2, 1) := by decide +kernel
theorem dX5_thing_10 : decode cX5_thing 10 = .ok (.sipush (-1000), 3) := by decide +kernel
theorem dX5_thing_13 : decode cX5_thing 13 = .ok (.if_icmp .lt 10, 3) := by decide +kernel
theorem dX5_thing_16 : decode cX5_thing 16 = .ok (.iload_n 2, 1) := by decide +kernel
theorem dX5_thing_17 : decode cX5_thing 17 = .ok (.sipush 1000, 3) := by decide +kernel
theorem dX5_thing_20 : decode cX5_thing 20 = .ok (.if_icmp .le 6, 3) := by decide +kernel
theorem dX5_thing_23 : decode cX5_thing 23 = .ok (.bipush (-2), 2) := by decide +kernel
theorem dX5_thing_25 : decode cX5_thing 25 = .ok (.ireturn, 1) := by decide +kernel
theorem dX5_thing_26 : decode cX5_thing 26 = .ok (.aload_n 0, 1) := by decide +kernel
theorem dX5_thing_27 : decode cX5_thing 27 = .ok (.getfield 10, 3) := by decide +kernel
theorem dX5_thing_30 : decode cX5_thing 30 = .ok (.iload_n 1, 1) := by decide +kernel
theorem dX5_thing_31 : decode cX5_thing 31 = .ok (.iload_n 2, 1) := by decide +kernel
theorem dX5_thing_32 : decode cX5_thing 32 = .ok (.iconst 0, 1) := by decide +kernel
theorem dX5_thing_33 : decode cX5_thing 33 = .ok (.invokevirtual 44, 3) := by decide +kernel
theorem dX5_thing_36 : decode cX5_thing 36 = .ok (.ireturn, 1) := by decide +kernel
set_option maxRecDepth 20000 in
theorem ggX5_row_X4_areFull : GoodIn wsX5_row wsX4_areFull := goodIn_r _ [6, 7, 35, 36, 37, 38, 39, 40] (by decide +kernel) (by decide +kernel)
set_option maxRecDepth 20000 in
theorem gX5_row_X4_areFull : GoodIn wsX5_row (wsV RX5 48 RX4 yX4_areFull wsX4_areFull) := goodIn_app (goodIn_of _ (by decide +kernel)) ggX5_row_X4_areFull
set_option maxRecDepth 20000 in
theorem ggX5_row_X5_answerOf : GoodIn wsX5_row wsX5_answerOf := goodIn_ca (goodIn_r _ [12, 13, 14, 15, 16, 17, 18, 19, 30, 31, 32, 33, 34, 41, 42, 43, 44] (by decide +kernel) (by decide +kernel)) (goodIn_sub (fun _ h => List.mem_cons_of_mem _ (List.mem_append_right _ h)) (by decide +kernel))
set_option maxRecDepth 20000 in
theorem gX5_row_X5_answerOf : GoodIn wsX5_row (wsV RX5 52 RX5 yX5_answerOf wsX5_answerOf) := goodIn_app (goodIn_of _ (by decide +kernel)) ggX5_row_X5_answerOf
set_option maxRecDepth 20000 in
theorem ggX5_row_X4_add : GoodIn wsX5_row wsX4_add := goodIn_ca (goodIn_r _ [23, 7, 24, 25, 26, 27, 28, 29, 3, 4, 5, 6, 35, 36, 37, 38, 39, 40] (by decide +kernel) (by decide +kernel)) (goodIn_sub (fun _ h => List.mem_cons_of_mem _ (List.mem_append_right _ h)) (by decide +kernel))
set_option maxRecDepth 20000 in
theorem gX5_row_X4_add : GoodIn wsX5_row (wsV RX5 44 RX4 yX4_add wsX4_add) := goodIn_app (goodIn_of _ (by decide +kernel)) ggX5_row_X4_add
theorem dX5_row_0 : decode cX5_row 0 = .ok (.iload_n 1, 1) := by decide +kernel
theorem dX5_row_1 : decode cX5_row 1 = .ok (.iconst 4, 1) := by decide +kernel
theorem dX5_row_2 : decode cX5_row 2 = .ok (.if_icmp .lt 15, 3) := by decide +kernel
theorem dX5_row_5 : decode cX5_row 5 = .ok (.iload_n 1, 1) := by decide +kernel
theorem dX5_row_6 : decode cX5_row 6 = .ok (.bipush 15, 2) := by decide +kernel
theorem dX5_row_8 : decode cX5_row 8 = .ok (.if_icmp .gt 9, 3) := by decide +kernel
theorem dX5_row_11 : decode cX5_row 11 = .ok (.iload_n 2, 1) := by decide +kernel
theorem dX5_row_12 : decode cX5_row 12 = .ok (.bipush 8, 2) := by decide +kernel
theorem dX5_row_14 : decode cX5_row 14 = .ok (.if_icmp .le 6, 3) := by decide +kernel
theorem dX5_row_17 : decode cX5_row 17 = .ok (.bipush (-2), 2) := by decide +kernel
theorem dX5_row_19 : decode cX5_row 19 = .ok (.ireturn, 1) := by decide +kernel
theorem dX5_row_20 : decode cX5_row 20 = .ok (.aload_n 0, 1) := by decide +kernel
theorem dX5_row_21 : decode cX5_row 21 = .ok (.getfield 10, 3) := by decide +kernel
theorem dX5_row_24 : decode cX5_row 24 = .ok (.invokevirtual 48, 3) := by decide +kernel
theorem dX5_row_27 : decode cX5_row 27 = .ok (.ifCond .eq 6, 3) := by decide +kernel
theorem dX5_row_30 : decode cX5_row 30 = .ok (.bipush (-4), 2) := by decide +kernel
theorem dX5_row_32 : decode cX5_row 32 = .ok (.ireturn, 1) := by decide +kernel
theorem dX5_row_33 : decode cX5_row 33 = .ok (.iload_n 2, 1) := by decide +kernel
theorem dX5_row_34 : decode cX5_row 34 = .ok (.ifCond .ge 9, 3) := by decide +kernel
theorem dX5_row_37 : decode cX5_row 37 = .ok (.aload_n 0, 1) := by decide +kernel
theorem dX5_row_38 : decode cX5_row 38 = .ok (.iconst 5, 1) := by decide +kernel
theorem dX5_row_39 : decode cX5_row 39 = .ok (.invokevirtual 52, 3) := by decide +kernel
theorem dX5_row_42 : decode cX5_row 42 = .ok (.ireturn, 1) := by decide +kernel
theorem dX5_row_43 : decode cX5_row 43 = .ok (.aload_n 0, 1) := by decide +kernel
theorem dX5_row_44 : decode cX5_row 44 = .ok (.getfield 10, 3) := by decide +kernel
theorem dX5_row_47 : decode cX5_row 47 = .ok (.iload_n 1, 1) := by decide +kernel
theorem dX5_row_48 : decode cX5_row 48 = .ok (.iconst 0, 1) := by decide +kernel
theorem dX5_row_49 : decode cX5_row 49 = .ok (.iload_n 2, 1) := by decide +kernel
theorem dX5_row_50 : decode cX5_row 50 = .ok (.invokevirtual 44, 3) := by decide +kernel
theorem dX5_row_53 : decode cX5_row 53 = .ok (.ireturn, 1) := by decide +kernel
set_option maxRecDepth 20000 in
theorem ggX5_is_X5_refusalOf : GoodIn wsX5_is wsX5_refusalOf := goodIn_r _ [6, 1, 7, 8, 9, 10, 11, 12, 21, 22, 23, 24, 25, 26, 27, 28, 29, 30, 31] (by decide +kernel) (by decide +kernel)
set_option maxRecDepth 20000 in
theorem gX5_is_X5_refusalOf : GoodIn wsX5_is (wsV RX5 56 RX5 yX5_refusalOf wsX5_refusalOf) := goodIn_app (goodIn_of _ (by decide +kernel)) ggX5_is_X5_refusalOf
set_option maxRecDepth 20000 in
theorem ggX5_is_X4_isOf : GoodIn wsX5_is wsX4_isOf := goodIn_ca (goodIn_r _ [16, 17, 18, 8, 9, 10, 11, 12, 19, 5, 20, 26, 27, 28, 29, 30, 31] (by decide +kernel) (by decide +kernel)) (goodIn_sub (fun _ h => List.mem_cons_of_mem _ (List.mem_append_right _ h)) (by decide +kernel))
set_option maxRecDepth 20000 in
theorem gX5_is_X4_isOf : GoodIn wsX5_is (wsV RX5 60 RX4 yX4_isOf wsX4_isOf) := goodIn_app (goodIn_of _ (by decide +kernel)) ggX5_is_X4_isOf
theorem dX5_is_0 : decode cX5_is 0 = .ok (.aload_n 0, 1) := by decide +kernel
theorem dX5_is_1 : decode cX5_is 1 = .ok (.iload_n 1, 1) := by decide +kernel
theorem dX5_is_2 : decode cX5_is 2 = .ok (.iload_n 2, 1) := by decide +kernel
theorem dX5_is_3 : decode cX5_is 3 = .ok (.iconst 0, 1) := by decide +kernel
theorem dX5_is_4 : decode cX5_is 4 = .ok (.bipush 17, 2) := by decide +kernel
theorem dX5_is_6 : decode cX5_is 6 = .ok (.invokevirtual 56, 3) := by decide +kernel
theorem dX5_is_9 : decode cX5_is 9 = .ok (.istore_n 3, 1) := by decide +kernel
theorem dX5_is_10 : decode cX5_is 10 = .ok (.iload_n 3, 1) := by decide +kernel
theorem dX5_is_11 : decode cX5_is 11 = .ok (.ifCond .eq 5, 3) := by decide +kernel
theorem dX5_is_14 : decode cX5_is 14 = .ok (.iload_n 3, 1) := by decide +kernel
theorem dX5_is_15 : decode cX5_is 15 = .ok (.ireturn, 1) := by decide +kernel
theorem dX5_is_16 : decode cX5_is 16 = .ok (.aload_n 0, 1) := by decide +kernel
theorem dX5_is_17 : decode cX5_is 17 = .ok (.getfield 10, 3) := by decide +kernel
theorem dX5_is_20 : decode cX5_is 20 = .ok (.iload_n 1, 1) := by decide +kernel
theorem dX5_is_21 : decode cX5_is 21 = .ok (.iload_n 2, 1) := by decide +kernel
theorem dX5_is_22 : decode cX5_is 22 = .ok (.invokevirtual 60, 3) := by decide +kernel
theorem dX5_is_25 : decode cX5_is 25 = .ok (.ifCond .eq 7, 3) := by decide +kernel
theorem dX5_is_28 : decode cX5_is 28 = .ok (.iconst 1, 1) := by decide +kernel
theorem dX5_is_29 : decode cX5_is 29 = .ok (.goto 4, 3) := by decide +kernel
theorem dX5_is_32 : decode cX5_is 32 = .ok (.iconst 0, 1) := by decide +kernel
theorem dX5_is_33 : decode cX5_is 33 = .ok (.ireturn, 1) := by decide +kernel
set_option maxRecDepth 20000 in
theorem ggX5_more_X4_hold : GoodIn wsX5_more wsX4_hold := goodIn_r _ [6, 7, 26, 27, 28, 29, 30, 31] (by decide +kernel) (by decide +kernel)
set_option maxRecDepth 20000 in
theorem gX5_more_X4_hold : GoodIn wsX5_more (wsV RX5 64 RX4 yX4_hold wsX4_hold) := goodIn_app (goodIn_of _ (by decide +kernel)) ggX5_more_X4_hold
set_option maxRecDepth 20000 in
theorem ggX5_more_X4_formOf : GoodIn wsX5_more wsX4_formOf := goodIn_ca (goodIn_r _ [11, 12, 13, 3, 4, 5, 6, 7, 26, 27, 28, 29, 30, 31] (by decide +kernel) (by decide +kernel)) (goodIn_sub (fun _ h => List.mem_cons_of_mem _ (List.mem_append_right _ h)) (by decide +kernel))
set_option maxRecDepth 20000 in
theorem gX5_more_X4_formOf : GoodIn wsX5_more (wsV RX5 68 RX4 yX4_formOf wsX4_formOf) := goodIn_app (goodIn_of _ (by decide +kernel)) ggX5_more_X4_formOf
set_option maxRecDepth 20000 in
theorem ggX5_more_X4_isOf : GoodIn wsX5_more wsX4_isOf := goodIn_ca (goodIn_r _ [17, 12, 13, 3, 4, 5, 6, 7, 18, 19, 20, 26, 27, 28, 29, 30, 31] (by decide +kernel) (by decide +kernel)) (goodIn_sub (fun _ h => List.mem_cons_of_mem _ (List.mem_append_right _ h)) (by decide +kernel))
set_option maxRecDepth 20000 in
theorem gX5_more_X4_isOf : GoodIn wsX5_more (wsV RX5 60 RX4 yX4_isOf wsX4_isOf) := goodIn_app (goodIn_of _ (by decide +kernel)) ggX5_more_X4_isOf
theorem dX5_more_0 : decode cX5_more 0 = .ok (.aload_n 0, 1) := by decide +kernel
theorem dX5_more_1 : decode cX5_more 1 = .ok (.getfield 10, 3) := by decide +kernel
theorem dX5_more_4 : decode cX5_more 4 = .ok (.iload_n 1, 1) := by decide +kernel
theorem dX5_more_5 : decode cX5_more 5 = .ok (.invokevirtual 64, 3) := by decide +kernel
theorem dX5_more_8 : decode cX5_more 8 = .ok (.ifCond .ne 5, 3) := by decide +kernel
theorem dX5_more_11 : decode cX5_more 11 = .ok (.iconst (-1), 1) := by decide +kernel
theorem dX5_more_12 : decode cX5_more 12 = .ok (.ireturn, 1) := by decide +kernel
theorem dX5_more_13 : decode cX5_more 13 = .ok (.iconst 0, 1) := by decide +kernel
theorem dX5_more_14 : decode cX5_more 14 = .ok (.istore_n 2, 1) := by decide +kernel
theorem dX5_more_15 : decode cX5_more 15 = .ok (.iload_n 2, 1) := by decide +kernel
theorem dX5_more_16 : decode cX5_more 16 = .ok (.bipush 17, 2) := by decide +kernel
theorem dX5_more_18 : decode cX5_more 18 = .ok (.if_icmp .ge 35, 3) := by decide +kernel
theorem dX5_more_21 : decode cX5_more 21 = .ok (.iload_n 2, 1) := by decide +kernel
theorem dX5_more_22 : decode cX5_more 22 = .ok (.aload_n 0, 1) := by decide +kernel
theorem dX5_more_23 : decode cX5_more 23 = .ok (.getfield 10, 3) := by decide +kernel
theorem dX5_more_26 : decode cX5_more 26 = .ok (.iload_n 1, 1) := by decide +kernel
theorem dX5_more_27 : decode cX5_more 27 = .ok (.invokevirtual 68, 3) := by decide +kernel
theorem dX5_more_30 : decode cX5_more 30 = .ok (.if_icmp .eq 17, 3) := by decide +kernel
theorem dX5_more_33 : decode cX5_more 33 = .ok (.aload_n 0, 1) := by decide +kernel
theorem dX5_more_34 : decode cX5_more 34 = .ok (.getfield 10, 3) := by decide +kernel
theorem dX5_more_37 : decode cX5_more 37 = .ok (.iload_n 1, 1) := by decide +kernel
theorem dX5_more_38 : decode cX5_more 38 = .ok (.iload_n 2, 1) := by decide +kernel
theorem dX5_more_39 : decode cX5_more 39 = .ok (.invokevirtual 60, 3) := by decide +kernel
theorem dX5_more_42 : decode cX5_more 42 = .ok (.ifCond .eq 5, 3) := by decide +kernel
theorem dX5_more_45 : decode cX5_more 45 = .ok (.iload_n 2, 1) := by decide +kernel
theorem dX5_more_46 : decode cX5_more 46 = .ok (.ireturn, 1) := by decide +kernel
theorem dX5_more_47 : decode cX5_more 47 = .ok (.iinc 2 1, 3) := by decide +kernel
theorem dX5_more_50 : decode cX5_more 50 = .ok (.goto (-35), 3) := by decide +kernel
theorem dX5_more_53 : decode cX5_more 53 = .ok (.bipush (-5), 2) := by decide +kernel
theorem dX5_more_55 : decode cX5_more 55 = .ok (.ireturn, 1) := by decide +kernel
set_option maxRecDepth 20000 in
theorem ggX5_weight_X5_refusalOf : GoodIn wsX5_weight wsX5_refusalOf := goodIn_r _ [7, 2, 8, 9, 10, 11, 12, 13, 38, 39, 40, 41, 42, 43, 44, 45, 46, 47, 48] (by decide +kernel) (by decide +kernel)
set_option maxRecDepth 20000 in
theorem gX5_weight_X5_refusalOf : GoodIn wsX5_weight (wsV RX5 56 RX5 yX5_refusalOf wsX5_refusalOf) := goodIn_app (goodIn_of _ (by decide +kernel)) ggX5_weight_X5_refusalOf
set_option maxRecDepth 20000 in
theorem ggX5_weight_X4_isOf : GoodIn wsX5_weight wsX4_isOf := goodIn_ca (goodIn_r _ [17, 18, 19, 9, 10, 11, 12, 13, 20, 6, 21, 43, 44, 45, 46, 47, 48] (by decide +kernel) (by decide +kernel)) (goodIn_sub (fun _ h => List.mem_cons_of_mem _ (List.mem_append_right _ h)) (by decide +kernel))
set_option maxRecDepth 20000 in
theorem gX5_weight_X4_isOf : GoodIn wsX5_weight (wsV RX5 60 RX4 yX4_isOf wsX4_isOf) := goodIn_app (goodIn_of _ (by decide +kernel)) ggX5_weight_X4_isOf
set_option maxRecDepth 20000 in
theorem ggX5_weight_X5_answerOf : GoodIn wsX5_weight wsX5_answerOf := goodIn_ca (goodIn_r _ [25, 26, 27, 28, 29, 30, 31, 32, 38, 39, 40, 41, 42, 49, 50, 51, 52] (by decide +kernel) (by decide +kernel)) (goodIn_sub (fun _ h => List.mem_cons_of_mem _ (List.mem_append_right _ h)) (by decide +kernel))
set_option maxRecDepth 20000 in
theorem gX5_weight_X5_answerOf : GoodIn wsX5_weight (wsV RX5 52 RX5 yX5_answerOf wsX5_answerOf) := goodIn_app (goodIn_of _ (by decide +kernel)) ggX5_weight_X5_answerOf
set_option maxRecDepth 20000 in
theorem ggX5_weight_X4_weightOf : GoodIn wsX5_weight wsX4_weightOf := goodIn_ca (goodIn_r _ [36, 37, 19, 9, 10, 11, 12, 13, 43, 44, 45, 46, 47, 48] (by decide +kernel) (by decide +kernel)) (goodIn_sub (fun _ h => List.mem_cons_of_mem _ (List.mem_append_right _ h)) (by decide +kernel))
set_option maxRecDepth 20000 in
theorem gX5_weight_X4_weightOf : GoodIn wsX5_weight (wsV RX5 72 RX4 yX4_weightOf wsX4_weightOf) := goodIn_app (goodIn_of _ (by decide +kernel)) ggX5_weight_X4_weightOf
theorem dX5_weight_0 : decode cX5_weight 0 = .ok (.aload_n 0, 1) := by decide +kernel
theorem dX5_weight_1 : decode cX5_weight 1 = .ok (.iload_n 1, 1) := by decide +kernel
theorem dX5_weight_2 : decode cX5_weight 2 = .ok (.iload_n 2, 1) := by decide +kernel
theorem dX5_weight_3 : decode cX5_weight 3 = .ok (.iconst 0, 1) := by decide +kernel
theorem dX5_weight_4 : decode cX5_weight 4 = .ok (.iconst 2, 1) := by decide +kernel
theorem dX5_weight_5 : decode cX5_weight 5 = .ok (.invokevirtual 56, 3) := by decide +kernel
theorem dX5_weight_8 : decode cX5_weight 8 = .ok (.istore_n 3, 1) := by decide +kernel
theorem dX5_weight_9 : decode cX5_weight 9 = .ok (.iload_n 3, 1) := by decide +kernel
theorem dX5_weight_10 : decode cX5_weight 10 = .ok (.ifCond .eq 8, 3) := by decide +kernel
theorem dX5_weight_13 : decode cX5_weight 13 = .ok (.ldc 71, 2) := by decide +kernel
theorem dX5_weight_15 : decode cX5_weight 15 = .ok (.iload_n 3, 1) := by decide +kernel
theorem dX5_weight_16 : decode cX5_weight 16 = .ok (.iadd, 1) := by decide +kernel
theorem dX5_weight_17 : decode cX5_weight 17 = .ok (.ireturn, 1) := by decide +kernel
theorem dX5_weight_18 : decode cX5_weight 18 = .ok (.aload_n 0, 1) := by decide +kernel
theorem dX5_weight_19 : decode cX5_weight 19 = .ok (.getfield 10, 3) := by decide +kernel
theorem dX5_weight_22 : decode cX5_weight 22 = .ok (.iload_n 1, 1) := by decide +kernel
theorem dX5_weight_23 : decode cX5_weight 23 = .ok (.iload_n 2, 1) := by decide +kernel
theorem dX5_weight_24 : decode cX5_weight 24 = .ok (.invokevirtual 60, 3) := by decide +kernel
theorem dX5_weight_27 : decode cX5_weight 27 = .ok (.ifCond .ne 12, 3) := by decide +kernel
theorem dX5_weight_30 : decode cX5_weight 30 = .ok (.ldc 71, 2) := by decide +kernel
theorem dX5_weight_32 : decode cX5_weight 32 = .ok (.aload_n 0, 1) := by decide +kernel
theorem dX5_weight_33 : decode cX5_weight 33 = .ok (.iconst 1, 1) := by decide +kernel
theorem dX5_weight_34 : decode cX5_weight 34 = .ok (.invokevirtual 52, 3) := by decide +kernel
theorem dX5_weight_37 : decode cX5_weight 37 = .ok (.iadd, 1) := by decide +kernel
theorem dX5_weight_38 : decode cX5_weight 38 = .ok (.ireturn, 1) := by decide +kernel
theorem dX5_weight_39 : decode cX5_weight 39 = .ok (.aload_n 0, 1) := by decide +kernel
theorem dX5_weight_40 : decode cX5_weight 40 = .ok (.getfield 10, 3) := by decide +kernel
theorem dX5_weight_43 : decode cX5_weight 43 = .ok (.iload_n 1, 1) := by decide +kernel
theorem dX5_weight_44 : decode cX5_weight 44 = .ok (.invokevirtual 72, 3) := by decide +kernel
theorem dX5_weight_47 : decode cX5_weight 47 = .ok (.ireturn, 1) := by decide +kernel
set_option maxRecDepth 20000 in
theorem ggX5_length_X5_refusalOf : GoodIn wsX5_length wsX5_refusalOf := goodIn_r _ [6, 1, 7, 8, 9, 10, 11, 12, 37, 38, 39, 40, 41, 42, 43, 44, 45, 46, 47] (by decide +kernel) (by decide +kernel)
set_option maxRecDepth 20000 in
theorem gX5_length_X5_refusalOf : GoodIn wsX5_length (wsV RX5 56 RX5 yX5_refusalOf wsX5_refusalOf) := goodIn_app (goodIn_of _ (by decide +kernel)) ggX5_length_X5_refusalOf
set_option maxRecDepth 20000 in
theorem ggX5_length_X4_isOf : GoodIn wsX5_length wsX4_isOf := goodIn_ca (goodIn_r _ [16, 17, 18, 8, 9, 10, 11, 12, 19, 5, 20, 42, 43, 44, 45, 46, 47] (by decide +kernel) (by decide +kernel)) (goodIn_sub (fun _ h => List.mem_cons_of_mem _ (List.mem_append_right _ h)) (by decide +kernel))
set_option maxRecDepth 20000 in
theorem gX5_length_X4_isOf : GoodIn wsX5_length (wsV RX5 60 RX4 yX4_isOf wsX4_isOf) := goodIn_app (goodIn_of _ (by decide +kernel)) ggX5_length_X4_isOf
set_option maxRecDepth 20000 in
theorem ggX5_length_X5_answerOf : GoodIn wsX5_length wsX5_answerOf := goodIn_ca (goodIn_r _ [24, 25, 26, 27, 28, 29, 30, 31, 37, 38, 39, 40, 41, 48, 49, 50, 51] (by decide +kernel) (by decide +kernel)) (goodIn_sub (fun _ h => List.mem_cons_of_mem _ (List.mem_append_right _ h)) (by decide +kernel))
set_option maxRecDepth 20000 in
theorem gX5_length_X5_answerOf : GoodIn wsX5_length (wsV RX5 52 RX5 yX5_answerOf wsX5_answerOf) := goodIn_app (goodIn_of _ (by decide +kernel)) ggX5_length_X5_answerOf
set_option maxRecDepth 20000 in
theorem ggX5_length_X4_sizeOf : GoodIn wsX5_length wsX4_sizeOf := goodIn_ca (goodIn_r _ [35, 36, 18, 8, 9, 10, 11, 12, 42, 43, 44, 45, 46, 47] (by decide +kernel) (by decide +kernel)) (goodIn_sub (fun _ h => List.mem_cons_of_mem _ (List.mem_append_right _ h)) (by decide +kernel))
set_option maxRecDepth 20000 in
theorem gX5_length_X4_sizeOf : GoodIn wsX5_length (wsV RX5 75 RX4 yX4_sizeOf wsX4_sizeOf) := goodIn_app (goodIn_of _ (by decide +kernel)) ggX5_length_X4_sizeOf
theorem dX5_length_0 : decode cX5_length 0 = .ok (.aload_n 0, 1) := by decide +kernel
theorem dX5_length_1 : decode cX5_length 1 = .ok (.iload_n 1, 1) := by decide +kernel
theorem dX5_length_2 : decode cX5_length 2 = .ok (.iload_n 2, 1) := by decide +kernel
theorem dX5_length_3 : decode cX5_length 3 = .ok (.iconst 4, 1) := by decide +kernel
theorem dX5_length_4 : decode cX5_length 4 = .ok (.bipush 15, 2) := by decide +kernel
theorem dX5_length_6 : decode cX5_length 6 = .ok (.invokevirtual 56, 3) := by decide +kernel
theorem dX5_length_9 : decode cX5_length 9 = .ok (.istore_n 3, 1) := by decide +kernel
theorem dX5_length_10 : decode cX5_length 10 = .ok (.iload_n 3, 1) := by decide +kernel
theorem dX5_length_11 : decode cX5_length 11 = .ok (.ifCond .eq 5, 3) := by decide +kernel
theorem dX5_length_14 : decode cX5_length 14 = .ok (.iload_n 3, 1) := by decide +kernel
theorem dX5_length_15 : decode cX5_length 15 = .ok (.ireturn, 1) := by decide +kernel
theorem dX5_length_16 : decode cX5_length 16 = .ok (.aload_n 0, 1) := by decide +kernel
theorem dX5_length_17 : decode cX5_length 17 = .ok (.getfield 10, 3) := by decide +kernel
theorem dX5_length_20 : decode cX5_length 20 = .ok (.iload_n 1, 1) := by decide +kernel
theorem dX5_length_21 : decode cX5_length 21 = .ok (.iload_n 2, 1) := by decide +kernel
theorem dX5_length_22 : decode cX5_length 22 = .ok (.invokevirtual 60, 3) := by decide +kernel
theorem dX5_length_25 : decode cX5_length 25 = .ok (.ifCond .ne 9, 3) := by decide +kernel
theorem dX5_length_28 : decode cX5_length 28 = .ok (.aload_n 0, 1) := by decide +kernel
theorem dX5_length_29 : decode cX5_length 29 = .ok (.iconst 1, 1) := by decide +kernel
theorem dX5_length_30 : decode cX5_length 30 = .ok (.invokevirtual 52, 3) := by decide +kernel
theorem dX5_length_33 : decode cX5_length 33 = .ok (.ireturn, 1) := by decide +kernel
theorem dX5_length_34 : decode cX5_length 34 = .ok (.aload_n 0, 1) := by decide +kernel
theorem dX5_length_35 : decode cX5_length 35 = .ok (.getfield 10, 3) := by decide +kernel
theorem dX5_length_38 : decode cX5_length 38 = .ok (.iload_n 1, 1) := by decide +kernel
theorem dX5_length_39 : decode cX5_length 39 = .ok (.invokevirtual 75, 3) := by decide +kernel
theorem dX5_length_42 : decode cX5_length 42 = .ok (.ireturn, 1) := by decide +kernel
set_option maxRecDepth 20000 in
theorem ggX5_put_X5_refusalOf : GoodIn wsX5_put wsX5_refusalOf := goodIn_r _ [6, 1, 7, 8, 9, 10, 11, 12, 47, 48, 49, 50, 51, 52, 53, 54, 55, 56, 57] (by decide +kernel) (by decide +kernel)
set_option maxRecDepth 20000 in
theorem gX5_put_X5_refusalOf : GoodIn wsX5_put (wsV RX5 56 RX5 yX5_refusalOf wsX5_refusalOf) := goodIn_app (goodIn_of _ (by decide +kernel)) ggX5_put_X5_refusalOf
set_option maxRecDepth 20000 in
theorem ggX5_put_X5_findingAt : GoodIn wsX5_put wsX5_findingAt := goodIn_ca (goodIn_r _ [16, 1, 17, 18, 19, 10, 20, 21, 22, 8, 9, 11, 12, 23, 5, 24, 25, 26, 27, 28, 29, 47, 48, 49, 50, 51, 52, 53, 54, 55, 56, 57] (by decide +kernel) (by decide +kernel)) (goodIn_sub (fun _ h => List.mem_cons_of_mem _ (List.mem_append_right _ h)) (by decide +kernel))
set_option maxRecDepth 20000 in
theorem gX5_put_X5_findingAt : GoodIn wsX5_put (wsV RX5 78 RX5 yX5_findingAt wsX5_findingAt) := goodIn_app (goodIn_of _ (by decide +kernel)) ggX5_put_X5_findingAt
set_option maxRecDepth 20000 in
theorem ggX5_put_X5_answerOf : GoodIn wsX5_put wsX5_answerOf := goodIn_ca (goodIn_r _ [33, 34, 35, 36, 37, 38, 39, 40, 47, 48, 49, 50, 51, 58, 59, 60, 61] (by decide +kernel) (by decide +kernel)) (goodIn_sub (fun _ h => List.mem_cons_of_mem _ (List.mem_append_right _ h)) (by decide +kernel))
set_option maxRecDepth 20000 in
theorem gX5_put_X5_answerOf : GoodIn wsX5_put (wsV RX5 52 RX5 yX5_answerOf wsX5_answerOf) := goodIn_app (goodIn_of _ (by decide +kernel)) ggX5_put_X5_answerOf
set_option maxRecDepth 20000 in
theorem ggX5_put_X4_setNumber : GoodIn wsX5_put wsX4_setNumber := goodIn_ca (goodIn_r _ [44, 45, 21, 46, 26, 27, 10, 28, 12, 29, 52, 53, 54, 55, 56, 57] (by decide +kernel) (by decide +kernel)) (goodIn_sub (fun _ h => List.mem_cons_of_mem _ (List.mem_append_right _ h)) (by decide +kernel))
set_option maxRecDepth 20000 in
theorem gX5_put_X4_setNumber : GoodIn wsX5_put (wsV RX5 81 RX4 yX4_setNumber wsX4_setNumber) := goodIn_app (goodIn_of _ (by decide +kernel)) ggX5_put_X4_setNumber
theorem dX5_put_0 : decode cX5_put 0 = .ok (.aload_n 0, 1) := by decide +kernel
theorem dX5_put_1 : decode cX5_put 1 = .ok (.iload_n 1, 1) := by decide +kernel
theorem dX5_put_2 : decode cX5_put 2 = .ok (.iload_n 2, 1) := by decide +kernel
theorem dX5_put_3 : decode cX5_put 3 = .ok (.iconst 4, 1) := by decide +kernel
theorem dX5_put_4 : decode cX5_put 4 = .ok (.bipush 6, 2) := by decide +kernel
theorem dX5_put_6 : decode cX5_put 6 = .ok (.invokevirtual 56, 3) := by decide +kernel
theorem dX5_put_9 : decode cX5_put 9 = .ok (.istore 6, 2) := by decide +kernel
theorem dX5_put_11 : decode cX5_put 11 = .ok (.iload 6, 2) := by decide +kernel
theorem dX5_put_13 : decode cX5_put 13 = .ok (.ifCond .eq 6, 3) := by decide +kernel
theorem dX5_put_16 : decode cX5_put 16 = .ok (.iload 6, 2) := by decide +kernel
theorem dX5_put_18 : decode cX5_put 18 = .ok (.ireturn, 1) := by decide +kernel
theorem dX5_put_19 : decode cX5_put 19 = .ok (.aload_n 0, 1) := by decide +kernel
theorem dX5_put_20 : decode cX5_put 20 = .ok (.iload_n 1, 1) := by decide +kernel
theorem dX5_put_21 : decode cX5_put 21 = .ok (.iload_n 2, 1) := by decide +kernel
theorem dX5_put_22 : decode cX5_put 22 = .ok (.iload_n 3, 1) := by decide +kernel
theorem dX5_put_23 : decode cX5_put 23 = .ok (.invokevirtual 78, 3) := by decide +kernel
theorem dX5_put_26 : decode cX5_put 26 = .ok (.istore 7, 2) := by decide +kernel
theorem dX5_put_28 : decode cX5_put 28 = .ok (.iload 7, 2) := by decide +kernel
theorem dX5_put_30 : decode cX5_put 30 = .ok (.ifCond .eq 10, 3) := by decide +kernel
theorem dX5_put_33 : decode cX5_put 33 = .ok (.aload_n 0, 1) := by decide +kernel
theorem dX5_put_34 : decode cX5_put 34 = .ok (.iload 7, 2) := by decide +kernel
theorem dX5_put_36 : decode cX5_put 36 = .ok (.invokevirtual 52, 3) := by decide +kernel
theorem dX5_put_39 : decode cX5_put 39 = .ok (.ireturn, 1) := by decide +kernel
theorem dX5_put_40 : decode cX5_put 40 = .ok (.aload_n 0, 1) := by decide +kernel
theorem dX5_put_41 : decode cX5_put 41 = .ok (.getfield 10, 3) := by decide +kernel
theorem dX5_put_44 : decode cX5_put 44 = .ok (.iload_n 1, 1) := by decide +kernel
theorem dX5_put_45 : decode cX5_put 45 = .ok (.iload_n 3, 1) := by decide +kernel
theorem dX5_put_46 : decode cX5_put 46 = .ok (.lload 4, 2) := by decide +kernel
theorem dX5_put_48 : decode cX5_put 48 = .ok (.invokevirtual 81, 3) := by decide +kernel
theorem dX5_put_51 : decode cX5_put 51 = .ok (.iconst 1, 1) := by decide +kernel
theorem dX5_put_52 : decode cX5_put 52 = .ok (.ireturn, 1) := by decide +kernel
set_option maxRecDepth 20000 in
theorem ggX5_number_X5_refusalOf : GoodIn wsX5_number wsX5_refusalOf := goodIn_r _ [12, 7, 13, 14, 15, 16, 17, 18, 54, 55, 56, 57, 58, 59, 60, 61, 62, 63, 64] (by decide +kernel) (by decide +kernel)
set_option maxRecDepth 20000 in
theorem gX5_number_X5_refusalOf : GoodIn wsX5_number (wsV RX5 56 RX5 yX5_refusalOf wsX5_refusalOf) := goodIn_app (goodIn_of _ (by decide +kernel)) ggX5_number_X5_refusalOf
set_option maxRecDepth 20000 in
theorem ggX5_number_X5_findingAt : GoodIn wsX5_number wsX5_findingAt := goodIn_ca (goodIn_r _ [22, 7, 23, 24, 25, 16, 26, 27, 28, 14, 15, 17, 18, 29, 11, 30, 31, 32, 33, 34, 35, 54, 55, 56, 57, 58, 59, 60, 61, 62, 63, 64] (by decide +kernel) (by decide +kernel)) (goodIn_sub (fun _ h => List.mem_cons_of_mem _ (List.mem_append_right _ h)) (by decide +kernel))
set_option maxRecDepth 20000 in
theorem gX5_number_X5_findingAt : GoodIn wsX5_number (wsV RX5 78 RX5 yX5_findingAt wsX5_findingAt) := goodIn_app (goodIn_of _ (by decide +kernel)) ggX5_number_X5_findingAt
set_option maxRecDepth 20000 in
theorem ggX5_number_X4_numberAt : GoodIn wsX5_number wsX4_numberAt := goodIn_ca (goodIn_r _ [39, 40, 41, 32, 33, 16, 34, 18, 35, 59, 60, 61, 62, 63, 64] (by decide +kernel) (by decide +kernel)) (goodIn_sub (fun _ h => List.mem_cons_of_mem _ (List.mem_append_right _ h)) (by decide +kernel))
set_option maxRecDepth 20000 in
theorem gX5_number_X4_numberAt : GoodIn wsX5_number (wsV RX5 97 RX4 yX4_numberAt wsX4_numberAt) := goodIn_app (goodIn_of _ (by decide +kernel)) ggX5_number_X4_numberAt
theorem dX5_number_0 : decode cX5_number 0 = .ok (.aload_n 0, 1) := by decide +kernel
theorem dX5_number_1 : decode cX5_number 1 = .ok (.iload_n 1, 1) := by decide +kernel
theorem dX5_number_2 : decode cX5_number 2 = .ok (.iload_n 2, 1) := by decide +kernel
theorem dX5_number_3 : decode cX5_number 3 = .ok (.iconst 4, 1) := by decide +kernel
theorem dX5_number_4 : decode cX5_number 4 = .ok (.bipush 6, 2) := by decide +kernel
theorem dX5_number_6 : decode cX5_number 6 = .ok (.invokevirtual 56, 3) := by decide +kernel
theorem dX5_number_9 : decode cX5_number 9 = .ok (.ifCond .eq 5, 3) := by decide +kernel
theorem dX5_number_12 : decode cX5_number 12 = .ok (.lconst 0, 1) := by decide +kernel
theorem dX5_number_13 : decode cX5_number 13 = .ok (.lreturn, 1) := by decide +kernel
theorem dX5_number_14 : decode cX5_number 14 = .ok (.aload_n 0, 1) := by decide +kernel
theorem dX5_number_15 : decode cX5_number 15 = .ok (.iload_n 1, 1) := by decide +kernel
theorem dX5_number_16 : decode cX5_number 16 = .ok (.iload_n 2, 1) := by decide +kernel
theorem dX5_number_17 : decode cX5_number 17 = .ok (.iload_n 3, 1) := by decide +kernel
theorem dX5_number_18 : decode cX5_number 18 = .ok (.invokevirtual 78, 3) := by decide +kernel
theorem dX5_number_21 : decode cX5_number 21 = .ok (.istore 4, 2) := by decide +kernel
theorem dX5_number_23 : decode cX5_number 23 = .ok (.iload 4, 2) := by decide +kernel
theorem dX5_number_25 : decode cX5_number 25 = .ok (.iconst 1, 1) := by decide +kernel
theorem dX5_number_26 : decode cX5_number 26 = .ok (.if_icmp .ne 13, 3) := by decide +kernel
theorem dX5_number_29 : decode cX5_number 29 = .ok (.new 85, 3) := by decide +kernel
theorem dX5_number_32 : decode cX5_number 32 = .ok (.dup, 1) := by decide +kernel
theorem dX5_number_33 : decode cX5_number 33 = .ok (.ldc 87, 2) := by decide +kernel
theorem dX5_number_35 : decode cX5_number 35 = .ok (.invokespecial 89, 3) := by decide +kernel
theorem dX5_number_38 : decode cX5_number 38 = .ok (.athrow, 1) := by decide +kernel
theorem dX5_number_39 : decode cX5_number 39 = .ok (.iload 4, 2) := by decide +kernel
theorem dX5_number_41 : decode cX5_number 41 = .ok (.iconst 3, 1) := by decide +kernel
theorem dX5_number_42 : decode cX5_number 42 = .ok (.if_icmp .ne 13, 3) := by decide +kernel
theorem dX5_number_45 : decode cX5_number 45 = .ok (.new 92, 3) := by decide +kernel
theorem dX5_number_48 : decode cX5_number 48 = .ok (.dup, 1) := by decide +kernel
theorem dX5_number_49 : decode cX5_number 49 = .ok (.ldc 94, 2) := by decide +kernel
theorem dX5_number_51 : decode cX5_number 51 = .ok (.invokespecial 96, 3) := by decide +kernel
theorem dX5_number_54 : decode cX5_number 54 = .ok (.athrow, 1) := by decide +kernel
theorem dX5_number_55 : decode cX5_number 55 = .ok (.aload_n 0, 1) := by decide +kernel
theorem dX5_number_56 : decode cX5_number 56 = .ok (.getfield 10, 3) := by decide +kernel
theorem dX5_number_59 : decode cX5_number 59 = .ok (.iload_n 1, 1) := by decide +kernel
theorem dX5_number_60 : decode cX5_number 60 = .ok (.iload_n 3, 1) := by decide +kernel
theorem dX5_number_61 : decode cX5_number 61 = .ok (.invokevirtual 97, 3) := by decide +kernel
theorem dX5_number_64 : decode cX5_number 64 = .ok (.lreturn, 1) := by decide +kernel
set_option maxRecDepth 20000 in
theorem ggX5_lay_X4_hold : GoodIn wsX5_lay wsX4_hold := goodIn_r _ [6, 7, 59, 60, 61, 62, 63, 64] (by decide +kernel) (by decide +kernel)
set_option maxRecDepth 20000 in
theorem gX5_lay_X4_hold : GoodIn wsX5_lay (wsV RX5 64 RX4 yX4_hold wsX4_hold) := goodIn_app (goodIn_of _ (by decide +kernel)) ggX5_lay_X4_hold
set_option maxRecDepth 20000 in
theorem ggX5_lay_X5_refusalOf : GoodIn wsX5_lay wsX5_refusalOf := goodIn_r _ [12, 1, 2, 3, 4, 5, 6, 7, 54, 55, 56, 57, 58, 59, 60, 61, 62, 63, 64] (by decide +kernel) (by decide +kernel)
set_option maxRecDepth 20000 in
theorem gX5_lay_X5_refusalOf : GoodIn wsX5_lay (wsV RX5 56 RX5 yX5_refusalOf wsX5_refusalOf) := goodIn_app (goodIn_of _ (by decide +kernel)) ggX5_lay_X5_refusalOf
set_option maxRecDepth 20000 in
theorem ggX5_lay_X4_isOf : GoodIn wsX5_lay wsX4_isOf := goodIn_ca (goodIn_r _ [16, 17, 18, 3, 4, 5, 6, 7, 19, 11, 20, 59, 60, 61, 62, 63, 64] (by decide +kernel) (by decide +kernel)) (goodIn_sub (fun _ h => List.mem_cons_of_mem _ (List.mem_append_right _ h)) (by decide +kernel))
set_option maxRecDepth 20000 in
theorem gX5_lay_X4_isOf : GoodIn wsX5_lay (wsV RX5 60 RX4 yX4_isOf wsX4_isOf) := goodIn_app (goodIn_of _ (by decide +kernel)) ggX5_lay_X4_isOf
set_option maxRecDepth 20000 in
theorem ggX5_lay_X5_memberKind : GoodIn wsX5_lay wsX5_memberKind := goodIn_r _ [23] (by decide +kernel) (by decide +kernel)
set_option maxRecDepth 20000 in
theorem gX5_lay_X5_memberKind : GoodIn wsX5_lay (va_wsS RX5 101 yX5_memberKind wsX5_memberKind) := goodIn_app (goodIn_of _ (by decide +kernel)) ggX5_lay_X5_memberKind
set_option maxRecDepth 20000 in
theorem ggX5_lay_X5_layInto : GoodIn wsX5_lay wsX5_layInto := goodIn_ca (goodIn_r _ [27, 1, 13, 14, 15, 5, 16, 17, 18, 3, 4, 6, 7, 19, 11, 20, 28, 29, 30, 31, 32, 33, 34, 35, 36, 21, 22, 23, 37, 38, 39, 40, 41, 42, 54, 55, 56, 57, 58, 59, 60, 61, 62, 63, 64] (by decide +kernel) (by decide +kernel)) (goodIn_sub (fun _ h => List.mem_cons_of_mem _ (List.mem_append_right _ h)) (by decide +kernel))
set_option maxRecDepth 20000 in
theorem gX5_lay_X5_layInto : GoodIn wsX5_lay (wsV RX5 104 RX5 yX5_layInto wsX5_layInto) := goodIn_app (goodIn_of _ (by decide +kernel)) ggX5_lay_X5_layInto
set_option maxRecDepth 20000 in
theorem ggX5_lay_X5_answerOf : GoodIn wsX5_lay wsX5_answerOf := goodIn_ca (goodIn_r _ [46, 47, 48, 49, 50, 51, 52, 53, 54, 55, 56, 57, 58, 65, 66, 67, 68] (by decide +kernel) (by decide +kernel)) (goodIn_sub (fun _ h => List.mem_cons_of_mem _ (List.mem_append_right _ h)) (by decide +kernel))
set_option maxRecDepth 20000 in
theorem gX5_lay_X5_answerOf : GoodIn wsX5_lay (wsV RX5 52 RX5 yX5_answerOf wsX5_answerOf) := goodIn_app (goodIn_of _ (by decide +kernel)) ggX5_lay_X5_answerOf
theorem dX5_lay_0 : decode cX5_lay 0 = .ok (.iload 4, 2) := by decide +kernel
theorem dX5_lay_2 : decode cX5_lay 2 = .ok (.bipush (-5), 2) := by decide +kernel
theorem dX5_lay_4 : decode cX5_lay 4 = .ok (.if_icmp .eq 17, 3) := by decide +kernel
theorem dX5_lay_7 : decode cX5_lay 7 = .ok (.aload_n 0, 1) := by decide +kernel
theorem dX5_lay_8 : decode cX5_lay 8 = .ok (.getfield 10, 3) := by decide +kernel
theorem dX5_lay_11 : decode cX5_lay 11 = .ok (.iload 4, 2) := by decide +kernel
theorem dX5_lay_13 : decode cX5_lay 13 = .ok (.invokevirtual 64, 3) := by decide +kernel
theorem dX5_lay_16 : decode cX5_lay 16 = .ok (.ifCond .ne 5, 3) := by decide +kernel
theorem dX5_lay_19 : decode cX5_lay 19 = .ok (.iconst (-1), 1) := by decide +kernel
theorem dX5_lay_20 : decode cX5_lay 20 = .ok (.ireturn, 1) := by decide +kernel
theorem dX5_lay_21 : decode cX5_lay 21 = .ok (.aload_n 0, 1) := by decide +kernel
theorem dX5_lay_22 : decode cX5_lay 22 = .ok (.iload_n 1, 1) := by decide +kernel
theorem dX5_lay_23 : decode cX5_lay 23 = .ok (.iload_n 2, 1) := by decide +kernel
theorem dX5_lay_24 : decode cX5_lay 24 = .ok (.bipush 7, 2) := by decide +kernel
theorem dX5_lay_26 : decode cX5_lay 26 = .ok (.bipush 15, 2) := by decide +kernel
theorem dX5_lay_28 : decode cX5_lay 28 = .ok (.invokevirtual 56, 3) := by decide +kernel
theorem dX5_lay_31 : decode cX5_lay 31 = .ok (.istore 5, 2) := by decide +kernel
theorem dX5_lay_33 : decode cX5_lay 33 = .ok (.iload 5, 2) := by decide +kernel
theorem dX5_lay_35 : decode cX5_lay 35 = .ok (.ifCond .eq 6, 3) := by decide +kernel
theorem dX5_lay_38 : decode cX5_lay 38 = .ok (.iload 5, 2) := by decide +kernel
theorem dX5_lay_40 : decode cX5_lay 40 = .ok (.ireturn, 1) := by decide +kernel
theorem dX5_lay_41 : decode cX5_lay 41 = .ok (.aload_n 0, 1) := by decide +kernel
theorem dX5_lay_42 : decode cX5_lay 42 = .ok (.getfield 10, 3) := by decide +kernel
theorem dX5_lay_45 : decode cX5_lay 45 = .ok (.iload_n 1, 1) := by decide +kernel
theorem dX5_lay_46 : decode cX5_lay 46 = .ok (.iload_n 2, 1) := by decide +kernel
theorem dX5_lay_47 : decode cX5_lay 47 = .ok (.invokevirtual 60, 3) := by decide +kernel
theorem dX5_lay_50 : decode cX5_lay 50 = .ok (.ifCond .eq 18, 3) := by decide +kernel
theorem dX5_lay_53 : decode cX5_lay 53 = .ok (.aload_n 0, 1) := by decide +kernel
theorem dX5_lay_54 : decode cX5_lay 54 = .ok (.iload_n 1, 1) := by decide +kernel
theorem dX5_lay_55 : decode cX5_lay 55 = .ok (.iload_n 3, 1) := by decide +kernel
theorem dX5_lay_56 : decode cX5_lay 56 = .ok (.iload 4, 2) := by decide +kernel
theorem dX5_lay_58 : decode cX5_lay 58 = .ok (.iload_n 2, 1) := by decide +kernel
theorem dX5_lay_59 : decode cX5_lay 59 = .ok (.invokestatic 101, 3) := by decide +kernel
theorem dX5_lay_62 : decode cX5_lay 62 = .ok (.invokevirtual 104, 3) := by decide +kernel
theorem dX5_lay_65 : decode cX5_lay 65 = .ok (.goto 4, 3) := by decide +kernel
theorem dX5_lay_68 : decode cX5_lay 68 = .ok (.iconst 1, 1) := by decide +kernel
theorem dX5_lay_69 : decode cX5_lay 69 = .ok (.istore 6, 2) := by decide +kernel
theorem dX5_lay_71 : decode cX5_lay 71 = .ok (.iload 6, 2) := by decide +kernel
theorem dX5_lay_73 : decode cX5_lay 73 = .ok (.ifCond .ne 7, 3) := by decide +kernel
theorem dX5_lay_76 : decode cX5_lay 76 = .ok (.iconst 1, 1) := by decide +kernel
theorem dX5_lay_77 : decode cX5_lay 77 = .ok (.goto 9, 3) := by decide +kernel
theorem dX5_lay_80 : decode cX5_lay 80 = .ok (.aload_n 0, 1) := by decide +kernel
theorem dX5_lay_81 : decode cX5_lay 81 = .ok (.iload 6, 2) := by decide +kernel
theorem dX5_lay_83 : decode cX5_lay 83 = .ok (.invokevirtual 52, 3) := by decide +kernel
theorem dX5_lay_86 : decode cX5_lay 86 = .ok (.ireturn, 1) := by decide +kernel
set_option maxRecDepth 20000 in
theorem ggX5_place_X5_refusalOf : GoodIn wsX5_place wsX5_refusalOf := goodIn_r _ [6, 1, 7, 8, 9, 10, 11, 12, 47, 48, 49, 50, 51, 52, 53, 54, 55, 56, 57] (by decide +kernel) (by decide +kernel)
set_option maxRecDepth 20000 in
theorem gX5_place_X5_refusalOf : GoodIn wsX5_place (wsV RX5 56 RX5 yX5_refusalOf wsX5_refusalOf) := goodIn_app (goodIn_of _ (by decide +kernel)) ggX5_place_X5_refusalOf
set_option maxRecDepth 20000 in
theorem ggX5_place_X5_findingAt : GoodIn wsX5_place wsX5_findingAt := goodIn_ca (goodIn_r _ [16, 1, 17, 18, 19, 10, 20, 21, 22, 8, 9, 11, 12, 23, 5, 24, 25, 26, 27, 28, 29, 47, 48, 49, 50, 51, 52, 53, 54, 55, 56, 57] (by decide +kernel) (by decide +kernel)) (goodIn_sub (fun _ h => List.mem_cons_of_mem _ (List.mem_append_right _ h)) (by decide +kernel))
set_option maxRecDepth 20000 in
theorem gX5_place_X5_findingAt : GoodIn wsX5_place (wsV RX5 78 RX5 yX5_findingAt wsX5_findingAt) := goodIn_app (goodIn_of _ (by decide +kernel)) ggX5_place_X5_findingAt
set_option maxRecDepth 20000 in
theorem ggX5_place_X4_memberAt : GoodIn wsX5_place wsX4_memberAt := goodIn_ca (goodIn_r _ [33, 34, 35, 26, 27, 10, 28, 12, 29, 52, 53, 54, 55, 56, 57] (by decide +kernel) (by decide +kernel)) (goodIn_sub (fun _ h => List.mem_cons_of_mem _ (List.mem_append_right _ h)) (by decide +kernel))
set_option maxRecDepth 20000 in
theorem gX5_place_X4_memberAt : GoodIn wsX5_place (wsV RX5 107 RX4 yX4_memberAt wsX4_memberAt) := goodIn_app (goodIn_of _ (by decide +kernel)) ggX5_place_X4_memberAt
set_option maxRecDepth 20000 in
theorem ggX5_place_X5_answerOf : GoodIn wsX5_place wsX5_answerOf := goodIn_ca (goodIn_r _ [39, 40, 41, 42, 43, 44, 45, 46, 47, 48, 49, 50, 51, 58, 59, 60, 61] (by decide +kernel) (by decide +kernel)) (goodIn_sub (fun _ h => List.mem_cons_of_mem _ (List.mem_append_right _ h)) (by decide +kernel))
set_option maxRecDepth 20000 in
theorem gX5_place_X5_answerOf : GoodIn wsX5_place (wsV RX5 52 RX5 yX5_answerOf wsX5_answerOf) := goodIn_app (goodIn_of _ (by decide +kernel)) ggX5_place_X5_answerOf
theorem dX5_place_0 : decode cX5_place 0 = .ok (.aload_n 0, 1) := by decide +kernel
theorem dX5_place_1 : decode cX5_place 1 = .ok (.iload_n 1, 1) := by decide +kernel
theorem dX5_place_2 : decode cX5_place 2 = .ok (.iload_n 2, 1) := by decide +kernel
theorem dX5_place_3 : decode cX5_place 3 = .ok (.bipush 7, 2) := by decide +kernel
theorem dX5_place_5 : decode cX5_place 5 = .ok (.bipush 15, 2) := by decide +kernel
theorem dX5_place_7 : decode cX5_place 7 = .ok (.invokevirtual 56, 3) := by decide +kernel
theorem dX5_place_10 : decode cX5_place 10 = .ok (.istore 4, 2) := by decide +kernel
theorem dX5_place_12 : decode cX5_place 12 = .ok (.iload 4, 2) := by decide +kernel
theorem dX5_place_14 : decode cX5_place 14 = .ok (.ifCond .eq 6, 3) := by decide +kernel
theorem dX5_place_17 : decode cX5_place 17 = .ok (.iload 4, 2) := by decide +kernel
theorem dX5_place_19 : decode cX5_place 19 = .ok (.ireturn, 1) := by decide +kernel
theorem dX5_place_20 : decode cX5_place 20 = .ok (.aload_n 0, 1) := by decide +kernel
theorem dX5_place_21 : decode cX5_place 21 = .ok (.iload_n 1, 1) := by decide +kernel
theorem dX5_place_22 : decode cX5_place 22 = .ok (.iload_n 2, 1) := by decide +kernel
theorem dX5_place_23 : decode cX5_place 23 = .ok (.iload_n 3, 1) := by decide +kernel
theorem dX5_place_24 : decode cX5_place 24 = .ok (.invokevirtual 78, 3) := by decide +kernel
theorem dX5_place_27 : decode cX5_place 27 = .ok (.istore 5, 2) := by decide +kernel
theorem dX5_place_29 : decode cX5_place 29 = .ok (.iload 5, 2) := by decide +kernel
theorem dX5_place_31 : decode cX5_place 31 = .ok (.ifCond .ne 15, 3) := by decide +kernel
theorem dX5_place_34 : decode cX5_place 34 = .ok (.aload_n 0, 1) := by decide +kernel
theorem dX5_place_35 : decode cX5_place 35 = .ok (.getfield 10, 3) := by decide +kernel
theorem dX5_place_38 : decode cX5_place 38 = .ok (.iload_n 1, 1) := by decide +kernel
theorem dX5_place_39 : decode cX5_place 39 = .ok (.iload_n 3, 1) := by decide +kernel
theorem dX5_place_40 : decode cX5_place 40 = .ok (.invokevirtual 107, 3) := by decide +kernel
theorem dX5_place_43 : decode cX5_place 43 = .ok (.goto 9, 3) := by decide +kernel
theorem dX5_place_46 : decode cX5_place 46 = .ok (.aload_n 0, 1) := by decide +kernel
theorem dX5_place_47 : decode cX5_place 47 = .ok (.iload 5, 2) := by decide +kernel
theorem dX5_place_49 : decode cX5_place 49 = .ok (.invokevirtual 52, 3) := by decide +kernel
theorem dX5_place_52 : decode cX5_place 52 = .ok (.ireturn, 1) := by decide +kernel
set_option maxRecDepth 20000 in
theorem ggX5_station_X2_add : GoodIn wsX5_station wsX2_add := goodIn_ca (goodIn_r _ [6, 7, 8, 9, 10, 11, 17, 18, 19, 20, 21] (by decide +kernel) (by decide +kernel)) (goodIn_sub (fun _ h => List.mem_cons_of_mem _ (List.mem_append_right _ h)) (by decide +kernel))
set_option maxRecDepth 20000 in
theorem gX5_station_X2_add : GoodIn wsX5_station (wsV RX5 111 RX2 yX2_add wsX2_add) := goodIn_app (goodIn_of _ (by decide +kernel)) ggX5_station_X2_add
theorem dX5_station_0 : decode cX5_station 0 = .ok (.iload_n 1, 1) := by decide +kernel
theorem dX5_station_1 : decode cX5_station 1 = .ok (.ifCond .lt 19, 3) := by decide +kernel
theorem dX5_station_4 : decode cX5_station 4 = .ok (.iload_n 1, 1) := by decide +kernel
theorem dX5_station_5 : decode cX5_station 5 = .ok (.bipush 17, 2) := by decide +kernel
theorem dX5_station_7 : decode cX5_station 7 = .ok (.if_icmp .gt 13, 3) := by decide +kernel
theorem dX5_station_10 : decode cX5_station 10 = .ok (.iload_n 2, 1) := by decide +kernel
theorem dX5_station_11 : decode cX5_station 11 = .ok (.ifCond .lt 9, 3) := by decide +kernel
theorem dX5_station_14 : decode cX5_station 14 = .ok (.iload_n 2, 1) := by decide +kernel
theorem dX5_station_15 : decode cX5_station 15 = .ok (.bipush 12, 2) := by decide +kernel
theorem dX5_station_17 : decode cX5_station 17 = .ok (.if_icmp .le 6, 3) := by decide +kernel
theorem dX5_station_20 : decode cX5_station 20 = .ok (.bipush (-2), 2) := by decide +kernel
theorem dX5_station_22 : decode cX5_station 22 = .ok (.ireturn, 1) := by decide +kernel
theorem dX5_station_23 : decode cX5_station 23 = .ok (.aload_n 0, 1) := by decide +kernel
theorem dX5_station_24 : decode cX5_station 24 = .ok (.getfield 19, 3) := by decide +kernel
theorem dX5_station_27 : decode cX5_station 27 = .ok (.iload_n 1, 1) := by decide +kernel
theorem dX5_station_28 : decode cX5_station 28 = .ok (.iload_n 2, 1) := by decide +kernel
theorem dX5_station_29 : decode cX5_station 29 = .ok (.invokevirtual 111, 3) := by decide +kernel
theorem dX5_station_32 : decode cX5_station 32 = .ok (.ireturn, 1) := by decide +kernel
set_option maxRecDepth 20000 in
theorem ggX5_send_X4_hold : GoodIn wsX5_send wsX4_hold := goodIn_r _ [7, 8, 26, 27, 28, 29, 30, 31] (by decide +kernel) (by decide +kernel)
set_option maxRecDepth 20000 in
theorem gX5_send_X4_hold : GoodIn wsX5_send (wsV RX5 64 RX4 yX4_hold wsX4_hold) := goodIn_app (goodIn_of _ (by decide +kernel)) ggX5_send_X4_hold
set_option maxRecDepth 20000 in
theorem ggX5_send_X0_append : GoodIn wsX5_send wsX0_append := goodIn_ca (goodIn_r _ [13, 14, 15, 16, 32, 33, 34] (by decide +kernel) (by decide +kernel)) (goodIn_sub (fun _ h => List.mem_cons_of_mem _ (List.mem_append_right _ h)) (by decide +kernel))
set_option maxRecDepth 20000 in
theorem gX5_send_X0_append : GoodIn wsX5_send (wsV RX5 113 RX0 yX0_append wsX0_append) := goodIn_app (goodIn_of _ (by decide +kernel)) ggX5_send_X0_append
set_option maxRecDepth 20000 in
theorem ggX5_send_X0_size : GoodIn wsX5_send wsX0_size := goodIn_r _ [20, 14, 32, 33, 34] (by decide +kernel) (by decide +kernel)
set_option maxRecDepth 20000 in
theorem gX5_send_X0_size : GoodIn wsX5_send (wsV RX5 116 RX0 yX0_size wsX0_size) := goodIn_app (goodIn_of _ (by decide +kernel)) ggX5_send_X0_size
theorem dX5_send_0 : decode cX5_send 0 = .ok (.aload_n 0, 1) := by decide +kernel
theorem dX5_send_1 : decode cX5_send 1 = .ok (.getfield 10, 3) := by decide +kernel
theorem dX5_send_4 : decode cX5_send 4 = .ok (.iload_n 1, 1) := by decide +kernel
theorem dX5_send_5 : decode cX5_send 5 = .ok (.invokevirtual 64, 3) := by decide +kernel
theorem dX5_send_8 : decode cX5_send 8 = .ok (.ifCond .ne 5, 3) := by decide +kernel
theorem dX5_send_11 : decode cX5_send 11 = .ok (.iconst (-1), 1) := by decide +kernel
theorem dX5_send_12 : decode cX5_send 12 = .ok (.ireturn, 1) := by decide +kernel
theorem dX5_send_13 : decode cX5_send 13 = .ok (.aload_n 0, 1) := by decide +kernel
theorem dX5_send_14 : decode cX5_send 14 = .ok (.getfield 26, 3) := by decide +kernel
theorem dX5_send_17 : decode cX5_send 17 = .ok (.iload_n 1, 1) := by decide +kernel
theorem dX5_send_18 : decode cX5_send 18 = .ok (.invokevirtual 113, 3) := by decide +kernel
theorem dX5_send_21 : decode cX5_send 21 = .ok (.ifCond .eq 13, 3) := by decide +kernel
theorem dX5_send_24 : decode cX5_send 24 = .ok (.aload_n 0, 1) := by decide +kernel
theorem dX5_send_25 : decode cX5_send 25 = .ok (.getfield 26, 3) := by decide +kernel
theorem dX5_send_28 : decode cX5_send 28 = .ok (.invokevirtual 116, 3) := by decide +kernel
theorem dX5_send_31 : decode cX5_send 31 = .ok (.goto 5, 3) := by decide +kernel
theorem dX5_send_34 : decode cX5_send 34 = .ok (.bipush (-4), 2) := by decide +kernel
theorem dX5_send_36 : decode cX5_send 36 = .ok (.ireturn, 1) := by decide +kernel
set_option maxRecDepth 20000 in
theorem ggX5_step_X0_size : GoodIn wsX5_step wsX0_size := goodIn_r _ [8, 9, 213, 214, 215] (by decide +kernel) (by decide +kernel)
set_option maxRecDepth 20000 in
theorem gX5_step_X0_size : GoodIn wsX5_step (wsV RX5 116 RX0 yX0_size wsX0_size) := goodIn_app (goodIn_of _ (by decide +kernel)) ggX5_step_X0_size
set_option maxRecDepth 20000 in
theorem ggX5_step_X0_takeFirst : GoodIn wsX5_step wsX0_takeFirst := goodIn_ca (goodIn_r _ [13, 9, 14, 15, 213, 214, 215] (by decide +kernel) (by decide +kernel)) (goodIn_sub (fun _ h => List.mem_cons_of_mem _ (List.mem_append_right _ h)) (by decide +kernel))
set_option maxRecDepth 20000 in
theorem gX5_step_X0_takeFirst : GoodIn wsX5_step (wsV RX5 120 RX0 yX0_takeFirst wsX0_takeFirst) := goodIn_app (goodIn_of _ (by decide +kernel)) ggX5_step_X0_takeFirst
set_option maxRecDepth 20000 in
theorem ggX5_step_X5_stationFor : GoodIn wsX5_step wsX5_stationFor := goodIn_ca (goodIn_r _ [20, 21, 22, 23, 24, 25, 26, 27, 28, 29, 30, 31, 32, 33, 34, 35, 36, 37, 38, 39, 40, 41, 42, 43, 44, 45, 46, 47, 48, 49, 19, 50, 208, 209, 210, 211, 212, 216, 217, 218, 219, 220, 221, 222, 223, 224, 225, 226] (by decide +kernel) (by decide +kernel)) (goodIn_sub (fun _ h => List.mem_cons_of_mem _ (List.mem_append_right _ h)) (by decide +kernel))
set_option maxRecDepth 20000 in
theorem gX5_step_X5_stationFor : GoodIn wsX5_step (wsV RX5 123 RX5 yX5_stationFor wsX5_stationFor) := goodIn_app (goodIn_of _ (by decide +kernel)) ggX5_step_X5_stationFor
set_option maxRecDepth 20000 in
theorem ggX5_step_X3_addPassed : GoodIn wsX5_step wsX3_addPassed := goodIn_r _ [55, 56, 227, 228, 229, 230] (by decide +kernel) (by decide +kernel)
set_option maxRecDepth 20000 in
theorem gX5_step_X3_addPassed : GoodIn wsX5_step (wsV RX5 126 RX3 yX3_addPassed wsX3_addPassed) := goodIn_app (goodIn_of _ (by decide +kernel)) ggX5_step_X3_addPassed
set_option maxRecDepth 20000 in
theorem ggX5_step_X5_workOn : GoodIn wsX5_step wsX5_workOn := goodIn_ca (goodIn_r _ [60, 21, 22, 61, 62, 63, 26, 64, 65, 34, 35, 36, 37, 28, 66, 67, 19, 68, 38, 39, 40, 41, 42, 43, 44, 45, 46, 47, 48, 49, 50, 69, 70, 71, 72, 73, 74, 75, 76, 77, 78, 79, 80, 81, 82, 83, 84, 85, 86, 87, 88, 89, 90, 91, 92, 93, 94, 95, 96, 97, 98, 99, 100, 101, 102, 103, 104, 105, 106, 107, 108, 109, 110, 111, 112, 113, 114, 115, 116, 117, 118, 119, 120, 121, 122, 123, 124, 125, 126, 127, 128, 129, 130, 131, 132, 133, 134, 135, 136, 137, 138, 139, 140, 141, 142, 143, 144, 145, 146, 147, 148, 149, 150, 151, 152, 153, 154, 155, 156, 157, 158, 159, 160, 161, 162, 163, 164, 165, 166, 167, 168, 169, 170, 1, 171, 172, 173, 7, 174, 9, 14, 15, 208, 209, 210, 211, 212, 216, 217, 218, 219, 220, 221, 222, 223, 224, 225, 226, 213, 214, 215] (by decide +kernel) (by decide +kernel)) (goodIn_sub (fun _ h => List.mem_cons_of_mem _ (List.mem_append_right _ h)) (by decide +kernel))
set_option maxRecDepth 20000 in
theorem gX5_step_X5_workOn : GoodIn wsX5_step (wsV RX5 129 RX5 yX5_workOn wsX5_workOn) := goodIn_app (goodIn_of _ (by decide +kernel)) ggX5_step_X5_workOn
set_option maxRecDepth 20000 in
theorem ggX5_step_X1_add : GoodIn wsX5_step wsX1_add := goodIn_ca (goodIn_r _ [179, 180, 181, 182, 183, 184, 185, 186, 187, 188, 231, 232, 233, 234, 235] (by decide +kernel) (by decide +kernel)) (goodIn_sub (fun _ h => List.mem_cons_of_mem _ (List.mem_append_right _ h)) (by decide +kernel))
set_option maxRecDepth 20000 in
theorem gX5_step_X1_add : GoodIn wsX5_step (wsV RX5 132 RX1 yX1_add wsX1_add) := goodIn_app (goodIn_of _ (by decide +kernel)) ggX5_step_X1_add
set_option maxRecDepth 20000 in
theorem ggX5_step_X3_addFailed : GoodIn wsX5_step wsX3_addFailed := goodIn_r _ [192, 193, 227, 228, 229, 230] (by decide +kernel) (by decide +kernel)
set_option maxRecDepth 20000 in
theorem gX5_step_X3_addFailed : GoodIn wsX5_step (wsV RX5 135 RX3 yX3_addFailed wsX3_addFailed) := goodIn_app (goodIn_of _ (by decide +kernel)) ggX5_step_X3_addFailed
set_option maxRecDepth 20000 in
theorem ggX5_step_X5_answerOf : GoodIn wsX5_step wsX5_answerOf := goodIn_ca (goodIn_r _ [197, 2, 198, 199, 200, 54, 201, 202, 208, 209, 210, 211, 212, 227, 228, 229, 230] (by decide +kernel) (by decide +kernel)) (goodIn_sub (fun _ h => List.mem_cons_of_mem _ (List.mem_append_right _ h)) (by decide +kernel))
set_option maxRecDepth 20000 in
theorem gX5_step_X5_answerOf : GoodIn wsX5_step (wsV RX5 52 RX5 yX5_answerOf wsX5_answerOf) := goodIn_app (goodIn_of _ (by decide +kernel)) ggX5_step_X5_answerOf
set_option maxRecDepth 20000 in
theorem ggX5_step_X3_addWorked : GoodIn wsX5_step wsX3_addWorked := goodIn_r _ [206, 207, 227, 228, 229, 230] (by decide +kernel) (by decide +kernel)
set_option maxRecDepth 20000 in
theorem gX5_step_X3_addWorked : GoodIn wsX5_step (wsV RX5 138 RX3 yX3_addWorked wsX3_addWorked) := goodIn_app (goodIn_of _ (by decide +kernel)) ggX5_step_X3_addWorked
theorem dX5_step_0 : decode cX5_step 0 = .ok (.aload_n 0, 1) := by decide +kernel
theorem dX5_step_1 : decode cX5_step 1 = .ok (.getfield 26, 3) := by decide +kernel
theorem dX5_step_4 : decode cX5_step 4 = .ok (.invokevirtual 116, 3) := by decide +kernel
theorem dX5_step_7 : decode cX5_step 7 = .ok (.ifCond .ne 6, 3) := by decide +kernel
theorem dX5_step_10 : decode cX5_step 10 = .ok (.bipush (-5), 2) := by decide +kernel
theorem dX5_step_12 : decode cX5_step 12 = .ok (.ireturn, 1) := by decide +kernel
theorem dX5_step_13 : decode cX5_step 13 = .ok (.aload_n 0, 1) := by decide +kernel
theorem dX5_step_14 : decode cX5_step 14 = .ok (.getfield 26, 3) := by decide +kernel
theorem dX5_step_17 : decode cX5_step 17 = .ok (.invokevirtual 120, 3) := by decide +kernel
theorem dX5_step_20 : decode cX5_step 20 = .ok (.istore_n 1, 1) := by decide +kernel
theorem dX5_step_21 : decode cX5_step 21 = .ok (.aload_n 0, 1) := by decide +kernel
theorem dX5_step_22 : decode cX5_step 22 = .ok (.iload_n 1, 1) := by decide +kernel
theorem dX5_step_23 : decode cX5_step 23 = .ok (.invokevirtual 123, 3) := by decide +kernel
theorem dX5_step_26 : decode cX5_step 26 = .ok (.istore_n 2, 1) := by decide +kernel
theorem dX5_step_27 : decode cX5_step 27 = .ok (.iload_n 2, 1) := by decide +kernel
theorem dX5_step_28 : decode cX5_step 28 = .ok (.bipush (-5), 2) := by decide +kernel
theorem dX5_step_30 : decode cX5_step 30 = .ok (.if_icmp .ne 13, 3) := by decide +kernel
theorem dX5_step_33 : decode cX5_step 33 = .ok (.aload_n 0, 1) := by decide +kernel
theorem dX5_step_34 : decode cX5_step 34 = .ok (.getfield 40, 3) := by decide +kernel
theorem dX5_step_37 : decode cX5_step 37 = .ok (.invokevirtual 126, 3) := by decide +kernel
theorem dX5_step_40 : decode cX5_step 40 = .ok (.bipush (-6), 2) := by decide +kernel
theorem dX5_step_42 : decode cX5_step 42 = .ok (.ireturn, 1) := by decide +kernel
theorem dX5_step_43 : decode cX5_step 43 = .ok (.aload_n 0, 1) := by decide +kernel
theorem dX5_step_44 : decode cX5_step 44 = .ok (.iload_n 1, 1) := by decide +kernel
theorem dX5_step_45 : decode cX5_step 45 = .ok (.iload_n 2, 1) := by decide +kernel
theorem dX5_step_46 : decode cX5_step 46 = .ok (.invokevirtual 129, 3) := by decide +kernel
theorem dX5_step_49 : decode cX5_step 49 = .ok (.istore_n 3, 1) := by decide +kernel
theorem dX5_step_50 : decode cX5_step 50 = .ok (.iload_n 3, 1) := by decide +kernel
theorem dX5_step_51 : decode cX5_step 51 = .ok (.ifCond .eq 26, 3) := by decide +kernel
theorem dX5_step_54 : decode cX5_step 54 = .ok (.aload_n 0, 1) := by decide +kernel
theorem dX5_step_55 : decode cX5_step 55 = .ok (.getfield 33, 3) := by decide +kernel
theorem dX5_step_58 : decode cX5_step 58 = .ok (.iload_n 1, 1) := by decide +kernel
theorem dX5_step_59 : decode cX5_step 59 = .ok (.iload_n 2, 1) := by decide +kernel
theorem dX5_step_60 : decode cX5_step 60 = .ok (.iload_n 3, 1) := by decide +kernel
theorem dX5_step_61 : decode cX5_step 61 = .ok (.invokevirtual 132, 3) := by decide +kernel
theorem dX5_step_64 : decode cX5_step 64 = .ok (.aload_n 0, 1) := by decide +kernel
theorem dX5_step_65 : decode cX5_step 65 = .ok (.getfield 40, 3) := by decide +kernel
theorem dX5_step_68 : decode cX5_step 68 = .ok (.invokevirtual 135, 3) := by decide +kernel
theorem dX5_step_71 : decode cX5_step 71 = .ok (.aload_n 0, 1) := by decide +kernel
theorem dX5_step_72 : decode cX5_step 72 = .ok (.iload_n 3, 1) := by decide +kernel
theorem dX5_step_73 : decode cX5_step 73 = .ok (.invokevirtual 52, 3) := by decide +kernel
theorem dX5_step_76 : decode cX5_step 76 = .ok (.ireturn, 1) := by decide +kernel
theorem dX5_step_77 : decode cX5_step 77 = .ok (.aload_n 0, 1) := by decide +kernel
theorem dX5_step_78 : decode cX5_step 78 = .ok (.getfield 40, 3) := by decide +kernel
theorem dX5_step_81 : decode cX5_step 81 = .ok (.invokevirtual 138, 3) := by decide +kernel
theorem dX5_step_84 : decode cX5_step 84 = .ok (.iload_n 2, 1) := by decide +kernel
theorem dX5_step_85 : decode cX5_step 85 = .ok (.ireturn, 1) := by decide +kernel
set_option maxRecDepth 20000 in
theorem ggX5_run_X0_size : GoodIn wsX5_run wsX0_size := goodIn_r _ [6, 7, 217, 218, 219] (by decide +kernel) (by decide +kernel)
set_option maxRecDepth 20000 in
theorem gX5_run_X0_size : GoodIn wsX5_run (wsV RX5 116 RX0 yX0_size wsX0_size) := goodIn_app (goodIn_of _ (by decide +kernel)) ggX5_run_X0_size
set_option maxRecDepth 20000 in
theorem ggX5_run_X5_step : GoodIn wsX5_run wsX5_step := goodIn_ca (goodIn_r _ [12, 1, 13, 14, 2, 3, 4, 5, 6, 7, 15, 16, 17, 18, 19, 20, 21, 22, 23, 11, 24, 25, 26, 27, 28, 29, 30, 31, 32, 33, 34, 35, 36, 37, 38, 39, 40, 41, 42, 43, 44, 45, 46, 47, 48, 49, 50, 51, 52, 53, 54, 55, 56, 57, 58, 59, 60, 61, 62, 63, 64, 65, 66, 67, 68, 69, 70, 71, 72, 73, 74, 75, 76, 77, 78, 79, 80, 81, 82, 83, 84, 85, 86, 87, 88, 89, 90, 91, 92, 93, 94, 95, 96, 97, 98, 99, 100, 101, 102, 103, 104, 105, 106, 107, 108, 109, 110, 111, 112, 113, 114, 115, 116, 117, 118, 119, 120, 121, 122, 123, 124, 125, 126, 127, 128, 129, 130, 131, 132, 133, 134, 135, 136, 137, 138, 139, 140, 141, 142, 143, 144, 145, 146, 147, 148, 149, 150, 151, 152, 153, 154, 155, 156, 157, 158, 159, 160, 161, 162, 163, 164, 165, 166, 167, 168, 169, 170, 171, 172, 173, 174, 175, 176, 177, 178, 179, 180, 181, 182, 183, 184, 185, 186, 187, 188, 189, 190, 191, 192, 193, 194, 195, 196, 197, 198, 199, 200, 201, 202, 203, 204, 205, 206, 207, 208, 209, 210, 211, 212, 213, 214, 215, 216, 217, 218, 219, 220, 221, 222, 223, 224, 225, 226, 227, 228, 229, 230, 231, 232, 233, 234, 235, 236, 237, 238, 239] (by decide +kernel) (by decide +kernel)) (goodIn_sub (fun _ h => List.mem_cons_of_mem _ (List.mem_append_right _ h)) (by decide +kernel))
set_option maxRecDepth 20000 in
theorem gX5_run_X5_step : GoodIn wsX5_run (wsV RX5 141 RX5 yX5_step wsX5_step) := goodIn_app (goodIn_of _ (by decide +kernel)) ggX5_run_X5_step
theorem dX5_run_0 : decode cX5_run 0 = .ok (.iload_n 1, 1) := by decide +kernel
theorem dX5_run_1 : decode cX5_run 1 = .ok (.ifCond .lt 9, 3) := by decide +kernel
theorem dX5_run_4 : decode cX5_run 4 = .ok (.iload_n 1, 1) := by decide +kernel
theorem dX5_run_5 : decode cX5_run 5 = .ok (.bipush 100, 2) := by decide +kernel
theorem dX5_run_7 : decode cX5_run 7 = .ok (.if_icmp .le 6, 3) := by decide +kernel
theorem dX5_run_10 : decode cX5_run 10 = .ok (.bipush (-2), 2) := by decide +kernel
theorem dX5_run_12 : decode cX5_run 12 = .ok (.ireturn, 1) := by decide +kernel
theorem dX5_run_13 : decode cX5_run 13 = .ok (.iconst 0, 1) := by decide +kernel
theorem dX5_run_14 : decode cX5_run 14 = .ok (.istore_n 2, 1) := by decide +kernel
theorem dX5_run_15 : decode cX5_run 15 = .ok (.iconst 0, 1) := by decide +kernel
theorem dX5_run_16 : decode cX5_run 16 = .ok (.istore_n 3, 1) := by decide +kernel
theorem dX5_run_17 : decode cX5_run 17 = .ok (.iload_n 3, 1) := by decide +kernel
theorem dX5_run_18 : decode cX5_run 18 = .ok (.iload_n 1, 1) := by decide +kernel
theorem dX5_run_19 : decode cX5_run 19 = .ok (.if_icmp .ge 38, 3) := by decide +kernel
theorem dX5_run_22 : decode cX5_run 22 = .ok (.aload_n 0, 1) := by decide +kernel
theorem dX5_run_23 : decode cX5_run 23 = .ok (.getfield 26, 3) := by decide +kernel
theorem dX5_run_26 : decode cX5_run 26 = .ok (.invokevirtual 116, 3) := by decide +kernel
theorem dX5_run_29 : decode cX5_run 29 = .ok (.ifCond .le 28, 3) := by decide +kernel
theorem dX5_run_32 : decode cX5_run 32 = .ok (.iload_n 2, 1) := by decide +kernel
theorem dX5_run_33 : decode cX5_run 33 = .ok (.aload_n 0, 1) := by decide +kernel
theorem dX5_run_34 : decode cX5_run 34 = .ok (.invokevirtual 141, 3) := by decide +kernel
theorem dX5_run_37 : decode cX5_run 37 = .ok (.bipush (-20), 2) := by decide +kernel
theorem dX5_run_39 : decode cX5_run 39 = .ok (.if_icmp .ge 9, 3) := by decide +kernel
theorem dX5_run_42 : decode cX5_run 42 = .ok (.sipush 1000, 3) := by decide +kernel
theorem dX5_run_45 : decode cX5_run 45 = .ok (.goto 4, 3) := by decide +kernel
theorem dX5_run_48 : decode cX5_run 48 = .ok (.iconst 1, 1) := by decide +kernel
theorem dX5_run_49 : decode cX5_run 49 = .ok (.iadd, 1) := by decide +kernel
theorem dX5_run_50 : decode cX5_run 50 = .ok (.istore_n 2, 1) := by decide +kernel
theorem dX5_run_51 : decode cX5_run 51 = .ok (.iinc 3 1, 3) := by decide +kernel
theorem dX5_run_54 : decode cX5_run 54 = .ok (.goto (-37), 3) := by decide +kernel
theorem dX5_run_57 : decode cX5_run 57 = .ok (.iload_n 2, 1) := by decide +kernel
theorem dX5_run_58 : decode cX5_run 58 = .ok (.ireturn, 1) := by decide +kernel
set_option maxRecDepth 20000 in
theorem ggX5_total_X2_totalOf : GoodIn wsX5_total wsX2_totalOf := goodIn_ca (goodIn_r _ [6, 7, 8, 9, 10, 5, 11, 12, 18, 19, 20, 21, 22] (by decide +kernel) (by decide +kernel)) (goodIn_sub (fun _ h => List.mem_cons_of_mem _ (List.mem_append_right _ h)) (by decide +kernel))
set_option maxRecDepth 20000 in
theorem gX5_total_X2_totalOf : GoodIn wsX5_total (wsV RX5 144 RX2 yX2_totalOf wsX2_totalOf) := goodIn_app (goodIn_of _ (by decide +kernel)) ggX5_total_X2_totalOf
theorem dX5_total_0 : decode cX5_total 0 = .ok (.aload_n 0, 1) := by decide +kernel
theorem dX5_total_1 : decode cX5_total 1 = .ok (.getfield 19, 3) := by decide +kernel
theorem dX5_total_4 : decode cX5_total 4 = .ok (.iload_n 1, 1) := by decide +kernel
theorem dX5_total_5 : decode cX5_total 5 = .ok (.invokevirtual 144, 3) := by decide +kernel
theorem dX5_total_8 : decode cX5_total 8 = .ok (.lreturn, 1) := by decide +kernel
set_option maxRecDepth 20000 in
theorem ggX5_slot_X2_hold : GoodIn wsX5_slot wsX2_hold := goodIn_r _ [6, 7, 19, 20, 21, 22, 23] (by decide +kernel) (by decide +kernel)
set_option maxRecDepth 20000 in
theorem gX5_slot_X2_hold : GoodIn wsX5_slot (wsV RX5 148 RX2 yX2_hold wsX2_hold) := goodIn_app (goodIn_of _ (by decide +kernel)) ggX5_slot_X2_hold
set_option maxRecDepth 20000 in
theorem ggX5_slot_X2_slotOf : GoodIn wsX5_slot wsX2_slotOf := goodIn_ca (goodIn_r _ [11, 12, 13, 3, 4, 5, 6, 7, 19, 20, 21, 22, 23] (by decide +kernel) (by decide +kernel)) (goodIn_sub (fun _ h => List.mem_cons_of_mem _ (List.mem_append_right _ h)) (by decide +kernel))
set_option maxRecDepth 20000 in
theorem gX5_slot_X2_slotOf : GoodIn wsX5_slot (wsV RX5 149 RX2 yX2_slotOf wsX2_slotOf) := goodIn_app (goodIn_of _ (by decide +kernel)) ggX5_slot_X2_slotOf
theorem dX5_slot_0 : decode cX5_slot 0 = .ok (.aload_n 0, 1) := by decide +kernel
theorem dX5_slot_1 : decode cX5_slot 1 = .ok (.getfield 19, 3) := by decide +kernel
theorem dX5_slot_4 : decode cX5_slot 4 = .ok (.iload_n 1, 1) := by decide +kernel
theorem dX5_slot_5 : decode cX5_slot 5 = .ok (.invokevirtual 148, 3) := by decide +kernel
theorem dX5_slot_8 : decode cX5_slot 8 = .ok (.ifCond .eq 14, 3) := by decide +kernel
theorem dX5_slot_11 : decode cX5_slot 11 = .ok (.aload_n 0, 1) := by decide +kernel
theorem dX5_slot_12 : decode cX5_slot 12 = .ok (.getfield 19, 3) := by decide +kernel
theorem dX5_slot_15 : decode cX5_slot 15 = .ok (.iload_n 1, 1) := by decide +kernel
theorem dX5_slot_16 : decode cX5_slot 16 = .ok (.invokevirtual 149, 3) := by decide +kernel
theorem dX5_slot_19 : decode cX5_slot 19 = .ok (.goto 4, 3) := by decide +kernel
theorem dX5_slot_22 : decode cX5_slot 22 = .ok (.iconst (-1), 1) := by decide +kernel
theorem dX5_slot_23 : decode cX5_slot 23 = .ok (.ireturn, 1) := by decide +kernel
set_option maxRecDepth 20000 in
theorem ggX5_belt_X0_thingAt : GoodIn wsX5_belt wsX0_thingAt := goodIn_ca (goodIn_r _ [6, 7, 8, 9, 15, 16, 17] (by decide +kernel) (by decide +kernel)) (goodIn_sub (fun _ h => List.mem_cons_of_mem _ (List.mem_append_right _ h)) (by decide +kernel))
set_option maxRecDepth 20000 in
theorem gX5_belt_X0_thingAt : GoodIn wsX5_belt (wsV RX5 152 RX0 yX0_thingAt wsX0_thingAt) := goodIn_app (goodIn_of _ (by decide +kernel)) ggX5_belt_X0_thingAt
theorem dX5_belt_0 : decode cX5_belt 0 = .ok (.aload_n 0, 1) := by decide +kernel
theorem dX5_belt_1 : decode cX5_belt 1 = .ok (.getfield 26, 3) := by decide +kernel
theorem dX5_belt_4 : decode cX5_belt 4 = .ok (.iload_n 1, 1) := by decide +kernel
theorem dX5_belt_5 : decode cX5_belt 5 = .ok (.invokevirtual 152, 3) := by decide +kernel
theorem dX5_belt_8 : decode cX5_belt 8 = .ok (.ireturn, 1) := by decide +kernel
set_option maxRecDepth 20000 in
theorem ggX5_side_X1_tell : GoodIn wsX5_side wsX1_tell := goodIn_ca (goodIn_r _ [6, 7, 8, 9, 10, 11, 17, 18, 19, 20, 21] (by decide +kernel) (by decide +kernel)) (goodIn_sub (fun _ h => List.mem_cons_of_mem _ (List.mem_append_right _ h)) (by decide +kernel))
set_option maxRecDepth 20000 in
theorem gX5_side_X1_tell : GoodIn wsX5_side (wsV RX5 155 RX1 yX1_tell wsX1_tell) := goodIn_app (goodIn_of _ (by decide +kernel)) ggX5_side_X1_tell
theorem dX5_side_0 : decode cX5_side 0 = .ok (.iload_n 2, 1) := by decide +kernel
theorem dX5_side_1 : decode cX5_side 1 = .ok (.ifCond .lt 8, 3) := by decide +kernel
theorem dX5_side_4 : decode cX5_side 4 = .ok (.iload_n 2, 1) := by decide +kernel
theorem dX5_side_5 : decode cX5_side 5 = .ok (.iconst 2, 1) := by decide +kernel
theorem dX5_side_6 : decode cX5_side 6 = .ok (.if_icmp .le 6, 3) := by decide +kernel
theorem dX5_side_9 : decode cX5_side 9 = .ok (.bipush (-2), 2) := by decide +kernel
theorem dX5_side_11 : decode cX5_side 11 = .ok (.ireturn, 1) := by decide +kernel
theorem dX5_side_12 : decode cX5_side 12 = .ok (.aload_n 0, 1) := by decide +kernel
theorem dX5_side_13 : decode cX5_side 13 = .ok (.getfield 33, 3) := by decide +kernel
theorem dX5_side_16 : decode cX5_side 16 = .ok (.iload_n 1, 1) := by decide +kernel
theorem dX5_side_17 : decode cX5_side 17 = .ok (.iload_n 2, 1) := by decide +kernel
theorem dX5_side_18 : decode cX5_side 18 = .ok (.invokevirtual 155, 3) := by decide +kernel
theorem dX5_side_21 : decode cX5_side 21 = .ok (.ireturn, 1) := by decide +kernel
set_option maxRecDepth 20000 in
theorem ggX5_count_X4_howMany : GoodIn wsX5_count wsX4_howMany := goodIn_r _ [9, 10, 38, 39, 40, 41, 42, 43] (by decide +kernel) (by decide +kernel)
set_option maxRecDepth 20000 in
theorem gX5_count_X4_howMany : GoodIn wsX5_count (wsV RX5 158 RX4 yX4_howMany wsX4_howMany) := goodIn_app (goodIn_of _ (by decide +kernel)) ggX5_count_X4_howMany
set_option maxRecDepth 20000 in
theorem ggX5_count_X2_howMany : GoodIn wsX5_count wsX2_howMany := goodIn_r _ [15, 16, 44, 45, 46, 47, 48] (by decide +kernel) (by decide +kernel)
set_option maxRecDepth 20000 in
theorem gX5_count_X2_howMany : GoodIn wsX5_count (wsV RX5 161 RX2 yX2_howMany wsX2_howMany) := goodIn_app (goodIn_of _ (by decide +kernel)) ggX5_count_X2_howMany
set_option maxRecDepth 20000 in
theorem ggX5_count_X0_size : GoodIn wsX5_count wsX0_size := goodIn_r _ [21, 22, 49, 50, 51] (by decide +kernel) (by decide +kernel)
set_option maxRecDepth 20000 in
theorem gX5_count_X0_size : GoodIn wsX5_count (wsV RX5 116 RX0 yX0_size wsX0_size) := goodIn_app (goodIn_of _ (by decide +kernel)) ggX5_count_X0_size
set_option maxRecDepth 20000 in
theorem ggX5_count_X3_foundOf : GoodIn wsX5_count wsX3_foundOf := goodIn_ca (goodIn_r _ [27, 28, 34, 35, 36, 37] (by decide +kernel) (by decide +kernel)) (goodIn_sub (fun _ h => List.mem_cons_of_mem _ (List.mem_append_right _ h)) (by decide +kernel))
set_option maxRecDepth 20000 in
theorem gX5_count_X3_foundOf : GoodIn wsX5_count (wsV RX5 172 RX3 yX3_foundOf wsX3_foundOf) := goodIn_app (goodIn_of _ (by decide +kernel)) ggX5_count_X3_foundOf
theorem dX5_count_0 : decode cX5_count 0 = .ok (.iload_n 1, 1) := by decide +kernel
theorem dX5_count_1 : decode cX5_count 1 = .ok (.tableswitch 132 0 10 #[59, 69, 79, 89, 99, 109, 119, 119, 119, 119, 119], 59) := by decide +kernel
theorem dX5_count_60 : decode cX5_count 60 = .ok (.aload_n 0, 1) := by decide +kernel
theorem dX5_count_61 : decode cX5_count 61 = .ok (.getfield 10, 3) := by decide +kernel
theorem dX5_count_64 : decode cX5_count 64 = .ok (.invokevirtual 158, 3) := by decide +kernel
theorem dX5_count_67 : decode cX5_count 67 = .ok (.goto 68, 3) := by decide +kernel
theorem dX5_count_70 : decode cX5_count 70 = .ok (.aload_n 0, 1) := by decide +kernel
theorem dX5_count_71 : decode cX5_count 71 = .ok (.getfield 19, 3) := by decide +kernel
theorem dX5_count_74 : decode cX5_count 74 = .ok (.invokevirtual 161, 3) := by decide +kernel
theorem dX5_count_77 : decode cX5_count 77 = .ok (.goto 58, 3) := by decide +kernel
theorem dX5_count_80 : decode cX5_count 80 = .ok (.aload_n 0, 1) := by decide +kernel
theorem dX5_count_81 : decode cX5_count 81 = .ok (.getfield 26, 3) := by decide +kernel
theorem dX5_count_84 : decode cX5_count 84 = .ok (.invokevirtual 116, 3) := by decide +kernel
theorem dX5_count_87 : decode cX5_count 87 = .ok (.goto 48, 3) := by decide +kernel
theorem dX5_count_90 : decode cX5_count 90 = .ok (.aload_n 0, 1) := by decide +kernel
theorem dX5_count_91 : decode cX5_count 91 = .ok (.getfield 40, 3) := by decide +kernel
theorem dX5_count_94 : decode cX5_count 94 = .ok (.getfield 162, 3) := by decide +kernel
theorem dX5_count_97 : decode cX5_count 97 = .ok (.goto 38, 3) := by decide +kernel
theorem dX5_count_100 : decode cX5_count 100 = .ok (.aload_n 0, 1) := by decide +kernel
theorem dX5_count_101 : decode cX5_count 101 = .ok (.getfield 40, 3) := by decide +kernel
theorem dX5_count_104 : decode cX5_count 104 = .ok (.getfield 166, 3) := by decide +kernel
theorem dX5_count_107 : decode cX5_count 107 = .ok (.goto 28, 3) := by decide +kernel
theorem dX5_count_110 : decode cX5_count 110 = .ok (.aload_n 0, 1) := by decide +kernel
theorem dX5_count_111 : decode cX5_count 111 = .ok (.getfield 40, 3) := by decide +kernel
theorem dX5_count_114 : decode cX5_count 114 = .ok (.getfield 169, 3) := by decide +kernel
theorem dX5_count_117 : decode cX5_count 117 = .ok (.goto 18, 3) := by decide +kernel
theorem dX5_count_120 : decode cX5_count 120 = .ok (.aload_n 0, 1) := by decide +kernel
theorem dX5_count_121 : decode cX5_count 121 = .ok (.getfield 40, 3) := by decide +kernel
theorem dX5_count_124 : decode cX5_count 124 = .ok (.iload_n 1, 1) := by decide +kernel
theorem dX5_count_125 : decode cX5_count 125 = .ok (.iconst 5, 1) := by decide +kernel
theorem dX5_count_126 : decode cX5_count 126 = .ok (.isub, 1) := by decide +kernel
theorem dX5_count_127 : decode cX5_count 127 = .ok (.invokevirtual 172, 3) := by decide +kernel
theorem dX5_count_130 : decode cX5_count 130 = .ok (.goto 5, 3) := by decide +kernel
theorem dX5_count_133 : decode cX5_count 133 = .ok (.bipush (-2), 2) := by decide +kernel
theorem dX5_count_135 : decode cX5_count 135 = .ok (.ireturn, 1) := by decide +kernel
set_option maxRecDepth 20000 in
theorem ggX5_clear_X4_howMany : GoodIn wsX5_clear wsX4_howMany := goodIn_r _ [10, 11, 50, 51, 52, 53, 54, 55] (by decide +kernel) (by decide +kernel)
set_option maxRecDepth 20000 in
theorem gX5_clear_X4_howMany : GoodIn wsX5_clear (wsV RX5 158 RX4 yX4_howMany wsX4_howMany) := goodIn_app (goodIn_of _ (by decide +kernel)) ggX5_clear_X4_howMany
set_option maxRecDepth 20000 in
theorem ggX5_clear_X4_forget : GoodIn wsX5_clear wsX4_forget := goodIn_r _ [15, 11, 50, 51, 52, 53, 54, 55] (by decide +kernel) (by decide +kernel)
set_option maxRecDepth 20000 in
theorem gX5_clear_X4_forget : GoodIn wsX5_clear (wsV RX5 175 RX4 yX4_forget wsX4_forget) := goodIn_app (goodIn_of _ (by decide +kernel)) ggX5_clear_X4_forget
set_option maxRecDepth 20000 in
theorem ggX5_clear_X2_forget : GoodIn wsX5_clear wsX2_forget := goodIn_r _ [20, 21, 56, 57, 58, 59, 60] (by decide +kernel) (by decide +kernel)
set_option maxRecDepth 20000 in
theorem gX5_clear_X2_forget : GoodIn wsX5_clear (wsV RX5 178 RX2 yX2_forget wsX2_forget) := goodIn_app (goodIn_of _ (by decide +kernel)) ggX5_clear_X2_forget
set_option maxRecDepth 20000 in
theorem ggX5_clear_X0_forget : GoodIn wsX5_clear wsX0_forget := goodIn_r _ [26, 27, 28, 61, 62, 63] (by decide +kernel) (by decide +kernel)
set_option maxRecDepth 20000 in
theorem gX5_clear_X0_forget : GoodIn wsX5_clear (wsV RX5 179 RX0 yX0_forget wsX0_forget) := goodIn_app (goodIn_of _ (by decide +kernel)) ggX5_clear_X0_forget
set_option maxRecDepth 20000 in
theorem ggX5_clear_X1_forget : GoodIn wsX5_clear wsX1_forget := goodIn_r _ [33, 34, 35, 64, 65, 66, 67, 68] (by decide +kernel) (by decide +kernel)
set_option maxRecDepth 20000 in
theorem gX5_clear_X1_forget : GoodIn wsX5_clear (wsV RX5 180 RX1 yX1_forget wsX1_forget) := goodIn_app (goodIn_of _ (by decide +kernel)) ggX5_clear_X1_forget
set_option maxRecDepth 20000 in
theorem ggX5_clear_X3_forget : GoodIn wsX5_clear wsX3_forget := goodIn_ca (goodIn_r _ [40, 41, 42, 43, 44, 69, 70, 71, 72] (by decide +kernel) (by decide +kernel)) (goodIn_sub (fun _ h => List.mem_cons_of_mem _ (List.mem_append_right _ h)) (by decide +kernel))
set_option maxRecDepth 20000 in
theorem gX5_clear_X3_forget : GoodIn wsX5_clear (wsV RX5 181 RX3 yX3_forget wsX3_forget) := goodIn_app (goodIn_of _ (by decide +kernel)) ggX5_clear_X3_forget
theorem dX5_clear_0 : decode cX5_clear 0 = .ok (.aload_n 0, 1) := by decide +kernel
theorem dX5_clear_1 : decode cX5_clear 1 = .ok (.getfield 10, 3) := by decide +kernel
theorem dX5_clear_4 : decode cX5_clear 4 = .ok (.invokevirtual 158, 3) := by decide +kernel
theorem dX5_clear_7 : decode cX5_clear 7 = .ok (.istore_n 1, 1) := by decide +kernel
theorem dX5_clear_8 : decode cX5_clear 8 = .ok (.aload_n 0, 1) := by decide +kernel
theorem dX5_clear_9 : decode cX5_clear 9 = .ok (.getfield 10, 3) := by decide +kernel
theorem dX5_clear_12 : decode cX5_clear 12 = .ok (.invokevirtual 175, 3) := by decide +kernel
theorem dX5_clear_15 : decode cX5_clear 15 = .ok (.aload_n 0, 1) := by decide +kernel
theorem dX5_clear_16 : decode cX5_clear 16 = .ok (.getfield 19, 3) := by decide +kernel
theorem dX5_clear_19 : decode cX5_clear 19 = .ok (.invokevirtual 178, 3) := by decide +kernel
theorem dX5_clear_22 : decode cX5_clear 22 = .ok (.aload_n 0, 1) := by decide +kernel
theorem dX5_clear_23 : decode cX5_clear 23 = .ok (.getfield 26, 3) := by decide +kernel
theorem dX5_clear_26 : decode cX5_clear 26 = .ok (.invokevirtual 179, 3) := by decide +kernel
theorem dX5_clear_29 : decode cX5_clear 29 = .ok (.aload_n 0, 1) := by decide +kernel
theorem dX5_clear_30 : decode cX5_clear 30 = .ok (.getfield 33, 3) := by decide +kernel
theorem dX5_clear_33 : decode cX5_clear 33 = .ok (.invokevirtual 180, 3) := by decide +kernel
theorem dX5_clear_36 : decode cX5_clear 36 = .ok (.aload_n 0, 1) := by decide +kernel
theorem dX5_clear_37 : decode cX5_clear 37 = .ok (.getfield 40, 3) := by decide +kernel
theorem dX5_clear_40 : decode cX5_clear 40 = .ok (.invokevirtual 181, 3) := by decide +kernel
theorem dX5_clear_43 : decode cX5_clear 43 = .ok (.iload_n 1, 1) := by decide +kernel
theorem dX5_clear_44 : decode cX5_clear 44 = .ok (.ireturn, 1) := by decide +kernel
set_option maxRecDepth 20000 in
theorem ggX5_refusalOf_X4_hold : GoodIn wsX5_refusalOf wsX4_hold := goodIn_r _ [6, 7, 13, 14, 15, 16, 17, 18] (by decide +kernel) (by decide +kernel)
set_option maxRecDepth 20000 in
theorem gX5_refusalOf_X4_hold : GoodIn wsX5_refusalOf (wsV RX5 64 RX4 yX4_hold wsX4_hold) := goodIn_app (goodIn_of _ (by decide +kernel)) ggX5_refusalOf_X4_hold
theorem dX5_refusalOf_0 : decode cX5_refusalOf 0 = .ok (.aload_n 0, 1) := by decide +kernel
theorem dX5_refusalOf_1 : decode cX5_refusalOf 1 = .ok (.getfield 10, 3) := by decide +kernel
theorem dX5_refusalOf_4 : decode cX5_refusalOf 4 = .ok (.iload_n 1, 1) := by decide +kernel
theorem dX5_refusalOf_5 : decode cX5_refusalOf 5 = .ok (.invokevirtual 64, 3) := by decide +kernel
theorem dX5_refusalOf_8 : decode cX5_refusalOf 8 = .ok (.ifCond .ne 5, 3) := by decide +kernel
theorem dX5_refusalOf_11 : decode cX5_refusalOf 11 = .ok (.iconst (-1), 1) := by decide +kernel
theorem dX5_refusalOf_12 : decode cX5_refusalOf 12 = .ok (.ireturn, 1) := by decide +kernel
theorem dX5_refusalOf_13 : decode cX5_refusalOf 13 = .ok (.iload_n 2, 1) := by decide +kernel
theorem dX5_refusalOf_14 : decode cX5_refusalOf 14 = .ok (.iload_n 3, 1) := by decide +kernel
theorem dX5_refusalOf_15 : decode cX5_refusalOf 15 = .ok (.if_icmp .lt 9, 3) := by decide +kernel
theorem dX5_refusalOf_18 : decode cX5_refusalOf 18 = .ok (.iload_n 2, 1) := by decide +kernel
theorem dX5_refusalOf_19 : decode cX5_refusalOf 19 = .ok (.iload 4, 2) := by decide +kernel
theorem dX5_refusalOf_21 : decode cX5_refusalOf 21 = .ok (.if_icmp .le 8, 3) := by decide +kernel
theorem dX5_refusalOf_24 : decode cX5_refusalOf 24 = .ok (.bipush (-2), 2) := by decide +kernel
theorem dX5_refusalOf_26 : decode cX5_refusalOf 26 = .ok (.goto 4, 3) := by decide +kernel
theorem dX5_refusalOf_29 : decode cX5_refusalOf 29 = .ok (.iconst 0, 1) := by decide +kernel
theorem dX5_refusalOf_30 : decode cX5_refusalOf 30 = .ok (.ireturn, 1) := by decide +kernel
set_option maxRecDepth 20000 in
theorem ggX5_answerOf_X3_addFinding : GoodIn wsX5_answerOf wsX3_addFinding := goodIn_ca (goodIn_r _ [6, 7, 13, 14, 15, 16] (by decide +kernel) (by decide +kernel)) (goodIn_sub (fun _ h => List.mem_cons_of_mem _ (List.mem_append_right _ h)) (by decide +kernel))
set_option maxRecDepth 20000 in
theorem gX5_answerOf_X3_addFinding : GoodIn wsX5_answerOf (wsV RX5 182 RX3 yX3_addFinding wsX3_addFinding) := goodIn_app (goodIn_of _ (by decide +kernel)) ggX5_answerOf_X3_addFinding
theorem dX5_answerOf_0 : decode cX5_answerOf 0 = .ok (.aload_n 0, 1) := by decide +kernel
theorem dX5_answerOf_1 : decode cX5_answerOf 1 = .ok (.getfield 40, 3) := by decide +kernel
theorem dX5_answerOf_4 : decode cX5_answerOf 4 = .ok (.iload_n 1, 1) := by decide +kernel
theorem dX5_answerOf_5 : decode cX5_answerOf 5 = .ok (.invokevirtual 182, 3) := by decide +kernel
theorem dX5_answerOf_8 : decode cX5_answerOf 8 = .ok (.bipush (-20), 2) := by decide +kernel
theorem dX5_answerOf_10 : decode cX5_answerOf 10 = .ok (.iload_n 1, 1) := by decide +kernel
theorem dX5_answerOf_11 : decode cX5_answerOf 11 = .ok (.isub, 1) := by decide +kernel
theorem dX5_answerOf_12 : decode cX5_answerOf 12 = .ok (.ireturn, 1) := by decide +kernel
set_option maxRecDepth 20000 in
theorem ggX5_findingAt_X4_isOf : GoodIn wsX5_findingAt wsX4_isOf := goodIn_ca (goodIn_r _ [6, 7, 8, 9, 10, 5, 11, 12, 13, 14, 15, 26, 27, 28, 29, 30, 31] (by decide +kernel) (by decide +kernel)) (goodIn_sub (fun _ h => List.mem_cons_of_mem _ (List.mem_append_right _ h)) (by decide +kernel))
set_option maxRecDepth 20000 in
theorem gX5_findingAt_X4_isOf : GoodIn wsX5_findingAt (wsV RX5 60 RX4 yX4_isOf wsX4_isOf) := goodIn_app (goodIn_of _ (by decide +kernel)) ggX5_findingAt_X4_isOf
set_option maxRecDepth 20000 in
theorem ggX5_findingAt_X4_hasPlace : GoodIn wsX5_findingAt wsX4_hasPlace := goodIn_ca (goodIn_r _ [19, 12, 20, 26, 27, 28, 29, 30, 31] (by decide +kernel) (by decide +kernel)) (goodIn_sub (fun _ h => List.mem_cons_of_mem _ (List.mem_append_right _ h)) (by decide +kernel))
set_option maxRecDepth 20000 in
theorem gX5_findingAt_X4_hasPlace : GoodIn wsX5_findingAt (wsV RX5 186 RX4 yX4_hasPlace wsX4_hasPlace) := goodIn_app (goodIn_of _ (by decide +kernel)) ggX5_findingAt_X4_hasPlace
theorem dX5_findingAt_0 : decode cX5_findingAt 0 = .ok (.aload_n 0, 1) := by decide +kernel
theorem dX5_findingAt_1 : decode cX5_findingAt 1 = .ok (.getfield 10, 3) := by decide +kernel
theorem dX5_findingAt_4 : decode cX5_findingAt 4 = .ok (.iload_n 1, 1) := by decide +kernel
theorem dX5_findingAt_5 : decode cX5_findingAt 5 = .ok (.iload_n 2, 1) := by decide +kernel
theorem dX5_findingAt_6 : decode cX5_findingAt 6 = .ok (.invokevirtual 60, 3) := by decide +kernel
theorem dX5_findingAt_9 : decode cX5_findingAt 9 = .ok (.ifCond .ne 5, 3) := by decide +kernel
theorem dX5_findingAt_12 : decode cX5_findingAt 12 = .ok (.iconst 1, 1) := by decide +kernel
theorem dX5_findingAt_13 : decode cX5_findingAt 13 = .ok (.ireturn, 1) := by decide +kernel
theorem dX5_findingAt_14 : decode cX5_findingAt 14 = .ok (.aload_n 0, 1) := by decide +kernel
theorem dX5_findingAt_15 : decode cX5_findingAt 15 = .ok (.getfield 10, 3) := by decide +kernel
theorem dX5_findingAt_18 : decode cX5_findingAt 18 = .ok (.iload_n 1, 1) := by decide +kernel
theorem dX5_findingAt_19 : decode cX5_findingAt 19 = .ok (.iload_n 3, 1) := by decide +kernel
theorem dX5_findingAt_20 : decode cX5_findingAt 20 = .ok (.invokevirtual 186, 3) := by decide +kernel
theorem dX5_findingAt_23 : decode cX5_findingAt 23 = .ok (.ifCond .eq 7, 3) := by decide +kernel
theorem dX5_findingAt_26 : decode cX5_findingAt 26 = .ok (.iconst 0, 1) := by decide +kernel
theorem dX5_findingAt_27 : decode cX5_findingAt 27 = .ok (.goto 4, 3) := by decide +kernel
theorem dX5_findingAt_30 : decode cX5_findingAt 30 = .ok (.iconst 3, 1) := by decide +kernel
theorem dX5_findingAt_31 : decode cX5_findingAt 31 = .ok (.ireturn, 1) := by decide +kernel
set_option maxRecDepth 20000 in
theorem ggX5_layInto_X4_isOf : GoodIn wsX5_layInto wsX4_isOf := goodIn_ca (goodIn_r _ [6, 7, 8, 9, 10, 5, 11, 12, 13, 14, 15, 39, 40, 41, 42, 43, 44] (by decide +kernel) (by decide +kernel)) (goodIn_sub (fun _ h => List.mem_cons_of_mem _ (List.mem_append_right _ h)) (by decide +kernel))
set_option maxRecDepth 20000 in
theorem gX5_layInto_X4_isOf : GoodIn wsX5_layInto (wsV RX5 60 RX4 yX4_isOf wsX4_isOf) := goodIn_app (goodIn_of _ (by decide +kernel)) ggX5_layInto_X4_isOf
set_option maxRecDepth 20000 in
theorem ggX5_layInto_X4_hasPlace : GoodIn wsX5_layInto wsX4_hasPlace := goodIn_ca (goodIn_r _ [19, 12, 20, 39, 40, 41, 42, 43, 44] (by decide +kernel) (by decide +kernel)) (goodIn_sub (fun _ h => List.mem_cons_of_mem _ (List.mem_append_right _ h)) (by decide +kernel))
set_option maxRecDepth 20000 in
theorem gX5_layInto_X4_hasPlace : GoodIn wsX5_layInto (wsV RX5 186 RX4 yX4_hasPlace wsX4_hasPlace) := goodIn_app (goodIn_of _ (by decide +kernel)) ggX5_layInto_X4_hasPlace
set_option maxRecDepth 20000 in
theorem ggX5_layInto_X4_formOf : GoodIn wsX5_layInto wsX4_formOf := goodIn_ca (goodIn_r _ [24, 7, 8, 9, 10, 5, 11, 12, 39, 40, 41, 42, 43, 44] (by decide +kernel) (by decide +kernel)) (goodIn_sub (fun _ h => List.mem_cons_of_mem _ (List.mem_append_right _ h)) (by decide +kernel))
set_option maxRecDepth 20000 in
theorem gX5_layInto_X4_formOf : GoodIn wsX5_layInto (wsV RX5 68 RX4 yX4_formOf wsX4_formOf) := goodIn_app (goodIn_of _ (by decide +kernel)) ggX5_layInto_X4_formOf
set_option maxRecDepth 20000 in
theorem ggX5_layInto_X5_memberKind : GoodIn wsX5_layInto wsX5_memberKind := goodIn_r _ [27] (by decide +kernel) (by decide +kernel)
set_option maxRecDepth 20000 in
theorem gX5_layInto_X5_memberKind : GoodIn wsX5_layInto (va_wsS RX5 101 yX5_memberKind wsX5_memberKind) := goodIn_app (goodIn_of _ (by decide +kernel)) ggX5_layInto_X5_memberKind
set_option maxRecDepth 20000 in
theorem ggX5_layInto_X4_setMember : GoodIn wsX5_layInto wsX4_setMember := goodIn_ca (goodIn_r _ [31, 32, 33, 17, 18, 5, 19, 12, 20, 39, 40, 41, 42, 43, 44] (by decide +kernel) (by decide +kernel)) (goodIn_sub (fun _ h => List.mem_cons_of_mem _ (List.mem_append_right _ h)) (by decide +kernel))
set_option maxRecDepth 20000 in
theorem gX5_layInto_X4_setMember : GoodIn wsX5_layInto (wsV RX5 189 RX4 yX4_setMember wsX4_setMember) := goodIn_app (goodIn_of _ (by decide +kernel)) ggX5_layInto_X4_setMember
theorem dX5_layInto_0 : decode cX5_layInto 0 = .ok (.iload_n 3, 1) := by decide +kernel
theorem dX5_layInto_1 : decode cX5_layInto 1 = .ok (.bipush (-5), 2) := by decide +kernel
theorem dX5_layInto_3 : decode cX5_layInto 3 = .ok (.if_icmp .eq 18, 3) := by decide +kernel
theorem dX5_layInto_6 : decode cX5_layInto 6 = .ok (.aload_n 0, 1) := by decide +kernel
theorem dX5_layInto_7 : decode cX5_layInto 7 = .ok (.getfield 10, 3) := by decide +kernel
theorem dX5_layInto_10 : decode cX5_layInto 10 = .ok (.iload_n 3, 1) := by decide +kernel
theorem dX5_layInto_11 : decode cX5_layInto 11 = .ok (.iload 4, 2) := by decide +kernel
theorem dX5_layInto_13 : decode cX5_layInto 13 = .ok (.invokevirtual 60, 3) := by decide +kernel
theorem dX5_layInto_16 : decode cX5_layInto 16 = .ok (.ifCond .ne 5, 3) := by decide +kernel
theorem dX5_layInto_19 : decode cX5_layInto 19 = .ok (.iconst 1, 1) := by decide +kernel
theorem dX5_layInto_20 : decode cX5_layInto 20 = .ok (.ireturn, 1) := by decide +kernel
theorem dX5_layInto_21 : decode cX5_layInto 21 = .ok (.aload_n 0, 1) := by decide +kernel
theorem dX5_layInto_22 : decode cX5_layInto 22 = .ok (.getfield 10, 3) := by decide +kernel
theorem dX5_layInto_25 : decode cX5_layInto 25 = .ok (.iload_n 1, 1) := by decide +kernel
theorem dX5_layInto_26 : decode cX5_layInto 26 = .ok (.iload_n 2, 1) := by decide +kernel
theorem dX5_layInto_27 : decode cX5_layInto 27 = .ok (.invokevirtual 186, 3) := by decide +kernel
theorem dX5_layInto_30 : decode cX5_layInto 30 = .ok (.ifCond .ne 5, 3) := by decide +kernel
theorem dX5_layInto_33 : decode cX5_layInto 33 = .ok (.iconst 3, 1) := by decide +kernel
theorem dX5_layInto_34 : decode cX5_layInto 34 = .ok (.ireturn, 1) := by decide +kernel
theorem dX5_layInto_35 : decode cX5_layInto 35 = .ok (.iload_n 3, 1) := by decide +kernel
theorem dX5_layInto_36 : decode cX5_layInto 36 = .ok (.bipush (-5), 2) := by decide +kernel
theorem dX5_layInto_38 : decode cX5_layInto 38 = .ok (.if_icmp .eq 27, 3) := by decide +kernel
theorem dX5_layInto_41 : decode cX5_layInto 41 = .ok (.aload_n 0, 1) := by decide +kernel
theorem dX5_layInto_42 : decode cX5_layInto 42 = .ok (.getfield 10, 3) := by decide +kernel
theorem dX5_layInto_45 : decode cX5_layInto 45 = .ok (.iload_n 3, 1) := by decide +kernel
theorem dX5_layInto_46 : decode cX5_layInto 46 = .ok (.aload_n 0, 1) := by decide +kernel
theorem dX5_layInto_47 : decode cX5_layInto 47 = .ok (.getfield 10, 3) := by decide +kernel
theorem dX5_layInto_50 : decode cX5_layInto 50 = .ok (.iload_n 1, 1) := by decide +kernel
theorem dX5_layInto_51 : decode cX5_layInto 51 = .ok (.invokevirtual 68, 3) := by decide +kernel
theorem dX5_layInto_54 : decode cX5_layInto 54 = .ok (.invokestatic 101, 3) := by decide +kernel
theorem dX5_layInto_57 : decode cX5_layInto 57 = .ok (.invokevirtual 60, 3) := by decide +kernel
theorem dX5_layInto_60 : decode cX5_layInto 60 = .ok (.ifCond .ne 5, 3) := by decide +kernel
theorem dX5_layInto_63 : decode cX5_layInto 63 = .ok (.iconst 4, 1) := by decide +kernel
theorem dX5_layInto_64 : decode cX5_layInto 64 = .ok (.ireturn, 1) := by decide +kernel
theorem dX5_layInto_65 : decode cX5_layInto 65 = .ok (.aload_n 0, 1) := by decide +kernel
theorem dX5_layInto_66 : decode cX5_layInto 66 = .ok (.getfield 10, 3) := by decide +kernel
theorem dX5_layInto_69 : decode cX5_layInto 69 = .ok (.iload_n 1, 1) := by decide +kernel
theorem dX5_layInto_70 : decode cX5_layInto 70 = .ok (.iload_n 2, 1) := by decide +kernel
theorem dX5_layInto_71 : decode cX5_layInto 71 = .ok (.iload_n 3, 1) := by decide +kernel
theorem dX5_layInto_72 : decode cX5_layInto 72 = .ok (.invokevirtual 189, 3) := by decide +kernel
theorem dX5_layInto_75 : decode cX5_layInto 75 = .ok (.iconst 0, 1) := by decide +kernel
theorem dX5_layInto_76 : decode cX5_layInto 76 = .ok (.ireturn, 1) := by decide +kernel
set_option maxRecDepth 20000 in
theorem ggX5_stationFor_X2_howMany : GoodIn wsX5_stationFor wsX2_howMany := goodIn_r _ [7, 8, 37, 38, 39, 40, 41] (by decide +kernel) (by decide +kernel)
set_option maxRecDepth 20000 in
theorem gX5_stationFor_X2_howMany : GoodIn wsX5_stationFor (wsV RX5 161 RX2 yX2_howMany wsX2_howMany) := goodIn_app (goodIn_of _ (by decide +kernel)) ggX5_stationFor_X2_howMany
set_option maxRecDepth 20000 in
theorem ggX5_stationFor_X2_gateOf : GoodIn wsX5_stationFor wsX2_gateOf := goodIn_ca (goodIn_r _ [12, 13, 14, 15, 16, 6, 17, 8, 37, 38, 39, 40, 41] (by decide +kernel) (by decide +kernel)) (goodIn_sub (fun _ h => List.mem_cons_of_mem _ (List.mem_append_right _ h)) (by decide +kernel))
set_option maxRecDepth 20000 in
theorem gX5_stationFor_X2_gateOf : GoodIn wsX5_stationFor (wsV RX5 192 RX2 yX2_gateOf wsX2_gateOf) := goodIn_app (goodIn_of _ (by decide +kernel)) ggX5_stationFor_X2_gateOf
set_option maxRecDepth 20000 in
theorem ggX5_stationFor_X4_isOf : GoodIn wsX5_stationFor wsX4_isOf := goodIn_ca (goodIn_r _ [22, 23, 24, 25, 26, 21, 27, 28, 29, 30, 31, 42, 43, 44, 45, 46, 47] (by decide +kernel) (by decide +kernel)) (goodIn_sub (fun _ h => List.mem_cons_of_mem _ (List.mem_append_right _ h)) (by decide +kernel))
set_option maxRecDepth 20000 in
theorem gX5_stationFor_X4_isOf : GoodIn wsX5_stationFor (wsV RX5 60 RX4 yX4_isOf wsX4_isOf) := goodIn_app (goodIn_of _ (by decide +kernel)) ggX5_stationFor_X4_isOf
theorem dX5_stationFor_0 : decode cX5_stationFor 0 = .ok (.iconst 0, 1) := by decide +kernel
theorem dX5_stationFor_1 : decode cX5_stationFor 1 = .ok (.istore_n 2, 1) := by decide +kernel
theorem dX5_stationFor_2 : decode cX5_stationFor 2 = .ok (.iload_n 2, 1) := by decide +kernel
theorem dX5_stationFor_3 : decode cX5_stationFor 3 = .ok (.aload_n 0, 1) := by decide +kernel
theorem dX5_stationFor_4 : decode cX5_stationFor 4 = .ok (.getfield 19, 3) := by decide +kernel
theorem dX5_stationFor_7 : decode cX5_stationFor 7 = .ok (.invokevirtual 161, 3) := by decide +kernel
theorem dX5_stationFor_10 : decode cX5_stationFor 10 = .ok (.if_icmp .ge 30, 3) := by decide +kernel
theorem dX5_stationFor_13 : decode cX5_stationFor 13 = .ok (.aload_n 0, 1) := by decide +kernel
theorem dX5_stationFor_14 : decode cX5_stationFor 14 = .ok (.getfield 10, 3) := by decide +kernel
theorem dX5_stationFor_17 : decode cX5_stationFor 17 = .ok (.iload_n 1, 1) := by decide +kernel
theorem dX5_stationFor_18 : decode cX5_stationFor 18 = .ok (.aload_n 0, 1) := by decide +kernel
theorem dX5_stationFor_19 : decode cX5_stationFor 19 = .ok (.getfield 19, 3) := by decide +kernel
theorem dX5_stationFor_22 : decode cX5_stationFor 22 = .ok (.iload_n 2, 1) := by decide +kernel
theorem dX5_stationFor_23 : decode cX5_stationFor 23 = .ok (.invokevirtual 192, 3) := by decide +kernel
theorem dX5_stationFor_26 : decode cX5_stationFor 26 = .ok (.invokevirtual 60, 3) := by decide +kernel
theorem dX5_stationFor_29 : decode cX5_stationFor 29 = .ok (.ifCond .eq 5, 3) := by decide +kernel
theorem dX5_stationFor_32 : decode cX5_stationFor 32 = .ok (.iload_n 2, 1) := by decide +kernel
theorem dX5_stationFor_33 : decode cX5_stationFor 33 = .ok (.ireturn, 1) := by decide +kernel
theorem dX5_stationFor_34 : decode cX5_stationFor 34 = .ok (.iinc 2 1, 3) := by decide +kernel
theorem dX5_stationFor_37 : decode cX5_stationFor 37 = .ok (.goto (-35), 3) := by decide +kernel
theorem dX5_stationFor_40 : decode cX5_stationFor 40 = .ok (.bipush (-5), 2) := by decide +kernel
theorem dX5_stationFor_42 : decode cX5_stationFor 42 = .ok (.ireturn, 1) := by decide +kernel
set_option maxRecDepth 20000 in
theorem ggX5_workOn_X2_workOf : GoodIn wsX5_workOn wsX2_workOf := goodIn_ca (goodIn_r _ [7, 8, 9, 10, 11, 6, 12, 13, 147, 148, 149, 150, 151] (by decide +kernel) (by decide +kernel)) (goodIn_sub (fun _ h => List.mem_cons_of_mem _ (List.mem_append_right _ h)) (by decide +kernel))
set_option maxRecDepth 20000 in
theorem gX5_workOn_X2_workOf : GoodIn wsX5_workOn (wsV RX5 195 RX2 yX2_workOf wsX2_workOf) := goodIn_app (goodIn_of _ (by decide +kernel)) ggX5_workOn_X2_workOf
set_option maxRecDepth 20000 in
theorem ggX5_workOn_X5_kindForWork : GoodIn wsX5_workOn wsX5_kindForWork := goodIn_r _ [17] (by decide +kernel) (by decide +kernel)
set_option maxRecDepth 20000 in
theorem gX5_workOn_X5_kindForWork : GoodIn wsX5_workOn (va_wsS RX5 198 yX5_kindForWork wsX5_kindForWork) := goodIn_app (goodIn_of _ (by decide +kernel)) ggX5_workOn_X5_kindForWork
set_option maxRecDepth 20000 in
theorem ggX5_workOn_X4_isOf : GoodIn wsX5_workOn wsX4_isOf := goodIn_ca (goodIn_r _ [22, 23, 24, 25, 26, 21, 27, 28, 29, 16, 30, 152, 153, 154, 155, 156, 157] (by decide +kernel) (by decide +kernel)) (goodIn_sub (fun _ h => List.mem_cons_of_mem _ (List.mem_append_right _ h)) (by decide +kernel))
set_option maxRecDepth 20000 in
theorem gX5_workOn_X4_isOf : GoodIn wsX5_workOn (wsV RX5 60 RX4 yX4_isOf wsX4_isOf) := goodIn_app (goodIn_of _ (by decide +kernel)) ggX5_workOn_X4_isOf
set_option maxRecDepth 20000 in
theorem ggX5_workOn_X5_weigh : GoodIn wsX5_workOn wsX5_weigh := goodIn_ca (goodIn_r _ [34, 1, 2, 35, 36, 37, 21, 38, 39, 24, 25, 26, 27, 28, 40, 41, 42, 6, 43, 44, 9, 10, 11, 12, 13, 45, 46, 47, 16, 48, 49, 50, 51, 52, 53, 142, 143, 144, 145, 146, 152, 153, 154, 155, 156, 157, 147, 148, 149, 150, 151] (by decide +kernel) (by decide +kernel)) (goodIn_sub (fun _ h => List.mem_cons_of_mem _ (List.mem_append_right _ h)) (by decide +kernel))
set_option maxRecDepth 20000 in
theorem gX5_workOn_X5_weigh : GoodIn wsX5_workOn (wsV RX5 201 RX5 yX5_weigh wsX5_weigh) := goodIn_app (goodIn_of _ (by decide +kernel)) ggX5_workOn_X5_weigh
set_option maxRecDepth 20000 in
theorem ggX5_workOn_X4_keyOf : GoodIn wsX5_workOn wsX4_keyOf := goodIn_ca (goodIn_r _ [57, 58, 59, 60, 21, 61, 23, 24, 25, 26, 27, 28, 62, 36, 37, 38, 39, 152, 153, 154, 155, 156, 157] (by decide +kernel) (by decide +kernel)) (goodIn_sub (fun _ h => List.mem_cons_of_mem _ (List.mem_append_right _ h)) (by decide +kernel))
set_option maxRecDepth 20000 in
theorem gX5_workOn_X4_keyOf : GoodIn wsX5_workOn (wsV RX5 204 RX4 yX4_keyOf wsX4_keyOf) := goodIn_app (goodIn_of _ (by decide +kernel)) ggX5_workOn_X4_keyOf
set_option maxRecDepth 20000 in
theorem ggX5_workOn_X5_grow : GoodIn wsX5_workOn wsX5_grow := goodIn_ca (goodIn_r _ [66, 1, 40, 41, 42, 6, 43, 44, 9, 10, 11, 12, 13, 142, 143, 144, 145, 146, 147, 148, 149, 150, 151] (by decide +kernel) (by decide +kernel)) (goodIn_sub (fun _ h => List.mem_cons_of_mem _ (List.mem_append_right _ h)) (by decide +kernel))
set_option maxRecDepth 20000 in
theorem gX5_workOn_X5_grow : GoodIn wsX5_workOn (wsV RX5 207 RX5 yX5_grow wsX5_grow) := goodIn_app (goodIn_of _ (by decide +kernel)) ggX5_workOn_X5_grow
set_option maxRecDepth 20000 in
theorem ggX5_workOn_X4_sumOfNumbers : GoodIn wsX5_workOn wsX4_sumOfNumbers := goodIn_ca (goodIn_r _ [70, 71, 72, 73, 21, 74, 75, 24, 25, 26, 27, 28, 76, 77, 78, 79, 80, 81, 82, 83, 84, 152, 153, 154, 155, 156, 157] (by decide +kernel) (by decide +kernel)) (goodIn_sub (fun _ h => List.mem_cons_of_mem _ (List.mem_append_right _ h)) (by decide +kernel))
set_option maxRecDepth 20000 in
theorem gX5_workOn_X4_sumOfNumbers : GoodIn wsX5_workOn (wsV RX5 211 RX4 yX4_sumOfNumbers wsX4_sumOfNumbers) := goodIn_app (goodIn_of _ (by decide +kernel)) ggX5_workOn_X4_sumOfNumbers
set_option maxRecDepth 20000 in
theorem ggX5_workOn_X5_addMembers : GoodIn wsX5_workOn wsX5_addMembers := goodIn_ca (goodIn_r _ [88, 2, 89, 72, 73, 21, 74, 75, 24, 25, 26, 27, 28, 90, 91, 92, 93, 94, 81, 82, 83, 84, 54, 55, 56, 57, 58, 59, 60, 61, 23, 62, 36, 37, 38, 39, 35, 63, 64, 65, 16, 66, 1, 40, 41, 42, 6, 43, 44, 9, 10, 11, 12, 13, 142, 143, 144, 145, 146, 152, 153, 154, 155, 156, 157, 147, 148, 149, 150, 151] (by decide +kernel) (by decide +kernel)) (goodIn_sub (fun _ h => List.mem_cons_of_mem _ (List.mem_append_right _ h)) (by decide +kernel))
set_option maxRecDepth 20000 in
theorem gX5_workOn_X5_addMembers : GoodIn wsX5_workOn (wsV RX5 214 RX5 yX5_addMembers wsX5_addMembers) := goodIn_app (goodIn_of _ (by decide +kernel)) ggX5_workOn_X5_addMembers
set_option maxRecDepth 20000 in
theorem ggX5_workOn_X5_pack : GoodIn wsX5_workOn wsX5_pack := goodIn_ca (goodIn_r _ [98, 1, 99, 100, 101, 6, 102, 53, 9, 10, 11, 12, 13, 103, 104, 105, 16, 106, 2, 18, 19, 20, 21, 22, 23, 24, 25, 26, 27, 28, 29, 30, 107, 82, 83, 84, 75, 108, 59, 60, 61, 109, 110, 111, 112, 113, 114, 115, 94, 81, 49, 50, 51, 52, 142, 143, 144, 145, 146, 147, 148, 149, 150, 151, 152, 153, 154, 155, 156, 157] (by decide +kernel) (by decide +kernel)) (goodIn_sub (fun _ h => List.mem_cons_of_mem _ (List.mem_append_right _ h)) (by decide +kernel))
set_option maxRecDepth 20000 in
theorem gX5_workOn_X5_pack : GoodIn wsX5_workOn (wsV RX5 217 RX5 yX5_pack wsX5_pack) := goodIn_app (goodIn_of _ (by decide +kernel)) ggX5_workOn_X5_pack
set_option maxRecDepth 20000 in
theorem ggX5_workOn_X5_addCorner : GoodIn wsX5_workOn wsX5_addCorner := goodIn_ca (goodIn_r _ [119, 2, 120, 121, 122, 16, 123, 107, 82, 83, 21, 84, 28, 75, 90, 91, 92, 93, 94, 81, 35, 36, 37, 38, 39, 24, 25, 26, 27, 63, 64, 65, 66, 1, 40, 41, 42, 6, 43, 44, 9, 10, 11, 12, 13, 142, 143, 144, 145, 146, 152, 153, 154, 155, 156, 157, 147, 148, 149, 150, 151] (by decide +kernel) (by decide +kernel)) (goodIn_sub (fun _ h => List.mem_cons_of_mem _ (List.mem_append_right _ h)) (by decide +kernel))
set_option maxRecDepth 20000 in
theorem gX5_workOn_X5_addCorner : GoodIn wsX5_workOn (wsV RX5 220 RX5 yX5_addCorner wsX5_addCorner) := goodIn_app (goodIn_of _ (by decide +kernel)) ggX5_workOn_X5_addCorner
set_option maxRecDepth 20000 in
theorem ggX5_workOn_X5_addCell : GoodIn wsX5_workOn wsX5_addCell := goodIn_ca (goodIn_r _ [127, 2, 120, 121, 122, 16, 123, 107, 82, 83, 21, 84, 28, 75, 90, 91, 92, 93, 94, 81, 128, 77, 78, 79, 80, 63, 64, 65, 66, 1, 40, 41, 42, 6, 43, 44, 9, 10, 11, 12, 13, 142, 143, 144, 145, 146, 152, 153, 154, 155, 156, 157, 147, 148, 149, 150, 151] (by decide +kernel) (by decide +kernel)) (goodIn_sub (fun _ h => List.mem_cons_of_mem _ (List.mem_append_right _ h)) (by decide +kernel))
set_option maxRecDepth 20000 in
theorem gX5_workOn_X5_addCell : GoodIn wsX5_workOn (wsV RX5 223 RX5 yX5_addCell wsX5_addCell) := goodIn_app (goodIn_of _ (by decide +kernel)) ggX5_workOn_X5_addCell
set_option maxRecDepth 20000 in
theorem ggX5_workOn_X5_spill : GoodIn wsX5_workOn wsX5_spill := goodIn_ca (goodIn_r _ [132, 2, 133, 89, 72, 73, 21, 74, 75, 24, 25, 26, 27, 28, 90, 91, 92, 93, 94, 81, 82, 83, 84, 134, 135, 136, 137, 138, 139, 140, 141, 112, 113, 114, 115, 142, 143, 144, 145, 146, 152, 153, 154, 155, 156, 157, 158, 159, 160] (by decide +kernel) (by decide +kernel)) (goodIn_sub (fun _ h => List.mem_cons_of_mem _ (List.mem_append_right _ h)) (by decide +kernel))
set_option maxRecDepth 20000 in
theorem gX5_workOn_X5_spill : GoodIn wsX5_workOn (wsV RX5 226 RX5 yX5_spill wsX5_spill) := goodIn_app (goodIn_of _ (by decide +kernel)) ggX5_workOn_X5_spill
set_option maxRecDepth 20000 in
theorem ggX5_workOn_X5_keep : GoodIn wsX5_workOn wsX5_keep := goodIn_ca (goodIn_r _ [48, 1, 49, 50, 51, 6, 52, 53, 9, 10, 11, 12, 13, 142, 143, 144, 145, 146, 147, 148, 149, 150, 151] (by decide +kernel) (by decide +kernel)) (goodIn_sub (fun _ h => List.mem_cons_of_mem _ (List.mem_append_right _ h)) (by decide +kernel))
set_option maxRecDepth 20000 in
theorem gX5_workOn_X5_keep : GoodIn wsX5_workOn (wsV RX5 229 RX5 yX5_keep wsX5_keep) := goodIn_app (goodIn_of _ (by decide +kernel)) ggX5_workOn_X5_keep
theorem dX5_workOn_0 : decode cX5_workOn 0 = .ok (.aload_n 0, 1) := by decide +kernel
theorem dX5_workOn_1 : decode cX5_workOn 1 = .ok (.getfield 19, 3) := by decide +kernel
theorem dX5_workOn_4 : decode cX5_workOn 4 = .ok (.iload_n 2, 1) := by decide +kernel
theorem dX5_workOn_5 : decode cX5_workOn 5 = .ok (.invokevirtual 195, 3) := by decide +kernel
theorem dX5_workOn_8 : decode cX5_workOn 8 = .ok (.istore_n 3, 1) := by decide +kernel
theorem dX5_workOn_9 : decode cX5_workOn 9 = .ok (.aload_n 0, 1) := by decide +kernel
theorem dX5_workOn_10 : decode cX5_workOn 10 = .ok (.getfield 10, 3) := by decide +kernel
theorem dX5_workOn_13 : decode cX5_workOn 13 = .ok (.iload_n 1, 1) := by decide +kernel
theorem dX5_workOn_14 : decode cX5_workOn 14 = .ok (.iload_n 3, 1) := by decide +kernel
theorem dX5_workOn_15 : decode cX5_workOn 15 = .ok (.invokestatic 198, 3) := by decide +kernel
theorem dX5_workOn_18 : decode cX5_workOn 18 = .ok (.invokevirtual 60, 3) := by decide +kernel
theorem dX5_workOn_21 : decode cX5_workOn 21 = .ok (.ifCond .ne 5, 3) := by decide +kernel
theorem dX5_workOn_24 : decode cX5_workOn 24 = .ok (.iconst 1, 1) := by decide +kernel
theorem dX5_workOn_25 : decode cX5_workOn 25 = .ok (.ireturn, 1) := by decide +kernel
theorem dX5_workOn_26 : decode cX5_workOn 26 = .ok (.iload_n 3, 1) := by decide +kernel
theorem dX5_workOn_27 : decode cX5_workOn 27 = .ok (.tableswitch 159 0 11 #[61, 70, 87, 87, 87, 103, 113, 122, 132, 141, 103, 151], 61) := by decide +kernel
theorem dX5_workOn_88 : decode cX5_workOn 88 = .ok (.aload_n 0, 1) := by decide +kernel
theorem dX5_workOn_89 : decode cX5_workOn 89 = .ok (.iload_n 1, 1) := by decide +kernel
theorem dX5_workOn_90 : decode cX5_workOn 90 = .ok (.iload_n 2, 1) := by decide +kernel
theorem dX5_workOn_91 : decode cX5_workOn 91 = .ok (.invokevirtual 201, 3) := by decide +kernel
theorem dX5_workOn_94 : decode cX5_workOn 94 = .ok (.goto 98, 3) := by decide +kernel
theorem dX5_workOn_97 : decode cX5_workOn 97 = .ok (.aload_n 0, 1) := by decide +kernel
theorem dX5_workOn_98 : decode cX5_workOn 98 = .ok (.iload_n 2, 1) := by decide +kernel
theorem dX5_workOn_99 : decode cX5_workOn 99 = .ok (.aload_n 0, 1) := by decide +kernel
theorem dX5_workOn_100 : decode cX5_workOn 100 = .ok (.getfield 10, 3) := by decide +kernel
theorem dX5_workOn_103 : decode cX5_workOn 103 = .ok (.iload_n 1, 1) := by decide +kernel
theorem dX5_workOn_104 : decode cX5_workOn 104 = .ok (.invokevirtual 204, 3) := by decide +kernel
theorem dX5_workOn_107 : decode cX5_workOn 107 = .ok (.i2l, 1) := by decide +kernel
theorem dX5_workOn_108 : decode cX5_workOn 108 = .ok (.invokevirtual 207, 3) := by decide +kernel
theorem dX5_workOn_111 : decode cX5_workOn 111 = .ok (.goto 81, 3) := by decide +kernel
theorem dX5_workOn_114 : decode cX5_workOn 114 = .ok (.aload_n 0, 1) := by decide +kernel
theorem dX5_workOn_115 : decode cX5_workOn 115 = .ok (.iload_n 2, 1) := by decide +kernel
theorem dX5_workOn_116 : decode cX5_workOn 116 = .ok (.aload_n 0, 1) := by decide +kernel
theorem dX5_workOn_117 : decode cX5_workOn 117 = .ok (.getfield 10, 3) := by decide +kernel
theorem dX5_workOn_120 : decode cX5_workOn 120 = .ok (.iload_n 1, 1) := by decide +kernel
theorem dX5_workOn_121 : decode cX5_workOn 121 = .ok (.invokevirtual 211, 3) := by decide +kernel
theorem dX5_workOn_124 : decode cX5_workOn 124 = .ok (.invokevirtual 207, 3) := by decide +kernel
theorem dX5_workOn_127 : decode cX5_workOn 127 = .ok (.goto 65, 3) := by decide +kernel
theorem dX5_workOn_130 : decode cX5_workOn 130 = .ok (.aload_n 0, 1) := by decide +kernel
theorem dX5_workOn_131 : decode cX5_workOn 131 = .ok (.iload_n 1, 1) := by decide +kernel
theorem dX5_workOn_132 : decode cX5_workOn 132 = .ok (.iload_n 2, 1) := by decide +kernel
theorem dX5_workOn_133 : decode cX5_workOn 133 = .ok (.iload_n 3, 1) := by decide +kernel
theorem dX5_workOn_134 : decode cX5_workOn 134 = .ok (.invokevirtual 214, 3) := by decide +kernel
theorem dX5_workOn_137 : decode cX5_workOn 137 = .ok (.goto 55, 3) := by decide +kernel
theorem dX5_workOn_140 : decode cX5_workOn 140 = .ok (.aload_n 0, 1) := by decide +kernel
theorem dX5_workOn_141 : decode cX5_workOn 141 = .ok (.iload_n 1, 1) := by decide +kernel
theorem dX5_workOn_142 : decode cX5_workOn 142 = .ok (.iload_n 2, 1) := by decide +kernel
theorem dX5_workOn_143 : decode cX5_workOn 143 = .ok (.invokevirtual 217, 3) := by decide +kernel
theorem dX5_workOn_146 : decode cX5_workOn 146 = .ok (.goto 46, 3) := by decide +kernel
theorem dX5_workOn_149 : decode cX5_workOn 149 = .ok (.aload_n 0, 1) := by decide +kernel
theorem dX5_workOn_150 : decode cX5_workOn 150 = .ok (.iload_n 1, 1) := by decide +kernel
theorem dX5_workOn_151 : decode cX5_workOn 151 = .ok (.iload_n 2, 1) := by decide +kernel
theorem dX5_workOn_152 : decode cX5_workOn 152 = .ok (.iconst 2, 1) := by decide +kernel
theorem dX5_workOn_153 : decode cX5_workOn 153 = .ok (.invokevirtual 220, 3) := by decide +kernel
theorem dX5_workOn_156 : decode cX5_workOn 156 = .ok (.goto 36, 3) := by decide +kernel
theorem dX5_workOn_159 : decode cX5_workOn 159 = .ok (.aload_n 0, 1) := by decide +kernel
theorem dX5_workOn_160 : decode cX5_workOn 160 = .ok (.iload_n 1, 1) := by decide +kernel
theorem dX5_workOn_161 : decode cX5_workOn 161 = .ok (.iload_n 2, 1) := by decide +kernel
theorem dX5_workOn_162 : decode cX5_workOn 162 = .ok (.invokevirtual 223, 3) := by decide +kernel
theorem dX5_workOn_165 : decode cX5_workOn 165 = .ok (.goto 27, 3) := by decide +kernel
theorem dX5_workOn_168 : decode cX5_workOn 168 = .ok (.aload_n 0, 1) := by decide +kernel
theorem dX5_workOn_169 : decode cX5_workOn 169 = .ok (.iload_n 1, 1) := by decide +kernel
theorem dX5_workOn_170 : decode cX5_workOn 170 = .ok (.iload_n 2, 1) := by decide +kernel
theorem dX5_workOn_171 : decode cX5_workOn 171 = .ok (.iconst 3, 1) := by decide +kernel
theorem dX5_workOn_172 : decode cX5_workOn 172 = .ok (.invokevirtual 220, 3) := by decide +kernel
theorem dX5_workOn_175 : decode cX5_workOn 175 = .ok (.goto 17, 3) := by decide +kernel
theorem dX5_workOn_178 : decode cX5_workOn 178 = .ok (.aload_n 0, 1) := by decide +kernel
theorem dX5_workOn_179 : decode cX5_workOn 179 = .ok (.iload_n 1, 1) := by decide +kernel
theorem dX5_workOn_180 : decode cX5_workOn 180 = .ok (.invokevirtual 226, 3) := by decide +kernel
theorem dX5_workOn_183 : decode cX5_workOn 183 = .ok (.goto 9, 3) := by decide +kernel
theorem dX5_workOn_186 : decode cX5_workOn 186 = .ok (.aload_n 0, 1) := by decide +kernel
theorem dX5_workOn_187 : decode cX5_workOn 187 = .ok (.iload_n 1, 1) := by decide +kernel
theorem dX5_workOn_188 : decode cX5_workOn 188 = .ok (.iload_n 2, 1) := by decide +kernel
theorem dX5_workOn_189 : decode cX5_workOn 189 = .ok (.invokevirtual 229, 3) := by decide +kernel
theorem dX5_workOn_192 : decode cX5_workOn 192 = .ok (.ireturn, 1) := by decide +kernel
set_option maxRecDepth 20000 in
theorem ggX5_grow_X2_grow : GoodIn wsX5_grow wsX2_grow := goodIn_ca (goodIn_r _ [6, 7, 8, 9, 10, 5, 11, 12, 18, 19, 20, 21, 22] (by decide +kernel) (by decide +kernel)) (goodIn_sub (fun _ h => List.mem_cons_of_mem _ (List.mem_append_right _ h)) (by decide +kernel))
set_option maxRecDepth 20000 in
theorem gX5_grow_X2_grow : GoodIn wsX5_grow (wsV RX5 232 RX2 yX2_grow wsX2_grow) := goodIn_app (goodIn_of _ (by decide +kernel)) ggX5_grow_X2_grow
theorem dX5_grow_0 : decode cX5_grow 0 = .ok (.aload_n 0, 1) := by decide +kernel
theorem dX5_grow_1 : decode cX5_grow 1 = .ok (.getfield 19, 3) := by decide +kernel
theorem dX5_grow_4 : decode cX5_grow 4 = .ok (.iload_n 1, 1) := by decide +kernel
theorem dX5_grow_5 : decode cX5_grow 5 = .ok (.lload_n 2, 1) := by decide +kernel
theorem dX5_grow_6 : decode cX5_grow 6 = .ok (.invokevirtual 232, 3) := by decide +kernel
theorem dX5_grow_9 : decode cX5_grow 9 = .ok (.iconst 0, 1) := by decide +kernel
theorem dX5_grow_10 : decode cX5_grow 10 = .ok (.ireturn, 1) := by decide +kernel
set_option maxRecDepth 20000 in
theorem ggX5_keep_X2_setSlot : GoodIn wsX5_keep wsX2_setSlot := goodIn_ca (goodIn_r _ [6, 7, 8, 9, 10, 5, 11, 12, 18, 19, 20, 21, 22] (by decide +kernel) (by decide +kernel)) (goodIn_sub (fun _ h => List.mem_cons_of_mem _ (List.mem_append_right _ h)) (by decide +kernel))
set_option maxRecDepth 20000 in
theorem gX5_keep_X2_setSlot : GoodIn wsX5_keep (wsV RX5 235 RX2 yX2_setSlot wsX2_setSlot) := goodIn_app (goodIn_of _ (by decide +kernel)) ggX5_keep_X2_setSlot
theorem dX5_keep_0 : decode cX5_keep 0 = .ok (.aload_n 0, 1) := by decide +kernel
theorem dX5_keep_1 : decode cX5_keep 1 = .ok (.getfield 19, 3) := by decide +kernel
theorem dX5_keep_4 : decode cX5_keep 4 = .ok (.iload_n 2, 1) := by decide +kernel
theorem dX5_keep_5 : decode cX5_keep 5 = .ok (.iload_n 1, 1) := by decide +kernel
theorem dX5_keep_6 : decode cX5_keep 6 = .ok (.invokevirtual 235, 3) := by decide +kernel
theorem dX5_keep_9 : decode cX5_keep 9 = .ok (.iconst 0, 1) := by decide +kernel
theorem dX5_keep_10 : decode cX5_keep 10 = .ok (.ireturn, 1) := by decide +kernel
set_option maxRecDepth 20000 in
theorem ggX5_weigh_X4_weightOf : GoodIn wsX5_weigh wsX4_weightOf := goodIn_ca (goodIn_r _ [7, 8, 9, 10, 11, 6, 12, 13, 40, 41, 42, 43, 44, 45] (by decide +kernel) (by decide +kernel)) (goodIn_sub (fun _ h => List.mem_cons_of_mem _ (List.mem_append_right _ h)) (by decide +kernel))
set_option maxRecDepth 20000 in
theorem gX5_weigh_X4_weightOf : GoodIn wsX5_weigh (wsV RX5 72 RX4 yX4_weightOf wsX4_weightOf) := goodIn_app (goodIn_of _ (by decide +kernel)) ggX5_weigh_X4_weightOf
set_option maxRecDepth 20000 in
theorem ggX5_weigh_X2_grow : GoodIn wsX5_weigh wsX2_grow := goodIn_ca (goodIn_r _ [18, 19, 20, 21, 22, 17, 23, 24, 46, 47, 48, 49, 50] (by decide +kernel) (by decide +kernel)) (goodIn_sub (fun _ h => List.mem_cons_of_mem _ (List.mem_append_right _ h)) (by decide +kernel))
set_option maxRecDepth 20000 in
theorem gX5_weigh_X2_grow : GoodIn wsX5_weigh (wsV RX5 232 RX2 yX2_grow wsX2_grow) := goodIn_app (goodIn_of _ (by decide +kernel)) ggX5_weigh_X2_grow
set_option maxRecDepth 20000 in
theorem ggX5_weigh_X5_keep : GoodIn wsX5_weigh wsX5_keep := goodIn_ca (goodIn_r _ [29, 1, 30, 31, 32, 17, 33, 34, 20, 21, 22, 23, 24, 35, 36, 37, 38, 39, 46, 47, 48, 49, 50] (by decide +kernel) (by decide +kernel)) (goodIn_sub (fun _ h => List.mem_cons_of_mem _ (List.mem_append_right _ h)) (by decide +kernel))
set_option maxRecDepth 20000 in
theorem gX5_weigh_X5_keep : GoodIn wsX5_weigh (wsV RX5 229 RX5 yX5_keep wsX5_keep) := goodIn_app (goodIn_of _ (by decide +kernel)) ggX5_weigh_X5_keep
theorem dX5_weigh_0 : decode cX5_weigh 0 = .ok (.aload_n 0, 1) := by decide +kernel
theorem dX5_weigh_1 : decode cX5_weigh 1 = .ok (.getfield 19, 3) := by decide +kernel
theorem dX5_weigh_4 : decode cX5_weigh 4 = .ok (.iload_n 2, 1) := by decide +kernel
theorem dX5_weigh_5 : decode cX5_weigh 5 = .ok (.aload_n 0, 1) := by decide +kernel
theorem dX5_weigh_6 : decode cX5_weigh 6 = .ok (.getfield 10, 3) := by decide +kernel
theorem dX5_weigh_9 : decode cX5_weigh 9 = .ok (.iload_n 1, 1) := by decide +kernel
theorem dX5_weigh_10 : decode cX5_weigh 10 = .ok (.invokevirtual 72, 3) := by decide +kernel
theorem dX5_weigh_13 : decode cX5_weigh 13 = .ok (.i2l, 1) := by decide +kernel
theorem dX5_weigh_14 : decode cX5_weigh 14 = .ok (.invokevirtual 232, 3) := by decide +kernel
theorem dX5_weigh_17 : decode cX5_weigh 17 = .ok (.aload_n 0, 1) := by decide +kernel
theorem dX5_weigh_18 : decode cX5_weigh 18 = .ok (.iload_n 1, 1) := by decide +kernel
theorem dX5_weigh_19 : decode cX5_weigh 19 = .ok (.iload_n 2, 1) := by decide +kernel
theorem dX5_weigh_20 : decode cX5_weigh 20 = .ok (.invokevirtual 229, 3) := by decide +kernel
theorem dX5_weigh_23 : decode cX5_weigh 23 = .ok (.ireturn, 1) := by decide +kernel
set_option maxRecDepth 20000 in
theorem ggX5_addMembers_X4_sizeOf : GoodIn wsX5_addMembers wsX4_sizeOf := goodIn_ca (goodIn_r _ [6, 7, 8, 9, 10, 5, 11, 12, 59, 60, 61, 62, 63, 64] (by decide +kernel) (by decide +kernel)) (goodIn_sub (fun _ h => List.mem_cons_of_mem _ (List.mem_append_right _ h)) (by decide +kernel))
set_option maxRecDepth 20000 in
theorem gX5_addMembers_X4_sizeOf : GoodIn wsX5_addMembers (wsV RX5 75 RX4 yX4_sizeOf wsX4_sizeOf) := goodIn_app (goodIn_of _ (by decide +kernel)) ggX5_addMembers_X4_sizeOf
set_option maxRecDepth 20000 in
theorem ggX5_addMembers_X4_memberAt : GoodIn wsX5_addMembers wsX4_memberAt := goodIn_ca (goodIn_r _ [16, 17, 18, 19, 20, 5, 21, 12, 7, 59, 60, 61, 62, 63, 64] (by decide +kernel) (by decide +kernel)) (goodIn_sub (fun _ h => List.mem_cons_of_mem _ (List.mem_append_right _ h)) (by decide +kernel))
set_option maxRecDepth 20000 in
theorem gX5_addMembers_X4_memberAt : GoodIn wsX5_addMembers (wsV RX5 107 RX4 yX4_memberAt wsX4_memberAt) := goodIn_app (goodIn_of _ (by decide +kernel)) ggX5_addMembers_X4_memberAt
set_option maxRecDepth 20000 in
theorem ggX5_addMembers_X4_keyOf : GoodIn wsX5_addMembers wsX4_keyOf := goodIn_ca (goodIn_r _ [25, 26, 27, 28, 5, 29, 30, 8, 9, 10, 11, 12, 31, 32, 33, 34, 35, 59, 60, 61, 62, 63, 64] (by decide +kernel) (by decide +kernel)) (goodIn_sub (fun _ h => List.mem_cons_of_mem _ (List.mem_append_right _ h)) (by decide +kernel))
set_option maxRecDepth 20000 in
theorem gX5_addMembers_X4_keyOf : GoodIn wsX5_addMembers (wsV RX5 204 RX4 yX4_keyOf wsX4_keyOf) := goodIn_app (goodIn_of _ (by decide +kernel)) ggX5_addMembers_X4_keyOf
set_option maxRecDepth 20000 in
theorem ggX5_addMembers_X4_weightOf : GoodIn wsX5_addMembers wsX4_weightOf := goodIn_ca (goodIn_r _ [34, 35, 8, 9, 10, 5, 11, 12, 59, 60, 61, 62, 63, 64] (by decide +kernel) (by decide +kernel)) (goodIn_sub (fun _ h => List.mem_cons_of_mem _ (List.mem_append_right _ h)) (by decide +kernel))
set_option maxRecDepth 20000 in
theorem gX5_addMembers_X4_weightOf : GoodIn wsX5_addMembers (wsV RX5 72 RX4 yX4_weightOf wsX4_weightOf) := goodIn_app (goodIn_of _ (by decide +kernel)) ggX5_addMembers_X4_weightOf
set_option maxRecDepth 20000 in
theorem ggX5_addMembers_X5_grow : GoodIn wsX5_addMembers wsX5_grow := goodIn_ca (goodIn_r _ [41, 42, 43, 44, 45, 46, 47, 48, 49, 50, 51, 52, 53, 54, 55, 56, 57, 58, 65, 66, 67, 68, 69] (by decide +kernel) (by decide +kernel)) (goodIn_sub (fun _ h => List.mem_cons_of_mem _ (List.mem_append_right _ h)) (by decide +kernel))
set_option maxRecDepth 20000 in
theorem gX5_addMembers_X5_grow : GoodIn wsX5_addMembers (wsV RX5 207 RX5 yX5_grow wsX5_grow) := goodIn_app (goodIn_of _ (by decide +kernel)) ggX5_addMembers_X5_grow
theorem dX5_addMembers_0 : decode cX5_addMembers 0 = .ok (.lconst 0, 1) := by decide +kernel
theorem dX5_addMembers_1 : decode cX5_addMembers 1 = .ok (.lstore 4, 2) := by decide +kernel
theorem dX5_addMembers_3 : decode cX5_addMembers 3 = .ok (.iconst 0, 1) := by decide +kernel
theorem dX5_addMembers_4 : decode cX5_addMembers 4 = .ok (.istore 6, 2) := by decide +kernel
theorem dX5_addMembers_6 : decode cX5_addMembers 6 = .ok (.iload 6, 2) := by decide +kernel
theorem dX5_addMembers_8 : decode cX5_addMembers 8 = .ok (.aload_n 0, 1) := by decide +kernel
theorem dX5_addMembers_9 : decode cX5_addMembers 9 = .ok (.getfield 10, 3) := by decide +kernel
theorem dX5_addMembers_12 : decode cX5_addMembers 12 = .ok (.iload_n 1, 1) := by decide +kernel
theorem dX5_addMembers_13 : decode cX5_addMembers 13 = .ok (.invokevirtual 75, 3) := by decide +kernel
theorem dX5_addMembers_16 : decode cX5_addMembers 16 = .ok (.if_icmp .ge 64, 3) := by decide +kernel
theorem dX5_addMembers_19 : decode cX5_addMembers 19 = .ok (.aload_n 0, 1) := by decide +kernel
theorem dX5_addMembers_20 : decode cX5_addMembers 20 = .ok (.getfield 10, 3) := by decide +kernel
theorem dX5_addMembers_23 : decode cX5_addMembers 23 = .ok (.iload_n 1, 1) := by decide +kernel
theorem dX5_addMembers_24 : decode cX5_addMembers 24 = .ok (.iload 6, 2) := by decide +kernel
theorem dX5_addMembers_26 : decode cX5_addMembers 26 = .ok (.invokevirtual 107, 3) := by decide +kernel
theorem dX5_addMembers_29 : decode cX5_addMembers 29 = .ok (.istore 7, 2) := by decide +kernel
theorem dX5_addMembers_31 : decode cX5_addMembers 31 = .ok (.iload 7, 2) := by decide +kernel
theorem dX5_addMembers_33 : decode cX5_addMembers 33 = .ok (.bipush (-5), 2) := by decide +kernel
theorem dX5_addMembers_35 : decode cX5_addMembers 35 = .ok (.if_icmp .ne 5, 3) := by decide +kernel
theorem dX5_addMembers_38 : decode cX5_addMembers 38 = .ok (.iconst 2, 1) := by decide +kernel
theorem dX5_addMembers_39 : decode cX5_addMembers 39 = .ok (.ireturn, 1) := by decide +kernel
theorem dX5_addMembers_40 : decode cX5_addMembers 40 = .ok (.lload 4, 2) := by decide +kernel
theorem dX5_addMembers_42 : decode cX5_addMembers 42 = .ok (.iload_n 3, 1) := by decide +kernel
theorem dX5_addMembers_43 : decode cX5_addMembers 43 = .ok (.bipush 10, 2) := by decide +kernel
theorem dX5_addMembers_45 : decode cX5_addMembers 45 = .ok (.if_icmp .ne 16, 3) := by decide +kernel
theorem dX5_addMembers_48 : decode cX5_addMembers 48 = .ok (.aload_n 0, 1) := by decide +kernel
theorem dX5_addMembers_49 : decode cX5_addMembers 49 = .ok (.getfield 10, 3) := by decide +kernel
theorem dX5_addMembers_52 : decode cX5_addMembers 52 = .ok (.iload 7, 2) := by decide +kernel
theorem dX5_addMembers_54 : decode cX5_addMembers 54 = .ok (.invokevirtual 204, 3) := by decide +kernel
theorem dX5_addMembers_57 : decode cX5_addMembers 57 = .ok (.i2l, 1) := by decide +kernel
theorem dX5_addMembers_58 : decode cX5_addMembers 58 = .ok (.goto 13, 3) := by decide +kernel
theorem dX5_addMembers_61 : decode cX5_addMembers 61 = .ok (.aload_n 0, 1) := by decide +kernel
theorem dX5_addMembers_62 : decode cX5_addMembers 62 = .ok (.getfield 10, 3) := by decide +kernel
theorem dX5_addMembers_65 : decode cX5_addMembers 65 = .ok (.iload 7, 2) := by decide +kernel
theorem dX5_addMembers_67 : decode cX5_addMembers 67 = .ok (.invokevirtual 72, 3) := by decide +kernel
theorem dX5_addMembers_70 : decode cX5_addMembers 70 = .ok (.i2l, 1) := by decide +kernel
theorem dX5_addMembers_71 : decode cX5_addMembers 71 = .ok (.ladd, 1) := by decide +kernel
theorem dX5_addMembers_72 : decode cX5_addMembers 72 = .ok (.lstore 4, 2) := by decide +kernel
theorem dX5_addMembers_74 : decode cX5_addMembers 74 = .ok (.iinc 6 1, 3) := by decide +kernel
theorem dX5_addMembers_77 : decode cX5_addMembers 77 = .ok (.goto (-71), 3) := by decide +kernel
theorem dX5_addMembers_80 : decode cX5_addMembers 80 = .ok (.aload_n 0, 1) := by decide +kernel
theorem dX5_addMembers_81 : decode cX5_addMembers 81 = .ok (.iload_n 2, 1) := by decide +kernel
theorem dX5_addMembers_82 : decode cX5_addMembers 82 = .ok (.lload 4, 2) := by decide +kernel
theorem dX5_addMembers_84 : decode cX5_addMembers 84 = .ok (.invokevirtual 207, 3) := by decide +kernel
theorem dX5_addMembers_87 : decode cX5_addMembers 87 = .ok (.ireturn, 1) := by decide +kernel
set_option maxRecDepth 20000 in
theorem ggX5_pack_X2_slotOf : GoodIn wsX5_pack wsX2_slotOf := goodIn_ca (goodIn_r _ [6, 7, 8, 9, 10, 5, 11, 12, 59, 60, 61, 62, 63] (by decide +kernel) (by decide +kernel)) (goodIn_sub (fun _ h => List.mem_cons_of_mem _ (List.mem_append_right _ h)) (by decide +kernel))
set_option maxRecDepth 20000 in
theorem gX5_pack_X2_slotOf : GoodIn wsX5_pack (wsV RX5 149 RX2 yX2_slotOf wsX2_slotOf) := goodIn_app (goodIn_of _ (by decide +kernel)) ggX5_pack_X2_slotOf
set_option maxRecDepth 20000 in
theorem ggX5_pack_X5_layInto : GoodIn wsX5_pack wsX5_layInto := goodIn_ca (goodIn_r _ [17, 18, 19, 20, 21, 22, 23, 24, 25, 26, 27, 28, 29, 30, 16, 31, 32, 33, 34, 35, 36, 37, 38, 39, 40, 41, 42, 43, 44, 45, 46, 47, 48, 49, 54, 55, 56, 57, 58, 64, 65, 66, 67, 68, 69] (by decide +kernel) (by decide +kernel)) (goodIn_sub (fun _ h => List.mem_cons_of_mem _ (List.mem_append_right _ h)) (by decide +kernel))
set_option maxRecDepth 20000 in
theorem gX5_pack_X5_layInto : GoodIn wsX5_pack (wsV RX5 104 RX5 yX5_layInto wsX5_layInto) := goodIn_app (goodIn_of _ (by decide +kernel)) ggX5_pack_X5_layInto
set_option maxRecDepth 20000 in
theorem ggX5_pack_X2_setSlot : GoodIn wsX5_pack wsX2_setSlot := goodIn_ca (goodIn_r _ [53, 7, 8, 9, 10, 5, 11, 12, 59, 60, 61, 62, 63] (by decide +kernel) (by decide +kernel)) (goodIn_sub (fun _ h => List.mem_cons_of_mem _ (List.mem_append_right _ h)) (by decide +kernel))
set_option maxRecDepth 20000 in
theorem gX5_pack_X2_setSlot : GoodIn wsX5_pack (wsV RX5 235 RX2 yX2_setSlot wsX2_setSlot) := goodIn_app (goodIn_of _ (by decide +kernel)) ggX5_pack_X2_setSlot
theorem dX5_pack_0 : decode cX5_pack 0 = .ok (.aload_n 0, 1) := by decide +kernel
theorem dX5_pack_1 : decode cX5_pack 1 = .ok (.iload_n 1, 1) := by decide +kernel
theorem dX5_pack_2 : decode cX5_pack 2 = .ok (.iconst 0, 1) := by decide +kernel
theorem dX5_pack_3 : decode cX5_pack 3 = .ok (.aload_n 0, 1) := by decide +kernel
theorem dX5_pack_4 : decode cX5_pack 4 = .ok (.getfield 19, 3) := by decide +kernel
theorem dX5_pack_7 : decode cX5_pack 7 = .ok (.iload_n 2, 1) := by decide +kernel
theorem dX5_pack_8 : decode cX5_pack 8 = .ok (.invokevirtual 149, 3) := by decide +kernel
theorem dX5_pack_11 : decode cX5_pack 11 = .ok (.iconst 0, 1) := by decide +kernel
theorem dX5_pack_12 : decode cX5_pack 12 = .ok (.invokevirtual 104, 3) := by decide +kernel
theorem dX5_pack_15 : decode cX5_pack 15 = .ok (.istore_n 3, 1) := by decide +kernel
theorem dX5_pack_16 : decode cX5_pack 16 = .ok (.iload_n 3, 1) := by decide +kernel
theorem dX5_pack_17 : decode cX5_pack 17 = .ok (.ifCond .ne 13, 3) := by decide +kernel
theorem dX5_pack_20 : decode cX5_pack 20 = .ok (.aload_n 0, 1) := by decide +kernel
theorem dX5_pack_21 : decode cX5_pack 21 = .ok (.getfield 19, 3) := by decide +kernel
theorem dX5_pack_24 : decode cX5_pack 24 = .ok (.iload_n 2, 1) := by decide +kernel
theorem dX5_pack_25 : decode cX5_pack 25 = .ok (.bipush (-5), 2) := by decide +kernel
theorem dX5_pack_27 : decode cX5_pack 27 = .ok (.invokevirtual 235, 3) := by decide +kernel
theorem dX5_pack_30 : decode cX5_pack 30 = .ok (.iload_n 3, 1) := by decide +kernel
theorem dX5_pack_31 : decode cX5_pack 31 = .ok (.ireturn, 1) := by decide +kernel
set_option maxRecDepth 20000 in
theorem ggX5_addCorner_X5_findingAtFirst : GoodIn wsX5_addCorner wsX5_findingAtFirst := goodIn_ca (goodIn_r _ [6, 1, 7, 8, 9, 10, 11, 12, 13, 14, 15, 16, 17, 18, 19, 45, 46, 47, 48, 49, 50, 51, 52, 53, 54, 55] (by decide +kernel) (by decide +kernel)) (goodIn_sub (fun _ h => List.mem_cons_of_mem _ (List.mem_append_right _ h)) (by decide +kernel))
set_option maxRecDepth 20000 in
theorem gX5_addCorner_X5_findingAtFirst : GoodIn wsX5_addCorner (wsV RX5 239 RX5 yX5_findingAtFirst wsX5_findingAtFirst) := goodIn_app (goodIn_of _ (by decide +kernel)) ggX5_addCorner_X5_findingAtFirst
set_option maxRecDepth 20000 in
theorem ggX5_addCorner_X4_memberAt : GoodIn wsX5_addCorner wsX4_memberAt := goodIn_ca (goodIn_r _ [17, 18, 19, 8, 9, 10, 11, 12, 13, 50, 51, 52, 53, 54, 55] (by decide +kernel) (by decide +kernel)) (goodIn_sub (fun _ h => List.mem_cons_of_mem _ (List.mem_append_right _ h)) (by decide +kernel))
set_option maxRecDepth 20000 in
theorem gX5_addCorner_X4_memberAt : GoodIn wsX5_addCorner (wsV RX5 107 RX4 yX4_memberAt wsX4_memberAt) := goodIn_app (goodIn_of _ (by decide +kernel)) ggX5_addCorner_X4_memberAt
set_option maxRecDepth 20000 in
theorem ggX5_addCorner_X4_weightOf : GoodIn wsX5_addCorner wsX4_weightOf := goodIn_ca (goodIn_r _ [23, 24, 25, 26, 27, 10, 28, 12, 50, 51, 52, 53, 54, 55] (by decide +kernel) (by decide +kernel)) (goodIn_sub (fun _ h => List.mem_cons_of_mem _ (List.mem_append_right _ h)) (by decide +kernel))
set_option maxRecDepth 20000 in
theorem gX5_addCorner_X4_weightOf : GoodIn wsX5_addCorner (wsV RX5 72 RX4 yX4_weightOf wsX4_weightOf) := goodIn_app (goodIn_of _ (by decide +kernel)) ggX5_addCorner_X4_weightOf
set_option maxRecDepth 20000 in
theorem ggX5_addCorner_X5_grow : GoodIn wsX5_addCorner wsX5_grow := goodIn_ca (goodIn_r _ [32, 33, 34, 35, 36, 37, 38, 39, 40, 41, 42, 43, 44, 45, 46, 47, 48, 49, 56, 57, 58, 59, 60] (by decide +kernel) (by decide +kernel)) (goodIn_sub (fun _ h => List.mem_cons_of_mem _ (List.mem_append_right _ h)) (by decide +kernel))
set_option maxRecDepth 20000 in
theorem gX5_addCorner_X5_grow : GoodIn wsX5_addCorner (wsV RX5 207 RX5 yX5_grow wsX5_grow) := goodIn_app (goodIn_of _ (by decide +kernel)) ggX5_addCorner_X5_grow
theorem dX5_addCorner_0 : decode cX5_addCorner 0 = .ok (.iload_n 1, 1) := by decide +kernel
theorem dX5_addCorner_1 : decode cX5_addCorner 1 = .ok (.istore 4, 2) := by decide +kernel
theorem dX5_addCorner_3 : decode cX5_addCorner 3 = .ok (.iconst 0, 1) := by decide +kernel
theorem dX5_addCorner_4 : decode cX5_addCorner 4 = .ok (.istore 5, 2) := by decide +kernel
theorem dX5_addCorner_6 : decode cX5_addCorner 6 = .ok (.iload 5, 2) := by decide +kernel
theorem dX5_addCorner_8 : decode cX5_addCorner 8 = .ok (.iload_n 3, 1) := by decide +kernel
theorem dX5_addCorner_9 : decode cX5_addCorner 9 = .ok (.if_icmp .ge 37, 3) := by decide +kernel
theorem dX5_addCorner_12 : decode cX5_addCorner 12 = .ok (.aload_n 0, 1) := by decide +kernel
theorem dX5_addCorner_13 : decode cX5_addCorner 13 = .ok (.iload 4, 2) := by decide +kernel
theorem dX5_addCorner_15 : decode cX5_addCorner 15 = .ok (.invokevirtual 239, 3) := by decide +kernel
theorem dX5_addCorner_18 : decode cX5_addCorner 18 = .ok (.istore 6, 2) := by decide +kernel
theorem dX5_addCorner_20 : decode cX5_addCorner 20 = .ok (.iload 6, 2) := by decide +kernel
theorem dX5_addCorner_22 : decode cX5_addCorner 22 = .ok (.ifCond .eq 6, 3) := by decide +kernel
theorem dX5_addCorner_25 : decode cX5_addCorner 25 = .ok (.iload 6, 2) := by decide +kernel
theorem dX5_addCorner_27 : decode cX5_addCorner 27 = .ok (.ireturn, 1) := by decide +kernel
theorem dX5_addCorner_28 : decode cX5_addCorner 28 = .ok (.aload_n 0, 1) := by decide +kernel
theorem dX5_addCorner_29 : decode cX5_addCorner 29 = .ok (.getfield 10, 3) := by decide +kernel
theorem dX5_addCorner_32 : decode cX5_addCorner 32 = .ok (.iload 4, 2) := by decide +kernel
theorem dX5_addCorner_34 : decode cX5_addCorner 34 = .ok (.iconst 0, 1) := by decide +kernel
theorem dX5_addCorner_35 : decode cX5_addCorner 35 = .ok (.invokevirtual 107, 3) := by decide +kernel
theorem dX5_addCorner_38 : decode cX5_addCorner 38 = .ok (.istore 4, 2) := by decide +kernel
theorem dX5_addCorner_40 : decode cX5_addCorner 40 = .ok (.iinc 5 1, 3) := by decide +kernel
theorem dX5_addCorner_43 : decode cX5_addCorner 43 = .ok (.goto (-37), 3) := by decide +kernel
theorem dX5_addCorner_46 : decode cX5_addCorner 46 = .ok (.aload_n 0, 1) := by decide +kernel
theorem dX5_addCorner_47 : decode cX5_addCorner 47 = .ok (.iload_n 2, 1) := by decide +kernel
theorem dX5_addCorner_48 : decode cX5_addCorner 48 = .ok (.aload_n 0, 1) := by decide +kernel
theorem dX5_addCorner_49 : decode cX5_addCorner 49 = .ok (.getfield 10, 3) := by decide +kernel
theorem dX5_addCorner_52 : decode cX5_addCorner 52 = .ok (.iload 4, 2) := by decide +kernel
theorem dX5_addCorner_54 : decode cX5_addCorner 54 = .ok (.invokevirtual 72, 3) := by decide +kernel
theorem dX5_addCorner_57 : decode cX5_addCorner 57 = .ok (.i2l, 1) := by decide +kernel
theorem dX5_addCorner_58 : decode cX5_addCorner 58 = .ok (.invokevirtual 207, 3) := by decide +kernel
theorem dX5_addCorner_61 : decode cX5_addCorner 61 = .ok (.ireturn, 1) := by decide +kernel
set_option maxRecDepth 20000 in
theorem ggX5_addCell_X5_findingAtFirst : GoodIn wsX5_addCell wsX5_findingAtFirst := goodIn_ca (goodIn_r _ [6, 1, 7, 8, 9, 10, 11, 12, 13, 14, 15, 16, 17, 18, 19, 41, 42, 43, 44, 45, 46, 47, 48, 49, 50, 51] (by decide +kernel) (by decide +kernel)) (goodIn_sub (fun _ h => List.mem_cons_of_mem _ (List.mem_append_right _ h)) (by decide +kernel))
set_option maxRecDepth 20000 in
theorem gX5_addCell_X5_findingAtFirst : GoodIn wsX5_addCell (wsV RX5 239 RX5 yX5_findingAtFirst wsX5_findingAtFirst) := goodIn_app (goodIn_of _ (by decide +kernel)) ggX5_addCell_X5_findingAtFirst
set_option maxRecDepth 20000 in
theorem ggX5_addCell_X4_memberAt : GoodIn wsX5_addCell wsX4_memberAt := goodIn_ca (goodIn_r _ [17, 18, 19, 8, 9, 10, 11, 12, 13, 46, 47, 48, 49, 50, 51] (by decide +kernel) (by decide +kernel)) (goodIn_sub (fun _ h => List.mem_cons_of_mem _ (List.mem_append_right _ h)) (by decide +kernel))
set_option maxRecDepth 20000 in
theorem gX5_addCell_X4_memberAt : GoodIn wsX5_addCell (wsV RX5 107 RX4 yX4_memberAt wsX4_memberAt) := goodIn_app (goodIn_of _ (by decide +kernel)) ggX5_addCell_X4_memberAt
set_option maxRecDepth 20000 in
theorem ggX5_addCell_X4_hasPlace : GoodIn wsX5_addCell wsX4_hasPlace := goodIn_ca (goodIn_r _ [11, 12, 13, 46, 47, 48, 49, 50, 51] (by decide +kernel) (by decide +kernel)) (goodIn_sub (fun _ h => List.mem_cons_of_mem _ (List.mem_append_right _ h)) (by decide +kernel))
set_option maxRecDepth 20000 in
theorem gX5_addCell_X4_hasPlace : GoodIn wsX5_addCell (wsV RX5 186 RX4 yX4_hasPlace wsX4_hasPlace) := goodIn_app (goodIn_of _ (by decide +kernel)) ggX5_addCell_X4_hasPlace
set_option maxRecDepth 20000 in
theorem ggX5_addCell_X4_numberAt : GoodIn wsX5_addCell wsX4_numberAt := goodIn_ca (goodIn_r _ [23, 24, 19, 8, 9, 10, 11, 12, 13, 46, 47, 48, 49, 50, 51] (by decide +kernel) (by decide +kernel)) (goodIn_sub (fun _ h => List.mem_cons_of_mem _ (List.mem_append_right _ h)) (by decide +kernel))
set_option maxRecDepth 20000 in
theorem gX5_addCell_X4_numberAt : GoodIn wsX5_addCell (wsV RX5 97 RX4 yX4_numberAt wsX4_numberAt) := goodIn_app (goodIn_of _ (by decide +kernel)) ggX5_addCell_X4_numberAt
set_option maxRecDepth 20000 in
theorem ggX5_addCell_X5_grow : GoodIn wsX5_addCell wsX5_grow := goodIn_ca (goodIn_r _ [28, 29, 30, 31, 32, 33, 34, 35, 36, 37, 38, 39, 40, 41, 42, 43, 44, 45, 52, 53, 54, 55, 56] (by decide +kernel) (by decide +kernel)) (goodIn_sub (fun _ h => List.mem_cons_of_mem _ (List.mem_append_right _ h)) (by decide +kernel))
set_option maxRecDepth 20000 in
theorem gX5_addCell_X5_grow : GoodIn wsX5_addCell (wsV RX5 207 RX5 yX5_grow wsX5_grow) := goodIn_app (goodIn_of _ (by decide +kernel)) ggX5_addCell_X5_grow
theorem dX5_addCell_0 : decode cX5_addCell 0 = .ok (.aload_n 0, 1) := by decide +kernel
theorem dX5_addCell_1 : decode cX5_addCell 1 = .ok (.iload_n 1, 1) := by decide +kernel
theorem dX5_addCell_2 : decode cX5_addCell 2 = .ok (.invokevirtual 239, 3) := by decide +kernel
theorem dX5_addCell_5 : decode cX5_addCell 5 = .ok (.istore_n 3, 1) := by decide +kernel
theorem dX5_addCell_6 : decode cX5_addCell 6 = .ok (.iload_n 3, 1) := by decide +kernel
theorem dX5_addCell_7 : decode cX5_addCell 7 = .ok (.ifCond .eq 5, 3) := by decide +kernel
theorem dX5_addCell_10 : decode cX5_addCell 10 = .ok (.iload_n 3, 1) := by decide +kernel
theorem dX5_addCell_11 : decode cX5_addCell 11 = .ok (.ireturn, 1) := by decide +kernel
theorem dX5_addCell_12 : decode cX5_addCell 12 = .ok (.aload_n 0, 1) := by decide +kernel
theorem dX5_addCell_13 : decode cX5_addCell 13 = .ok (.getfield 10, 3) := by decide +kernel
theorem dX5_addCell_16 : decode cX5_addCell 16 = .ok (.iload_n 1, 1) := by decide +kernel
theorem dX5_addCell_17 : decode cX5_addCell 17 = .ok (.iconst 0, 1) := by decide +kernel
theorem dX5_addCell_18 : decode cX5_addCell 18 = .ok (.invokevirtual 107, 3) := by decide +kernel
theorem dX5_addCell_21 : decode cX5_addCell 21 = .ok (.istore 4, 2) := by decide +kernel
theorem dX5_addCell_23 : decode cX5_addCell 23 = .ok (.aload_n 0, 1) := by decide +kernel
theorem dX5_addCell_24 : decode cX5_addCell 24 = .ok (.getfield 10, 3) := by decide +kernel
theorem dX5_addCell_27 : decode cX5_addCell 27 = .ok (.iload 4, 2) := by decide +kernel
theorem dX5_addCell_29 : decode cX5_addCell 29 = .ok (.iconst 0, 1) := by decide +kernel
theorem dX5_addCell_30 : decode cX5_addCell 30 = .ok (.invokevirtual 186, 3) := by decide +kernel
theorem dX5_addCell_33 : decode cX5_addCell 33 = .ok (.ifCond .eq 21, 3) := by decide +kernel
theorem dX5_addCell_36 : decode cX5_addCell 36 = .ok (.aload_n 0, 1) := by decide +kernel
theorem dX5_addCell_37 : decode cX5_addCell 37 = .ok (.iload_n 2, 1) := by decide +kernel
theorem dX5_addCell_38 : decode cX5_addCell 38 = .ok (.aload_n 0, 1) := by decide +kernel
theorem dX5_addCell_39 : decode cX5_addCell 39 = .ok (.getfield 10, 3) := by decide +kernel
theorem dX5_addCell_42 : decode cX5_addCell 42 = .ok (.iload 4, 2) := by decide +kernel
theorem dX5_addCell_44 : decode cX5_addCell 44 = .ok (.iconst 0, 1) := by decide +kernel
theorem dX5_addCell_45 : decode cX5_addCell 45 = .ok (.invokevirtual 97, 3) := by decide +kernel
theorem dX5_addCell_48 : decode cX5_addCell 48 = .ok (.invokevirtual 207, 3) := by decide +kernel
theorem dX5_addCell_51 : decode cX5_addCell 51 = .ok (.goto 4, 3) := by decide +kernel
theorem dX5_addCell_54 : decode cX5_addCell 54 = .ok (.iconst 3, 1) := by decide +kernel
theorem dX5_addCell_55 : decode cX5_addCell 55 = .ok (.ireturn, 1) := by decide +kernel
set_option maxRecDepth 20000 in
theorem ggX5_findingAtFirst_X4_hasPlace : GoodIn wsX5_findingAtFirst wsX4_hasPlace := goodIn_ca (goodIn_r _ [6, 7, 8, 20, 21, 22, 23, 24, 25] (by decide +kernel) (by decide +kernel)) (goodIn_sub (fun _ h => List.mem_cons_of_mem _ (List.mem_append_right _ h)) (by decide +kernel))
set_option maxRecDepth 20000 in
theorem gX5_findingAtFirst_X4_hasPlace : GoodIn wsX5_findingAtFirst (wsV RX5 186 RX4 yX4_hasPlace wsX4_hasPlace) := goodIn_app (goodIn_of _ (by decide +kernel)) ggX5_findingAtFirst_X4_hasPlace
set_option maxRecDepth 20000 in
theorem ggX5_findingAtFirst_X4_memberAt : GoodIn wsX5_findingAtFirst wsX4_memberAt := goodIn_ca (goodIn_r _ [12, 13, 14, 3, 4, 5, 6, 7, 8, 20, 21, 22, 23, 24, 25] (by decide +kernel) (by decide +kernel)) (goodIn_sub (fun _ h => List.mem_cons_of_mem _ (List.mem_append_right _ h)) (by decide +kernel))
set_option maxRecDepth 20000 in
theorem gX5_findingAtFirst_X4_memberAt : GoodIn wsX5_findingAtFirst (wsV RX5 107 RX4 yX4_memberAt wsX4_memberAt) := goodIn_app (goodIn_of _ (by decide +kernel)) ggX5_findingAtFirst_X4_memberAt
theorem dX5_findingAtFirst_0 : decode cX5_findingAtFirst 0 = .ok (.aload_n 0, 1) := by decide +kernel
theorem dX5_findingAtFirst_1 : decode cX5_findingAtFirst 1 = .ok (.getfield 10, 3) := by decide +kernel
theorem dX5_findingAtFirst_4 : decode cX5_findingAtFirst 4 = .ok (.iload_n 1, 1) := by decide +kernel
theorem dX5_findingAtFirst_5 : decode cX5_findingAtFirst 5 = .ok (.iconst 0, 1) := by decide +kernel
theorem dX5_findingAtFirst_6 : decode cX5_findingAtFirst 6 = .ok (.invokevirtual 186, 3) := by decide +kernel
theorem dX5_findingAtFirst_9 : decode cX5_findingAtFirst 9 = .ok (.ifCond .ne 5, 3) := by decide +kernel
theorem dX5_findingAtFirst_12 : decode cX5_findingAtFirst 12 = .ok (.iconst 3, 1) := by decide +kernel
theorem dX5_findingAtFirst_13 : decode cX5_findingAtFirst 13 = .ok (.ireturn, 1) := by decide +kernel
theorem dX5_findingAtFirst_14 : decode cX5_findingAtFirst 14 = .ok (.aload_n 0, 1) := by decide +kernel
theorem dX5_findingAtFirst_15 : decode cX5_findingAtFirst 15 = .ok (.getfield 10, 3) := by decide +kernel
theorem dX5_findingAtFirst_18 : decode cX5_findingAtFirst 18 = .ok (.iload_n 1, 1) := by decide +kernel
theorem dX5_findingAtFirst_19 : decode cX5_findingAtFirst 19 = .ok (.iconst 0, 1) := by decide +kernel
theorem dX5_findingAtFirst_20 : decode cX5_findingAtFirst 20 = .ok (.invokevirtual 107, 3) := by decide +kernel
theorem dX5_findingAtFirst_23 : decode cX5_findingAtFirst 23 = .ok (.bipush (-5), 2) := by decide +kernel
theorem dX5_findingAtFirst_25 : decode cX5_findingAtFirst 25 = .ok (.if_icmp .ne 7, 3) := by decide +kernel
theorem dX5_findingAtFirst_28 : decode cX5_findingAtFirst 28 = .ok (.iconst 2, 1) := by decide +kernel
theorem dX5_findingAtFirst_29 : decode cX5_findingAtFirst 29 = .ok (.goto 4, 3) := by decide +kernel
theorem dX5_findingAtFirst_32 : decode cX5_findingAtFirst 32 = .ok (.iconst 0, 1) := by decide +kernel
theorem dX5_findingAtFirst_33 : decode cX5_findingAtFirst 33 = .ok (.ireturn, 1) := by decide +kernel
set_option maxRecDepth 20000 in
theorem ggX5_spill_X4_sizeOf : GoodIn wsX5_spill wsX4_sizeOf := goodIn_ca (goodIn_r _ [7, 8, 9, 10, 11, 6, 12, 13, 40, 41, 42, 43, 44, 45] (by decide +kernel) (by decide +kernel)) (goodIn_sub (fun _ h => List.mem_cons_of_mem _ (List.mem_append_right _ h)) (by decide +kernel))
set_option maxRecDepth 20000 in
theorem gX5_spill_X4_sizeOf : GoodIn wsX5_spill (wsV RX5 75 RX4 yX4_sizeOf wsX4_sizeOf) := goodIn_app (goodIn_of _ (by decide +kernel)) ggX5_spill_X4_sizeOf
set_option maxRecDepth 20000 in
theorem ggX5_spill_X4_memberAt : GoodIn wsX5_spill wsX4_memberAt := goodIn_ca (goodIn_r _ [17, 18, 19, 20, 21, 6, 22, 13, 8, 40, 41, 42, 43, 44, 45] (by decide +kernel) (by decide +kernel)) (goodIn_sub (fun _ h => List.mem_cons_of_mem _ (List.mem_append_right _ h)) (by decide +kernel))
set_option maxRecDepth 20000 in
theorem gX5_spill_X4_memberAt : GoodIn wsX5_spill (wsV RX5 107 RX4 yX4_memberAt wsX4_memberAt) := goodIn_app (goodIn_of _ (by decide +kernel)) ggX5_spill_X4_memberAt
set_option maxRecDepth 20000 in
theorem ggX5_spill_X0_append : GoodIn wsX5_spill wsX0_append := goodIn_ca (goodIn_r _ [27, 28, 29, 30, 46, 47, 48] (by decide +kernel) (by decide +kernel)) (goodIn_sub (fun _ h => List.mem_cons_of_mem _ (List.mem_append_right _ h)) (by decide +kernel))
set_option maxRecDepth 20000 in
theorem gX5_spill_X0_append : GoodIn wsX5_spill (wsV RX5 113 RX0 yX0_append wsX0_append) := goodIn_app (goodIn_of _ (by decide +kernel)) ggX5_spill_X0_append
set_option maxRecDepth 20000 in
theorem ggX5_spill_X4_setMember : GoodIn wsX5_spill wsX4_setMember := goodIn_ca (goodIn_r _ [34, 18, 19, 20, 21, 6, 22, 13, 8, 40, 41, 42, 43, 44, 45] (by decide +kernel) (by decide +kernel)) (goodIn_sub (fun _ h => List.mem_cons_of_mem _ (List.mem_append_right _ h)) (by decide +kernel))
set_option maxRecDepth 20000 in
theorem gX5_spill_X4_setMember : GoodIn wsX5_spill (wsV RX5 189 RX4 yX4_setMember wsX4_setMember) := goodIn_app (goodIn_of _ (by decide +kernel)) ggX5_spill_X4_setMember
theorem dX5_spill_0 : decode cX5_spill 0 = .ok (.iconst 0, 1) := by decide +kernel
theorem dX5_spill_1 : decode cX5_spill 1 = .ok (.istore_n 2, 1) := by decide +kernel
theorem dX5_spill_2 : decode cX5_spill 2 = .ok (.iload_n 2, 1) := by decide +kernel
theorem dX5_spill_3 : decode cX5_spill 3 = .ok (.aload_n 0, 1) := by decide +kernel
theorem dX5_spill_4 : decode cX5_spill 4 = .ok (.getfield 10, 3) := by decide +kernel
theorem dX5_spill_7 : decode cX5_spill 7 = .ok (.iload_n 1, 1) := by decide +kernel
theorem dX5_spill_8 : decode cX5_spill 8 = .ok (.invokevirtual 75, 3) := by decide +kernel
theorem dX5_spill_11 : decode cX5_spill 11 = .ok (.if_icmp .ge 47, 3) := by decide +kernel
theorem dX5_spill_14 : decode cX5_spill 14 = .ok (.aload_n 0, 1) := by decide +kernel
theorem dX5_spill_15 : decode cX5_spill 15 = .ok (.getfield 10, 3) := by decide +kernel
theorem dX5_spill_18 : decode cX5_spill 18 = .ok (.iload_n 1, 1) := by decide +kernel
theorem dX5_spill_19 : decode cX5_spill 19 = .ok (.iload_n 2, 1) := by decide +kernel
theorem dX5_spill_20 : decode cX5_spill 20 = .ok (.invokevirtual 107, 3) := by decide +kernel
theorem dX5_spill_23 : decode cX5_spill 23 = .ok (.istore_n 3, 1) := by decide +kernel
theorem dX5_spill_24 : decode cX5_spill 24 = .ok (.iload_n 3, 1) := by decide +kernel
theorem dX5_spill_25 : decode cX5_spill 25 = .ok (.bipush (-5), 2) := by decide +kernel
theorem dX5_spill_27 : decode cX5_spill 27 = .ok (.if_icmp .eq 25, 3) := by decide +kernel
theorem dX5_spill_30 : decode cX5_spill 30 = .ok (.aload_n 0, 1) := by decide +kernel
theorem dX5_spill_31 : decode cX5_spill 31 = .ok (.getfield 26, 3) := by decide +kernel
theorem dX5_spill_34 : decode cX5_spill 34 = .ok (.iload_n 3, 1) := by decide +kernel
theorem dX5_spill_35 : decode cX5_spill 35 = .ok (.invokevirtual 113, 3) := by decide +kernel
theorem dX5_spill_38 : decode cX5_spill 38 = .ok (.ifCond .eq 14, 3) := by decide +kernel
theorem dX5_spill_41 : decode cX5_spill 41 = .ok (.aload_n 0, 1) := by decide +kernel
theorem dX5_spill_42 : decode cX5_spill 42 = .ok (.getfield 10, 3) := by decide +kernel
theorem dX5_spill_45 : decode cX5_spill 45 = .ok (.iload_n 1, 1) := by decide +kernel
theorem dX5_spill_46 : decode cX5_spill 46 = .ok (.iload_n 2, 1) := by decide +kernel
theorem dX5_spill_47 : decode cX5_spill 47 = .ok (.bipush (-5), 2) := by decide +kernel
theorem dX5_spill_49 : decode cX5_spill 49 = .ok (.invokevirtual 189, 3) := by decide +kernel
theorem dX5_spill_52 : decode cX5_spill 52 = .ok (.iinc 2 1, 3) := by decide +kernel
theorem dX5_spill_55 : decode cX5_spill 55 = .ok (.goto (-53), 3) := by decide +kernel
theorem dX5_spill_58 : decode cX5_spill 58 = .ok (.iconst 0, 1) := by decide +kernel
theorem dX5_spill_59 : decode cX5_spill 59 = .ok (.ireturn, 1) := by decide +kernel
theorem dX5_alsoIs_0 : decode cX5_alsoIs 0 = .ok (.iload_n 0, 1) := by decide +kernel
theorem dX5_alsoIs_1 : decode cX5_alsoIs 1 = .ok (.tableswitch 170 1 13 #[67, 79, 102, 170, 170, 170, 170, 170, 116, 130, 170, 170, 156], 67) := by decide +kernel
theorem dX5_alsoIs_68 : decode cX5_alsoIs 68 = .ok (.iload_n 1, 1) := by decide +kernel
theorem dX5_alsoIs_69 : decode cX5_alsoIs 69 = .ok (.ifCond .ne 7, 3) := by decide +kernel
theorem dX5_alsoIs_72 : decode cX5_alsoIs 72 = .ok (.iconst 1, 1) := by decide +kernel
theorem dX5_alsoIs_73 : decode cX5_alsoIs 73 = .ok (.goto 99, 3) := by decide +kernel
theorem dX5_alsoIs_76 : decode cX5_alsoIs 76 = .ok (.iconst 0, 1) := by decide +kernel
theorem dX5_alsoIs_77 : decode cX5_alsoIs 77 = .ok (.goto 95, 3) := by decide +kernel
theorem dX5_alsoIs_80 : decode cX5_alsoIs 80 = .ok (.iload_n 1, 1) := by decide +kernel
theorem dX5_alsoIs_81 : decode cX5_alsoIs 81 = .ok (.ifCond .eq 14, 3) := by decide +kernel
theorem dX5_alsoIs_84 : decode cX5_alsoIs 84 = .ok (.iload_n 1, 1) := by decide +kernel
theorem dX5_alsoIs_85 : decode cX5_alsoIs 85 = .ok (.iconst 1, 1) := by decide +kernel
theorem dX5_alsoIs_86 : decode cX5_alsoIs 86 = .ok (.if_icmp .eq 9, 3) := by decide +kernel
theorem dX5_alsoIs_89 : decode cX5_alsoIs 89 = .ok (.iload_n 1, 1) := by decide +kernel
theorem dX5_alsoIs_90 : decode cX5_alsoIs 90 = .ok (.bipush 16, 2) := by decide +kernel
theorem dX5_alsoIs_92 : decode cX5_alsoIs 92 = .ok (.if_icmp .ne 7, 3) := by decide +kernel
theorem dX5_alsoIs_95 : decode cX5_alsoIs 95 = .ok (.iconst 1, 1) := by decide +kernel
theorem dX5_alsoIs_96 : decode cX5_alsoIs 96 = .ok (.goto 76, 3) := by decide +kernel
theorem dX5_alsoIs_99 : decode cX5_alsoIs 99 = .ok (.iconst 0, 1) := by decide +kernel
theorem dX5_alsoIs_100 : decode cX5_alsoIs 100 = .ok (.goto 72, 3) := by decide +kernel
theorem dX5_alsoIs_103 : decode cX5_alsoIs 103 = .ok (.iload_n 1, 1) := by decide +kernel
theorem dX5_alsoIs_104 : decode cX5_alsoIs 104 = .ok (.bipush 16, 2) := by decide +kernel
theorem dX5_alsoIs_106 : decode cX5_alsoIs 106 = .ok (.if_icmp .ne 7, 3) := by decide +kernel
theorem dX5_alsoIs_109 : decode cX5_alsoIs 109 = .ok (.iconst 1, 1) := by decide +kernel
theorem dX5_alsoIs_110 : decode cX5_alsoIs 110 = .ok (.goto 62, 3) := by decide +kernel
theorem dX5_alsoIs_113 : decode cX5_alsoIs 113 = .ok (.iconst 0, 1) := by decide +kernel
theorem dX5_alsoIs_114 : decode cX5_alsoIs 114 = .ok (.goto 58, 3) := by decide +kernel
theorem dX5_alsoIs_117 : decode cX5_alsoIs 117 = .ok (.iload_n 1, 1) := by decide +kernel
theorem dX5_alsoIs_118 : decode cX5_alsoIs 118 = .ok (.bipush 8, 2) := by decide +kernel
theorem dX5_alsoIs_120 : decode cX5_alsoIs 120 = .ok (.if_icmp .ne 7, 3) := by decide +kernel
theorem dX5_alsoIs_123 : decode cX5_alsoIs 123 = .ok (.iconst 1, 1) := by decide +kernel
theorem dX5_alsoIs_124 : decode cX5_alsoIs 124 = .ok (.goto 48, 3) := by decide +kernel
theorem dX5_alsoIs_127 : decode cX5_alsoIs 127 = .ok (.iconst 0, 1) := by decide +kernel
theorem dX5_alsoIs_128 : decode cX5_alsoIs 128 = .ok (.goto 44, 3) := by decide +kernel
theorem dX5_alsoIs_131 : decode cX5_alsoIs 131 = .ok (.iload_n 1, 1) := by decide +kernel
theorem dX5_alsoIs_132 : decode cX5_alsoIs 132 = .ok (.bipush 8, 2) := by decide +kernel
theorem dX5_alsoIs_134 : decode cX5_alsoIs 134 = .ok (.if_icmp .eq 15, 3) := by decide +kernel
theorem dX5_alsoIs_137 : decode cX5_alsoIs 137 = .ok (.iload_n 1, 1) := by decide +kernel
theorem dX5_alsoIs_138 : decode cX5_alsoIs 138 = .ok (.bipush 9, 2) := by decide +kernel
theorem dX5_alsoIs_140 : decode cX5_alsoIs 140 = .ok (.if_icmp .eq 9, 3) := by decide +kernel
theorem dX5_alsoIs_143 : decode cX5_alsoIs 143 = .ok (.iload_n 1, 1) := by decide +kernel
theorem dX5_alsoIs_144 : decode cX5_alsoIs 144 = .ok (.bipush 11, 2) := by decide +kernel
theorem dX5_alsoIs_146 : decode cX5_alsoIs 146 = .ok (.if_icmp .ne 7, 3) := by decide +kernel
theorem dX5_alsoIs_149 : decode cX5_alsoIs 149 = .ok (.iconst 1, 1) := by decide +kernel
theorem dX5_alsoIs_150 : decode cX5_alsoIs 150 = .ok (.goto 22, 3) := by decide +kernel
theorem dX5_alsoIs_153 : decode cX5_alsoIs 153 = .ok (.iconst 0, 1) := by decide +kernel
theorem dX5_alsoIs_154 : decode cX5_alsoIs 154 = .ok (.goto 18, 3) := by decide +kernel
theorem dX5_alsoIs_157 : decode cX5_alsoIs 157 = .ok (.iload_n 1, 1) := by decide +kernel
theorem dX5_alsoIs_158 : decode cX5_alsoIs 158 = .ok (.bipush 12, 2) := by decide +kernel
theorem dX5_alsoIs_160 : decode cX5_alsoIs 160 = .ok (.if_icmp .ne 7, 3) := by decide +kernel
theorem dX5_alsoIs_163 : decode cX5_alsoIs 163 = .ok (.iconst 1, 1) := by decide +kernel
theorem dX5_alsoIs_164 : decode cX5_alsoIs 164 = .ok (.goto 8, 3) := by decide +kernel
theorem dX5_alsoIs_167 : decode cX5_alsoIs 167 = .ok (.iconst 0, 1) := by decide +kernel
theorem dX5_alsoIs_168 : decode cX5_alsoIs 168 = .ok (.goto 4, 3) := by decide +kernel
theorem dX5_alsoIs_171 : decode cX5_alsoIs 171 = .ok (.iconst 0, 1) := by decide +kernel
theorem dX5_alsoIs_172 : decode cX5_alsoIs 172 = .ok (.ireturn, 1) := by decide +kernel
theorem dX5_memberKind_0 : decode cX5_memberKind 0 = .ok (.iload_n 0, 1) := by decide +kernel
theorem dX5_memberKind_1 : decode cX5_memberKind 1 = .ok (.tableswitch 92 7 15 #[51, 55, 59, 63, 67, 72, 77, 82, 87], 51) := by decide +kernel
theorem dX5_memberKind_52 : decode cX5_memberKind 52 = .ok (.iconst 5, 1) := by decide +kernel
theorem dX5_memberKind_53 : decode cX5_memberKind 53 = .ok (.goto 42, 3) := by decide +kernel
theorem dX5_memberKind_56 : decode cX5_memberKind 56 = .ok (.iconst 0, 1) := by decide +kernel
theorem dX5_memberKind_57 : decode cX5_memberKind 57 = .ok (.goto 38, 3) := by decide +kernel
theorem dX5_memberKind_60 : decode cX5_memberKind 60 = .ok (.iconst 1, 1) := by decide +kernel
theorem dX5_memberKind_61 : decode cX5_memberKind 61 = .ok (.goto 34, 3) := by decide +kernel
theorem dX5_memberKind_64 : decode cX5_memberKind 64 = .ok (.iconst 2, 1) := by decide +kernel
theorem dX5_memberKind_65 : decode cX5_memberKind 65 = .ok (.goto 30, 3) := by decide +kernel
theorem dX5_memberKind_68 : decode cX5_memberKind 68 = .ok (.bipush 16, 2) := by decide +kernel
theorem dX5_memberKind_70 : decode cX5_memberKind 70 = .ok (.goto 25, 3) := by decide +kernel
theorem dX5_memberKind_73 : decode cX5_memberKind 73 = .ok (.bipush 8, 2) := by decide +kernel
theorem dX5_memberKind_75 : decode cX5_memberKind 75 = .ok (.goto 20, 3) := by decide +kernel
theorem dX5_memberKind_78 : decode cX5_memberKind 78 = .ok (.bipush 9, 2) := by decide +kernel
theorem dX5_memberKind_80 : decode cX5_memberKind 80 = .ok (.goto 15, 3) := by decide +kernel
theorem dX5_memberKind_83 : decode cX5_memberKind 83 = .ok (.bipush 11, 2) := by decide +kernel
theorem dX5_memberKind_85 : decode cX5_memberKind 85 = .ok (.goto 10, 3) := by decide +kernel
theorem dX5_memberKind_88 : decode cX5_memberKind 88 = .ok (.bipush 12, 2) := by decide +kernel
theorem dX5_memberKind_90 : decode cX5_memberKind 90 = .ok (.goto 5, 3) := by decide +kernel
theorem dX5_memberKind_93 : decode cX5_memberKind 93 = .ok (.bipush (-5), 2) := by decide +kernel
theorem dX5_memberKind_95 : decode cX5_memberKind 95 = .ok (.ireturn, 1) := by decide +kernel
theorem dX5_kindForWork_0 : decode cX5_kindForWork 0 = .ok (.iload_n 0, 1) := by decide +kernel
theorem dX5_kindForWork_1 : decode cX5_kindForWork 1 = .ok (.tableswitch 110 0 11 #[63, 67, 72, 76, 81, 85, 85, 90, 95, 100, 105, 85], 63) := by decide +kernel
theorem dX5_kindForWork_64 : decode cX5_kindForWork 64 = .ok (.iconst 0, 1) := by decide +kernel
theorem dX5_kindForWork_65 : decode cX5_kindForWork 65 = .ok (.goto 48, 3) := by decide +kernel
theorem dX5_kindForWork_68 : decode cX5_kindForWork 68 = .ok (.bipush 16, 2) := by decide +kernel
theorem dX5_kindForWork_70 : decode cX5_kindForWork 70 = .ok (.goto 43, 3) := by decide +kernel
theorem dX5_kindForWork_73 : decode cX5_kindForWork 73 = .ok (.iconst 5, 1) := by decide +kernel
theorem dX5_kindForWork_74 : decode cX5_kindForWork 74 = .ok (.goto 39, 3) := by decide +kernel
theorem dX5_kindForWork_77 : decode cX5_kindForWork 77 = .ok (.bipush 6, 2) := by decide +kernel
theorem dX5_kindForWork_79 : decode cX5_kindForWork 79 = .ok (.goto 34, 3) := by decide +kernel
theorem dX5_kindForWork_82 : decode cX5_kindForWork 82 = .ok (.iconst 4, 1) := by decide +kernel
theorem dX5_kindForWork_83 : decode cX5_kindForWork 83 = .ok (.goto 30, 3) := by decide +kernel
theorem dX5_kindForWork_86 : decode cX5_kindForWork 86 = .ok (.bipush 8, 2) := by decide +kernel
theorem dX5_kindForWork_88 : decode cX5_kindForWork 88 = .ok (.goto 25, 3) := by decide +kernel
theorem dX5_kindForWork_91 : decode cX5_kindForWork 91 = .ok (.bipush 12, 2) := by decide +kernel
theorem dX5_kindForWork_93 : decode cX5_kindForWork 93 = .ok (.goto 20, 3) := by decide +kernel
theorem dX5_kindForWork_96 : decode cX5_kindForWork 96 = .ok (.bipush 7, 2) := by decide +kernel
theorem dX5_kindForWork_98 : decode cX5_kindForWork 98 = .ok (.goto 15, 3) := by decide +kernel
theorem dX5_kindForWork_101 : decode cX5_kindForWork 101 = .ok (.bipush 15, 2) := by decide +kernel
theorem dX5_kindForWork_103 : decode cX5_kindForWork 103 = .ok (.goto 10, 3) := by decide +kernel
theorem dX5_kindForWork_106 : decode cX5_kindForWork 106 = .ok (.bipush 11, 2) := by decide +kernel
theorem dX5_kindForWork_108 : decode cX5_kindForWork 108 = .ok (.goto 5, 3) := by decide +kernel
theorem dX5_kindForWork_111 : decode cX5_kindForWork 111 = .ok (.bipush 17, 2) := by decide +kernel
theorem dX5_kindForWork_113 : decode cX5_kindForWork 113 = .ok (.ireturn, 1) := by decide +kernel
