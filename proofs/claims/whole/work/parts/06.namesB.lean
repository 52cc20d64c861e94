set_option maxRecDepth 20000 in
theorem ggX5_init_X3_init : GoodIn wsX5_init wsX3_init := goodIn_ca (goodIn_ca (goodIn_r _ [22, 23, 2, 3, 24, 25, 26, 27, 28, 29, 30, 31, 32, 33, 34, 35, 36, 37, 6, 38, 39, 40, 41, 42, 63, 64, 78] (by decide +kernel) (by decide +kernel)) (goodIn_sub (fun _ h => List.mem_cons_of_mem _ (List.mem_append_left _ (List.mem_append_right _ h))) (by decide +kernel))) (goodIn_sub (fun _ h => List.mem_cons_of_mem _ (List.mem_append_right _ h)) (by decide +kernel))
set_option maxRecDepth 20000 in
theorem gX5_init_X3_init : GoodIn wsX5_init (wsX3_init) := ggX5_init_X3_init
set_option maxRecDepth 20000 in
theorem ggX5_init_X4_init : GoodIn wsX5_init wsX4_init := goodIn_r _ [44, 45, 2, 3, 24, 46, 47, 48, 49, 50, 69, 70, 71, 72, 73] (by decide +kernel) (by decide +kernel)
set_option maxRecDepth 20000 in
theorem gX5_init_X4_init_n18 : GoodIn wsX5_init (wsX4_init) := ggX5_init_X4_init
set_option maxRecDepth 20000 in
theorem ggX5_init_X0_init : GoodIn wsX5_init wsX0_init := goodIn_r _ [52, 53, 2, 3, 54, 27, 28, 55, 56, 30, 31, 32, 33, 34, 78, 74, 75] (by decide +kernel) (by decide +kernel)
set_option maxRecDepth 20000 in
theorem gX5_init_X0_init_n25 : GoodIn wsX5_init (wsX0_init) := ggX5_init_X0_init
set_option maxRecDepth 20000 in
theorem ggX5_init_X1_init : GoodIn wsX5_init wsX1_init := goodIn_r _ [58, 59, 2, 3, 60, 27, 28, 61, 62, 30, 31, 32, 33, 34, 78, 76, 77] (by decide +kernel) (by decide +kernel)
set_option maxRecDepth 20000 in
theorem gX5_init_X1_init_n32 : GoodIn wsX5_init (wsX1_init) := ggX5_init_X1_init
theorem dX5_init_0 : decode cX5_init 0 = .ok (.aload_n 0, 1) := by decide +kernel
theorem dX5_init_1 : decode cX5_init 1 = .ok (.invokespecial 1, 3) := by decide +kernel
theorem dX5_init_4 : decode cX5_init 4 = .ok (.aload_n 0, 1) := by decide +kernel
theorem dX5_init_5 : decode cX5_init 5 = .ok (.new 7, 3) := by decide +kernel
theorem dX5_init_8 : decode cX5_init 8 = .ok (.dup, 1) := by decide +kernel
theorem dX5_init_9 : decode cX5_init 9 = .ok (.invokespecial 9, 3) := by decide +kernel
theorem dX5_init_12 : decode cX5_init 12 = .ok (.putfield 10, 3) := by decide +kernel
theorem dX5_init_15 : decode cX5_init 15 = .ok (.aload_n 0, 1) := by decide +kernel
theorem dX5_init_16 : decode cX5_init 16 = .ok (.new 16, 3) := by decide +kernel
theorem dX5_init_19 : decode cX5_init 19 = .ok (.dup, 1) := by decide +kernel
theorem dX5_init_20 : decode cX5_init 20 = .ok (.invokespecial 18, 3) := by decide +kernel
theorem dX5_init_23 : decode cX5_init 23 = .ok (.putfield 19, 3) := by decide +kernel
theorem dX5_init_26 : decode cX5_init 26 = .ok (.aload_n 0, 1) := by decide +kernel
theorem dX5_init_27 : decode cX5_init 27 = .ok (.new 23, 3) := by decide +kernel
theorem dX5_init_30 : decode cX5_init 30 = .ok (.dup, 1) := by decide +kernel
theorem dX5_init_31 : decode cX5_init 31 = .ok (.invokespecial 25, 3) := by decide +kernel
theorem dX5_init_34 : decode cX5_init 34 = .ok (.putfield 26, 3) := by decide +kernel
theorem dX5_init_37 : decode cX5_init 37 = .ok (.aload_n 0, 1) := by decide +kernel
theorem dX5_init_38 : decode cX5_init 38 = .ok (.new 30, 3) := by decide +kernel
theorem dX5_init_41 : decode cX5_init 41 = .ok (.dup, 1) := by decide +kernel
theorem dX5_init_42 : decode cX5_init 42 = .ok (.invokespecial 32, 3) := by decide +kernel
theorem dX5_init_45 : decode cX5_init 45 = .ok (.putfield 33, 3) := by decide +kernel
theorem dX5_init_48 : decode cX5_init 48 = .ok (.return_, 1) := by decide +kernel
set_option maxRecDepth 20000 in
theorem ggX5_set_X4_numberOf : GoodIn wsX5_set wsX4_numberOf := goodIn_ca (goodIn_ca (goodIn_r _ [6, 7, 8, 9, 10, 5, 11, 12, 13, 45, 46, 47, 48, 49] (by decide +kernel) (by decide +kernel)) (goodIn_sub (fun _ h => List.mem_cons_of_mem _ (List.mem_append_left _ (List.mem_append_left _ (List.mem_append_right _ h)))) (by decide +kernel))) (goodIn_sub (fun _ h => List.mem_cons_of_mem _ (List.mem_append_left _ (List.mem_append_right _ h))) (by decide +kernel))
set_option maxRecDepth 20000 in
theorem gX5_set_X4_numberOf : GoodIn wsX5_set (wsV RX5 37 RX4 yX4_numberOf wsX4_numberOf) := goodIn_app (goodIn_of _ (by decide +kernel)) ggX5_set_X4_numberOf
set_option maxRecDepth 20000 in
theorem ggX5_set_X5_requireBetween : GoodIn wsX5_set wsX5_requireBetween := goodIn_ca (goodIn_r _ [17, 18, 19] (by decide +kernel) (by decide +kernel)) (goodIn_sub (fun _ h => List.mem_cons_of_mem _ (List.mem_append_right _ h)) (by decide +kernel))
set_option maxRecDepth 20000 in
theorem gX5_set_X5_requireBetween : GoodIn wsX5_set (va_wsS RX5 41 yX5_requireBetween wsX5_requireBetween) := goodIn_app (goodIn_of _ (by decide +kernel)) ggX5_set_X5_requireBetween
set_option maxRecDepth 20000 in
theorem ggX5_set_X4_change : GoodIn wsX5_set wsX4_change := goodIn_ca (goodIn_ca (goodIn_r _ [23, 24, 25, 26, 27, 28, 29, 30, 31, 32, 3, 4, 5, 6, 7, 8, 9, 10, 11, 12, 13, 33, 34, 35, 36, 37, 38, 39, 40, 45, 46, 47, 48, 49] (by decide +kernel) (by decide +kernel)) (goodIn_sub (fun _ h => List.mem_cons_of_mem _ (List.mem_append_left _ (List.mem_append_left _ (List.mem_append_right _ h)))) (by decide +kernel))) (goodIn_sub (fun _ h => List.mem_cons_of_mem _ (List.mem_append_left _ (List.mem_append_right _ h))) (by decide +kernel))
set_option maxRecDepth 20000 in
theorem gX5_set_X4_change : GoodIn wsX5_set (wsV RX5 45 RX4 yX4_change wsX4_change) := goodIn_app (goodIn_of _ (by decide +kernel)) ggX5_set_X4_change
theorem dX5_set_0 : decode cX5_set 0 = .ok (.aload_n 0, 1) := by decide +kernel
theorem dX5_set_1 : decode cX5_set 1 = .ok (.getfield 19, 3) := by decide +kernel
theorem dX5_set_4 : decode cX5_set 4 = .ok (.iload_n 1, 1) := by decide +kernel
theorem dX5_set_5 : decode cX5_set 5 = .ok (.invokevirtual 37, 3) := by decide +kernel
theorem dX5_set_8 : decode cX5_set 8 = .ok (.istore_n 3, 1) := by decide +kernel
theorem dX5_set_9 : decode cX5_set 9 = .ok (.iconst 0, 1) := by decide +kernel
theorem dX5_set_10 : decode cX5_set 10 = .ok (.iload_n 2, 1) := by decide +kernel
theorem dX5_set_11 : decode cX5_set 11 = .ok (.sipush 255, 3) := by decide +kernel
theorem dX5_set_14 : decode cX5_set 14 = .ok (.invokestatic 41, 3) := by decide +kernel
theorem dX5_set_17 : decode cX5_set 17 = .ok (.aload_n 0, 1) := by decide +kernel
theorem dX5_set_18 : decode cX5_set 18 = .ok (.getfield 19, 3) := by decide +kernel
theorem dX5_set_21 : decode cX5_set 21 = .ok (.iload_n 1, 1) := by decide +kernel
theorem dX5_set_22 : decode cX5_set 22 = .ok (.iload_n 2, 1) := by decide +kernel
theorem dX5_set_23 : decode cX5_set 23 = .ok (.invokevirtual 45, 3) := by decide +kernel
theorem dX5_set_26 : decode cX5_set 26 = .ok (.pop, 1) := by decide +kernel
theorem dX5_set_27 : decode cX5_set 27 = .ok (.iload_n 3, 1) := by decide +kernel
theorem dX5_set_28 : decode cX5_set 28 = .ok (.ireturn, 1) := by decide +kernel
set_option maxRecDepth 20000 in
theorem ggX5_sum_X4_numberOf : GoodIn wsX5_sum wsX4_numberOf := goodIn_ca (goodIn_ca (goodIn_r _ [6, 7, 8, 9, 10, 5, 11, 12, 13, 39, 40, 41, 42, 43] (by decide +kernel) (by decide +kernel)) (goodIn_sub (fun _ h => List.mem_cons_of_mem _ (List.mem_append_left _ (List.mem_append_right _ h))) (by decide +kernel))) (goodIn_sub (fun _ h => List.mem_cons_of_mem _ (List.mem_append_right _ h)) (by decide +kernel))
set_option maxRecDepth 20000 in
theorem gX5_sum_X4_numberOf : GoodIn wsX5_sum (wsV RX5 37 RX4 yX4_numberOf wsX4_numberOf) := goodIn_app (goodIn_of _ (by decide +kernel)) ggX5_sum_X4_numberOf
set_option maxRecDepth 20000 in
theorem ggX5_sum_X4_change : GoodIn wsX5_sum wsX4_change := goodIn_ca (goodIn_ca (goodIn_r _ [17, 18, 19, 20, 21, 22, 23, 24, 25, 26, 3, 4, 5, 6, 7, 8, 9, 10, 11, 12, 13, 27, 28, 29, 30, 31, 32, 33, 34, 39, 40, 41, 42, 43] (by decide +kernel) (by decide +kernel)) (goodIn_sub (fun _ h => List.mem_cons_of_mem _ (List.mem_append_left _ (List.mem_append_right _ h))) (by decide +kernel))) (goodIn_sub (fun _ h => List.mem_cons_of_mem _ (List.mem_append_right _ h)) (by decide +kernel))
set_option maxRecDepth 20000 in
theorem gX5_sum_X4_change : GoodIn wsX5_sum (wsV RX5 45 RX4 yX4_change wsX4_change) := goodIn_app (goodIn_of _ (by decide +kernel)) ggX5_sum_X4_change
theorem dX5_sum_0 : decode cX5_sum 0 = .ok (.aload_n 0, 1) := by decide +kernel
theorem dX5_sum_1 : decode cX5_sum 1 = .ok (.getfield 19, 3) := by decide +kernel
theorem dX5_sum_4 : decode cX5_sum 4 = .ok (.iload_n 1, 1) := by decide +kernel
theorem dX5_sum_5 : decode cX5_sum 5 = .ok (.aload_n 0, 1) := by decide +kernel
theorem dX5_sum_6 : decode cX5_sum 6 = .ok (.getfield 19, 3) := by decide +kernel
theorem dX5_sum_9 : decode cX5_sum 9 = .ok (.iload_n 2, 1) := by decide +kernel
theorem dX5_sum_10 : decode cX5_sum 10 = .ok (.invokevirtual 37, 3) := by decide +kernel
theorem dX5_sum_13 : decode cX5_sum 13 = .ok (.aload_n 0, 1) := by decide +kernel
theorem dX5_sum_14 : decode cX5_sum 14 = .ok (.getfield 19, 3) := by decide +kernel
theorem dX5_sum_17 : decode cX5_sum 17 = .ok (.iload_n 3, 1) := by decide +kernel
theorem dX5_sum_18 : decode cX5_sum 18 = .ok (.invokevirtual 37, 3) := by decide +kernel
theorem dX5_sum_21 : decode cX5_sum 21 = .ok (.ixor, 1) := by decide +kernel
theorem dX5_sum_22 : decode cX5_sum 22 = .ok (.invokevirtual 45, 3) := by decide +kernel
theorem dX5_sum_25 : decode cX5_sum 25 = .ok (.ireturn, 1) := by decide +kernel
set_option maxRecDepth 20000 in
theorem ggX5_product_X4_numberOf : GoodIn wsX5_product wsX4_numberOf := goodIn_ca (goodIn_ca (goodIn_r _ [7, 8, 9, 10, 11, 6, 12, 13, 14, 50, 51, 52, 53, 54] (by decide +kernel) (by decide +kernel)) (goodIn_sub (fun _ h => List.mem_cons_of_mem _ (List.mem_append_left _ (List.mem_append_left _ (List.mem_append_right _ h)))) (by decide +kernel))) (goodIn_sub (fun _ h => List.mem_cons_of_mem _ (List.mem_append_left _ (List.mem_append_right _ h))) (by decide +kernel))
set_option maxRecDepth 20000 in
theorem gX5_product_X4_numberOf : GoodIn wsX5_product (wsV RX5 37 RX4 yX4_numberOf wsX4_numberOf) := goodIn_app (goodIn_of _ (by decide +kernel)) ggX5_product_X4_numberOf
set_option maxRecDepth 20000 in
theorem ggX5_product_X3_productOf : GoodIn wsX5_product wsX3_productOf := goodIn_ca (goodIn_ca (goodIn_r _ [19, 20, 21, 22, 18, 23, 24, 55, 56] (by decide +kernel) (by decide +kernel)) (goodIn_sub (fun _ h => List.mem_cons_of_mem _ (List.mem_append_right _ h)) (by decide +kernel))) (goodIn_sub (fun _ h => List.mem_cons_of_mem _ (List.mem_append_left _ (List.mem_append_left _ (List.mem_append_right _ h)))) (by decide +kernel))
set_option maxRecDepth 20000 in
theorem gX5_product_X3_productOf : GoodIn wsX5_product (wsV RX5 49 RX3 yX3_productOf wsX3_productOf) := goodIn_app (goodIn_of _ (by decide +kernel)) ggX5_product_X3_productOf
set_option maxRecDepth 20000 in
theorem ggX5_product_X4_change : GoodIn wsX5_product wsX4_change := goodIn_ca (goodIn_ca (goodIn_r _ [28, 29, 30, 31, 32, 33, 34, 35, 36, 37, 4, 5, 6, 7, 8, 9, 10, 11, 12, 13, 14, 38, 39, 40, 41, 42, 43, 44, 45, 50, 51, 52, 53, 54] (by decide +kernel) (by decide +kernel)) (goodIn_sub (fun _ h => List.mem_cons_of_mem _ (List.mem_append_left _ (List.mem_append_left _ (List.mem_append_right _ h)))) (by decide +kernel))) (goodIn_sub (fun _ h => List.mem_cons_of_mem _ (List.mem_append_left _ (List.mem_append_right _ h))) (by decide +kernel))
set_option maxRecDepth 20000 in
theorem gX5_product_X4_change : GoodIn wsX5_product (wsV RX5 45 RX4 yX4_change wsX4_change) := goodIn_app (goodIn_of _ (by decide +kernel)) ggX5_product_X4_change
theorem dX5_product_0 : decode cX5_product 0 = .ok (.aload_n 0, 1) := by decide +kernel
theorem dX5_product_1 : decode cX5_product 1 = .ok (.getfield 19, 3) := by decide +kernel
theorem dX5_product_4 : decode cX5_product 4 = .ok (.iload_n 1, 1) := by decide +kernel
theorem dX5_product_5 : decode cX5_product 5 = .ok (.aload_n 0, 1) := by decide +kernel
theorem dX5_product_6 : decode cX5_product 6 = .ok (.getfield 10, 3) := by decide +kernel
theorem dX5_product_9 : decode cX5_product 9 = .ok (.aload_n 0, 1) := by decide +kernel
theorem dX5_product_10 : decode cX5_product 10 = .ok (.getfield 19, 3) := by decide +kernel
theorem dX5_product_13 : decode cX5_product 13 = .ok (.iload_n 2, 1) := by decide +kernel
theorem dX5_product_14 : decode cX5_product 14 = .ok (.invokevirtual 37, 3) := by decide +kernel
theorem dX5_product_17 : decode cX5_product 17 = .ok (.aload_n 0, 1) := by decide +kernel
theorem dX5_product_18 : decode cX5_product 18 = .ok (.getfield 19, 3) := by decide +kernel
theorem dX5_product_21 : decode cX5_product 21 = .ok (.iload_n 3, 1) := by decide +kernel
theorem dX5_product_22 : decode cX5_product 22 = .ok (.invokevirtual 37, 3) := by decide +kernel
theorem dX5_product_25 : decode cX5_product 25 = .ok (.invokevirtual 49, 3) := by decide +kernel
theorem dX5_product_28 : decode cX5_product 28 = .ok (.invokevirtual 45, 3) := by decide +kernel
theorem dX5_product_31 : decode cX5_product 31 = .ok (.ireturn, 1) := by decide +kernel
set_option maxRecDepth 20000 in
theorem ggX5_quotient_X4_requireRegister : GoodIn wsX5_quotient wsX4_requireRegister := goodIn_ca (goodIn_r _ [9, 10, 11, 12, 65, 66, 67, 68, 69] (by decide +kernel) (by decide +kernel)) (goodIn_sub (fun _ h => List.mem_cons_of_mem _ (List.mem_append_left _ (List.mem_append_left _ (List.mem_append_right _ h)))) (by decide +kernel))
set_option maxRecDepth 20000 in
theorem gX5_quotient_X4_requireRegister : GoodIn wsX5_quotient (wsV RX5 52 RX4 yX4_requireRegister wsX4_requireRegister) := goodIn_app (goodIn_of _ (by decide +kernel)) ggX5_quotient_X4_requireRegister
set_option maxRecDepth 20000 in
theorem ggX5_quotient_X4_numberOf : GoodIn wsX5_quotient wsX4_numberOf := goodIn_ca (goodIn_ca (goodIn_r _ [16, 12, 17, 6, 7, 8, 9, 10, 11, 65, 66, 67, 68, 69] (by decide +kernel) (by decide +kernel)) (goodIn_sub (fun _ h => List.mem_cons_of_mem _ (List.mem_append_left _ (List.mem_append_right _ h))) (by decide +kernel))) (goodIn_sub (fun _ h => List.mem_cons_of_mem _ (List.mem_append_left _ (List.mem_append_left _ (List.mem_append_right _ h)))) (by decide +kernel))
set_option maxRecDepth 20000 in
theorem gX5_quotient_X4_numberOf : GoodIn wsX5_quotient (wsV RX5 37 RX4 yX4_numberOf wsX4_numberOf) := goodIn_app (goodIn_of _ (by decide +kernel)) ggX5_quotient_X4_numberOf
set_option maxRecDepth 20000 in
theorem ggX5_quotient_X3_quotientOf : GoodIn wsX5_quotient wsX3_quotientOf := goodIn_ca (goodIn_ca (goodIn_r _ [22, 23, 24, 25, 21, 26, 27, 28, 29, 30, 31, 32, 33, 34, 35, 36, 37, 38, 39, 70, 71] (by decide +kernel) (by decide +kernel)) (goodIn_sub (fun _ h => List.mem_cons_of_mem _ (List.mem_append_right _ h)) (by decide +kernel))) (goodIn_sub (fun _ h => List.mem_cons_of_mem _ (List.mem_append_left _ (List.mem_append_right _ h))) (by decide +kernel))
set_option maxRecDepth 20000 in
theorem gX5_quotient_X3_quotientOf : GoodIn wsX5_quotient (wsV RX5 63 RX3 yX3_quotientOf wsX3_quotientOf) := goodIn_app (goodIn_of _ (by decide +kernel)) ggX5_quotient_X3_quotientOf
set_option maxRecDepth 20000 in
theorem ggX5_quotient_X4_change : GoodIn wsX5_quotient wsX4_change := goodIn_ca (goodIn_ca (goodIn_r _ [43, 44, 45, 46, 47, 48, 49, 50, 51, 52, 14, 15, 8, 16, 12, 17, 6, 7, 9, 10, 11, 53, 54, 55, 56, 57, 58, 59, 60, 65, 66, 67, 68, 69] (by decide +kernel) (by decide +kernel)) (goodIn_sub (fun _ h => List.mem_cons_of_mem _ (List.mem_append_left _ (List.mem_append_right _ h))) (by decide +kernel))) (goodIn_sub (fun _ h => List.mem_cons_of_mem _ (List.mem_append_left _ (List.mem_append_left _ (List.mem_append_right _ h)))) (by decide +kernel))
set_option maxRecDepth 20000 in
theorem gX5_quotient_X4_change : GoodIn wsX5_quotient (wsV RX5 45 RX4 yX4_change wsX4_change) := goodIn_app (goodIn_of _ (by decide +kernel)) ggX5_quotient_X4_change
theorem dX5_quotient_0 : decode cX5_quotient 0 = .ok (.aload_n 0, 1) := by decide +kernel
theorem dX5_quotient_1 : decode cX5_quotient 1 = .ok (.getfield 19, 3) := by decide +kernel
theorem dX5_quotient_4 : decode cX5_quotient 4 = .ok (.iload_n 1, 1) := by decide +kernel
theorem dX5_quotient_5 : decode cX5_quotient 5 = .ok (.invokevirtual 52, 3) := by decide +kernel
theorem dX5_quotient_8 : decode cX5_quotient 8 = .ok (.aload_n 0, 1) := by decide +kernel
theorem dX5_quotient_9 : decode cX5_quotient 9 = .ok (.getfield 19, 3) := by decide +kernel
theorem dX5_quotient_12 : decode cX5_quotient 12 = .ok (.iload_n 2, 1) := by decide +kernel
theorem dX5_quotient_13 : decode cX5_quotient 13 = .ok (.invokevirtual 37, 3) := by decide +kernel
theorem dX5_quotient_16 : decode cX5_quotient 16 = .ok (.istore 4, 2) := by decide +kernel
theorem dX5_quotient_18 : decode cX5_quotient 18 = .ok (.aload_n 0, 1) := by decide +kernel
theorem dX5_quotient_19 : decode cX5_quotient 19 = .ok (.getfield 19, 3) := by decide +kernel
theorem dX5_quotient_22 : decode cX5_quotient 22 = .ok (.iload_n 3, 1) := by decide +kernel
theorem dX5_quotient_23 : decode cX5_quotient 23 = .ok (.invokevirtual 37, 3) := by decide +kernel
theorem dX5_quotient_26 : decode cX5_quotient 26 = .ok (.istore 5, 2) := by decide +kernel
theorem dX5_quotient_28 : decode cX5_quotient 28 = .ok (.iload 5, 2) := by decide +kernel
theorem dX5_quotient_30 : decode cX5_quotient 30 = .ok (.ifCond .ne 13, 3) := by decide +kernel
theorem dX5_quotient_33 : decode cX5_quotient 33 = .ok (.new 56, 3) := by decide +kernel
theorem dX5_quotient_36 : decode cX5_quotient 36 = .ok (.dup, 1) := by decide +kernel
theorem dX5_quotient_37 : decode cX5_quotient 37 = .ok (.ldc 58, 2) := by decide +kernel
theorem dX5_quotient_39 : decode cX5_quotient 39 = .ok (.invokespecial 60, 3) := by decide +kernel
theorem dX5_quotient_42 : decode cX5_quotient 42 = .ok (.athrow, 1) := by decide +kernel
theorem dX5_quotient_43 : decode cX5_quotient 43 = .ok (.aload_n 0, 1) := by decide +kernel
theorem dX5_quotient_44 : decode cX5_quotient 44 = .ok (.getfield 19, 3) := by decide +kernel
theorem dX5_quotient_47 : decode cX5_quotient 47 = .ok (.iload_n 1, 1) := by decide +kernel
theorem dX5_quotient_48 : decode cX5_quotient 48 = .ok (.aload_n 0, 1) := by decide +kernel
theorem dX5_quotient_49 : decode cX5_quotient 49 = .ok (.getfield 10, 3) := by decide +kernel
theorem dX5_quotient_52 : decode cX5_quotient 52 = .ok (.iload 4, 2) := by decide +kernel
theorem dX5_quotient_54 : decode cX5_quotient 54 = .ok (.iload 5, 2) := by decide +kernel
theorem dX5_quotient_56 : decode cX5_quotient 56 = .ok (.invokevirtual 63, 3) := by decide +kernel
theorem dX5_quotient_59 : decode cX5_quotient 59 = .ok (.invokevirtual 45, 3) := by decide +kernel
theorem dX5_quotient_62 : decode cX5_quotient 62 = .ok (.ireturn, 1) := by decide +kernel
set_option maxRecDepth 20000 in
theorem ggX5_power_X4_requireRegister : GoodIn wsX5_power wsX4_requireRegister := goodIn_ca (goodIn_r _ [9, 10, 11, 12, 61, 62, 63, 64, 65] (by decide +kernel) (by decide +kernel)) (goodIn_sub (fun _ h => List.mem_cons_of_mem _ (List.mem_append_left _ (List.mem_append_left _ (List.mem_append_right _ h)))) (by decide +kernel))
set_option maxRecDepth 20000 in
theorem gX5_power_X4_requireRegister : GoodIn wsX5_power (wsV RX5 52 RX4 yX4_requireRegister wsX4_requireRegister) := goodIn_app (goodIn_of _ (by decide +kernel)) ggX5_power_X4_requireRegister
set_option maxRecDepth 20000 in
theorem ggX5_power_X4_numberOf : GoodIn wsX5_power wsX4_numberOf := goodIn_ca (goodIn_ca (goodIn_r _ [16, 12, 17, 6, 7, 8, 9, 10, 11, 61, 62, 63, 64, 65] (by decide +kernel) (by decide +kernel)) (goodIn_sub (fun _ h => List.mem_cons_of_mem _ (List.mem_append_left _ (List.mem_append_right _ h))) (by decide +kernel))) (goodIn_sub (fun _ h => List.mem_cons_of_mem _ (List.mem_append_left _ (List.mem_append_left _ (List.mem_append_right _ h)))) (by decide +kernel))
set_option maxRecDepth 20000 in
theorem gX5_power_X4_numberOf : GoodIn wsX5_power (wsV RX5 37 RX4 yX4_numberOf wsX4_numberOf) := goodIn_app (goodIn_of _ (by decide +kernel)) ggX5_power_X4_numberOf
set_option maxRecDepth 20000 in
theorem ggX5_power_X3_powerOf : GoodIn wsX5_power wsX3_powerOf := goodIn_ca (goodIn_ca (goodIn_r _ [22, 23, 24, 25, 21, 26, 27, 28, 29, 30, 31, 32, 33, 34, 35, 66, 67] (by decide +kernel) (by decide +kernel)) (goodIn_sub (fun _ h => List.mem_cons_of_mem _ (List.mem_append_right _ h)) (by decide +kernel))) (goodIn_sub (fun _ h => List.mem_cons_of_mem _ (List.mem_append_left _ (List.mem_append_right _ h))) (by decide +kernel))
set_option maxRecDepth 20000 in
theorem gX5_power_X3_powerOf : GoodIn wsX5_power (wsV RX5 71 RX3 yX3_powerOf wsX3_powerOf) := goodIn_app (goodIn_of _ (by decide +kernel)) ggX5_power_X3_powerOf
set_option maxRecDepth 20000 in
theorem ggX5_power_X4_change : GoodIn wsX5_power wsX4_change := goodIn_ca (goodIn_ca (goodIn_r _ [39, 40, 41, 42, 43, 44, 45, 46, 47, 48, 14, 15, 8, 16, 12, 17, 6, 7, 9, 10, 11, 49, 50, 51, 52, 53, 54, 55, 56, 61, 62, 63, 64, 65] (by decide +kernel) (by decide +kernel)) (goodIn_sub (fun _ h => List.mem_cons_of_mem _ (List.mem_append_left _ (List.mem_append_right _ h))) (by decide +kernel))) (goodIn_sub (fun _ h => List.mem_cons_of_mem _ (List.mem_append_left _ (List.mem_append_left _ (List.mem_append_right _ h)))) (by decide +kernel))
set_option maxRecDepth 20000 in
theorem gX5_power_X4_change : GoodIn wsX5_power (wsV RX5 45 RX4 yX4_change wsX4_change) := goodIn_app (goodIn_of _ (by decide +kernel)) ggX5_power_X4_change
theorem dX5_power_0 : decode cX5_power 0 = .ok (.aload_n 0, 1) := by decide +kernel
theorem dX5_power_1 : decode cX5_power 1 = .ok (.getfield 19, 3) := by decide +kernel
theorem dX5_power_4 : decode cX5_power 4 = .ok (.iload_n 1, 1) := by decide +kernel
theorem dX5_power_5 : decode cX5_power 5 = .ok (.invokevirtual 52, 3) := by decide +kernel
theorem dX5_power_8 : decode cX5_power 8 = .ok (.aload_n 0, 1) := by decide +kernel
theorem dX5_power_9 : decode cX5_power 9 = .ok (.getfield 19, 3) := by decide +kernel
theorem dX5_power_12 : decode cX5_power 12 = .ok (.iload_n 2, 1) := by decide +kernel
theorem dX5_power_13 : decode cX5_power 13 = .ok (.invokevirtual 37, 3) := by decide +kernel
theorem dX5_power_16 : decode cX5_power 16 = .ok (.istore 4, 2) := by decide +kernel
theorem dX5_power_18 : decode cX5_power 18 = .ok (.iload_n 3, 1) := by decide +kernel
theorem dX5_power_19 : decode cX5_power 19 = .ok (.ifCond .ge 13, 3) := by decide +kernel
theorem dX5_power_22 : decode cX5_power 22 = .ok (.new 66, 3) := by decide +kernel
theorem dX5_power_25 : decode cX5_power 25 = .ok (.dup, 1) := by decide +kernel
theorem dX5_power_26 : decode cX5_power 26 = .ok (.ldc 68, 2) := by decide +kernel
theorem dX5_power_28 : decode cX5_power 28 = .ok (.invokespecial 70, 3) := by decide +kernel
theorem dX5_power_31 : decode cX5_power 31 = .ok (.athrow, 1) := by decide +kernel
theorem dX5_power_32 : decode cX5_power 32 = .ok (.aload_n 0, 1) := by decide +kernel
theorem dX5_power_33 : decode cX5_power 33 = .ok (.getfield 19, 3) := by decide +kernel
theorem dX5_power_36 : decode cX5_power 36 = .ok (.iload_n 1, 1) := by decide +kernel
theorem dX5_power_37 : decode cX5_power 37 = .ok (.aload_n 0, 1) := by decide +kernel
theorem dX5_power_38 : decode cX5_power 38 = .ok (.getfield 10, 3) := by decide +kernel
theorem dX5_power_41 : decode cX5_power 41 = .ok (.iload 4, 2) := by decide +kernel
theorem dX5_power_43 : decode cX5_power 43 = .ok (.iload_n 3, 1) := by decide +kernel
theorem dX5_power_44 : decode cX5_power 44 = .ok (.invokevirtual 71, 3) := by decide +kernel
theorem dX5_power_47 : decode cX5_power 47 = .ok (.invokevirtual 45, 3) := by decide +kernel
theorem dX5_power_50 : decode cX5_power 50 = .ok (.ireturn, 1) := by decide +kernel
set_option maxRecDepth 20000 in
theorem ggX5_root_X4_numberOf : GoodIn wsX5_root wsX4_numberOf := goodIn_ca (goodIn_ca (goodIn_r _ [7, 8, 9, 10, 11, 6, 12, 13, 14, 62, 63, 64, 65, 66] (by decide +kernel) (by decide +kernel)) (goodIn_sub (fun _ h => List.mem_cons_of_mem _ (List.mem_append_left _ (List.mem_append_left _ (List.mem_append_right _ h)))) (by decide +kernel))) (goodIn_sub (fun _ h => List.mem_cons_of_mem _ (List.mem_append_left _ (List.mem_append_right _ h))) (by decide +kernel))
set_option maxRecDepth 20000 in
theorem gX5_root_X4_numberOf : GoodIn wsX5_root (wsV RX5 37 RX4 yX4_numberOf wsX4_numberOf) := goodIn_app (goodIn_of _ (by decide +kernel)) ggX5_root_X4_numberOf
set_option maxRecDepth 20000 in
theorem ggX5_root_X3_rootOf : GoodIn wsX5_root wsX3_rootOf := goodIn_ca (goodIn_ca (goodIn_r _ [19, 20, 21, 22, 18, 23, 24, 25, 26, 27, 28, 29, 30, 31, 32, 33, 34, 35, 36, 67, 68] (by decide +kernel) (by decide +kernel)) (goodIn_sub (fun _ h => List.mem_cons_of_mem _ (List.mem_append_right _ h)) (by decide +kernel))) (goodIn_sub (fun _ h => List.mem_cons_of_mem _ (List.mem_append_left _ (List.mem_append_left _ (List.mem_append_right _ h)))) (by decide +kernel))
set_option maxRecDepth 20000 in
theorem gX5_root_X3_rootOf : GoodIn wsX5_root (wsV RX5 74 RX3 yX3_rootOf wsX3_rootOf) := goodIn_app (goodIn_of _ (by decide +kernel)) ggX5_root_X3_rootOf
set_option maxRecDepth 20000 in
theorem ggX5_root_X4_change : GoodIn wsX5_root wsX4_change := goodIn_ca (goodIn_ca (goodIn_r _ [40, 41, 42, 43, 44, 45, 46, 47, 48, 49, 4, 5, 6, 7, 8, 9, 10, 11, 12, 13, 14, 50, 51, 52, 53, 54, 55, 56, 57, 62, 63, 64, 65, 66] (by decide +kernel) (by decide +kernel)) (goodIn_sub (fun _ h => List.mem_cons_of_mem _ (List.mem_append_left _ (List.mem_append_left _ (List.mem_append_right _ h)))) (by decide +kernel))) (goodIn_sub (fun _ h => List.mem_cons_of_mem _ (List.mem_append_left _ (List.mem_append_right _ h))) (by decide +kernel))
set_option maxRecDepth 20000 in
theorem gX5_root_X4_change : GoodIn wsX5_root (wsV RX5 45 RX4 yX4_change wsX4_change) := goodIn_app (goodIn_of _ (by decide +kernel)) ggX5_root_X4_change
theorem dX5_root_0 : decode cX5_root 0 = .ok (.aload_n 0, 1) := by decide +kernel
theorem dX5_root_1 : decode cX5_root 1 = .ok (.getfield 19, 3) := by decide +kernel
theorem dX5_root_4 : decode cX5_root 4 = .ok (.iload_n 1, 1) := by decide +kernel
theorem dX5_root_5 : decode cX5_root 5 = .ok (.aload_n 0, 1) := by decide +kernel
theorem dX5_root_6 : decode cX5_root 6 = .ok (.getfield 10, 3) := by decide +kernel
theorem dX5_root_9 : decode cX5_root 9 = .ok (.aload_n 0, 1) := by decide +kernel
theorem dX5_root_10 : decode cX5_root 10 = .ok (.getfield 19, 3) := by decide +kernel
theorem dX5_root_13 : decode cX5_root 13 = .ok (.iload_n 2, 1) := by decide +kernel
theorem dX5_root_14 : decode cX5_root 14 = .ok (.invokevirtual 37, 3) := by decide +kernel
theorem dX5_root_17 : decode cX5_root 17 = .ok (.invokevirtual 74, 3) := by decide +kernel
theorem dX5_root_20 : decode cX5_root 20 = .ok (.invokevirtual 45, 3) := by decide +kernel
theorem dX5_root_23 : decode cX5_root 23 = .ok (.ireturn, 1) := by decide +kernel
set_option maxRecDepth 20000 in
theorem ggX5_solve_X4_requireRegister : GoodIn wsX5_solve wsX4_requireRegister := goodIn_ca (goodIn_r _ [9, 10, 11, 12, 61, 62, 63, 64, 65] (by decide +kernel) (by decide +kernel)) (goodIn_sub (fun _ h => List.mem_cons_of_mem _ (List.mem_append_left _ (List.mem_append_left _ (List.mem_append_right _ h)))) (by decide +kernel))
set_option maxRecDepth 20000 in
theorem gX5_solve_X4_requireRegister : GoodIn wsX5_solve (wsV RX5 52 RX4 yX4_requireRegister wsX4_requireRegister) := goodIn_app (goodIn_of _ (by decide +kernel)) ggX5_solve_X4_requireRegister
set_option maxRecDepth 20000 in
theorem ggX5_solve_X4_numberOf : GoodIn wsX5_solve wsX4_numberOf := goodIn_ca (goodIn_ca (goodIn_r _ [16, 12, 17, 6, 7, 8, 9, 10, 11, 61, 62, 63, 64, 65] (by decide +kernel) (by decide +kernel)) (goodIn_sub (fun _ h => List.mem_cons_of_mem _ (List.mem_append_left _ (List.mem_append_right _ h))) (by decide +kernel))) (goodIn_sub (fun _ h => List.mem_cons_of_mem _ (List.mem_append_left _ (List.mem_append_left _ (List.mem_append_right _ h)))) (by decide +kernel))
set_option maxRecDepth 20000 in
theorem gX5_solve_X4_numberOf : GoodIn wsX5_solve (wsV RX5 37 RX4 yX4_numberOf wsX4_numberOf) := goodIn_app (goodIn_of _ (by decide +kernel)) ggX5_solve_X4_numberOf
set_option maxRecDepth 20000 in
theorem ggX5_solve_X3_solutionOf : GoodIn wsX5_solve wsX3_solutionOf := goodIn_ca (goodIn_ca (goodIn_r _ [22, 23, 24, 25, 21, 26, 27, 28, 29, 30, 31, 32, 33, 34, 35, 66, 67] (by decide +kernel) (by decide +kernel)) (goodIn_sub (fun _ h => List.mem_cons_of_mem _ (List.mem_append_right _ h)) (by decide +kernel))) (goodIn_sub (fun _ h => List.mem_cons_of_mem _ (List.mem_append_left _ (List.mem_append_right _ h))) (by decide +kernel))
set_option maxRecDepth 20000 in
theorem gX5_solve_X3_solutionOf : GoodIn wsX5_solve (wsV RX5 77 RX3 yX3_solutionOf wsX3_solutionOf) := goodIn_app (goodIn_of _ (by decide +kernel)) ggX5_solve_X3_solutionOf
set_option maxRecDepth 20000 in
theorem ggX5_solve_X4_change : GoodIn wsX5_solve wsX4_change := goodIn_ca (goodIn_ca (goodIn_r _ [39, 40, 41, 42, 43, 44, 45, 46, 47, 48, 14, 15, 8, 16, 12, 17, 6, 7, 9, 10, 11, 49, 50, 51, 52, 53, 54, 55, 56, 61, 62, 63, 64, 65] (by decide +kernel) (by decide +kernel)) (goodIn_sub (fun _ h => List.mem_cons_of_mem _ (List.mem_append_left _ (List.mem_append_right _ h))) (by decide +kernel))) (goodIn_sub (fun _ h => List.mem_cons_of_mem _ (List.mem_append_left _ (List.mem_append_left _ (List.mem_append_right _ h)))) (by decide +kernel))
set_option maxRecDepth 20000 in
theorem gX5_solve_X4_change : GoodIn wsX5_solve (wsV RX5 45 RX4 yX4_change wsX4_change) := goodIn_app (goodIn_of _ (by decide +kernel)) ggX5_solve_X4_change
theorem dX5_solve_0 : decode cX5_solve 0 = .ok (.aload_n 0, 1) := by decide +kernel
theorem dX5_solve_1 : decode cX5_solve 1 = .ok (.getfield 19, 3) := by decide +kernel
theorem dX5_solve_4 : decode cX5_solve 4 = .ok (.iload_n 1, 1) := by decide +kernel
theorem dX5_solve_5 : decode cX5_solve 5 = .ok (.invokevirtual 52, 3) := by decide +kernel
theorem dX5_solve_8 : decode cX5_solve 8 = .ok (.aload_n 0, 1) := by decide +kernel
theorem dX5_solve_9 : decode cX5_solve 9 = .ok (.getfield 10, 3) := by decide +kernel
theorem dX5_solve_12 : decode cX5_solve 12 = .ok (.aload_n 0, 1) := by decide +kernel
theorem dX5_solve_13 : decode cX5_solve 13 = .ok (.getfield 19, 3) := by decide +kernel
theorem dX5_solve_16 : decode cX5_solve 16 = .ok (.iload_n 2, 1) := by decide +kernel
theorem dX5_solve_17 : decode cX5_solve 17 = .ok (.invokevirtual 37, 3) := by decide +kernel
theorem dX5_solve_20 : decode cX5_solve 20 = .ok (.iload_n 3, 1) := by decide +kernel
theorem dX5_solve_21 : decode cX5_solve 21 = .ok (.invokevirtual 77, 3) := by decide +kernel
theorem dX5_solve_24 : decode cX5_solve 24 = .ok (.istore 4, 2) := by decide +kernel
theorem dX5_solve_26 : decode cX5_solve 26 = .ok (.iload 4, 2) := by decide +kernel
theorem dX5_solve_28 : decode cX5_solve 28 = .ok (.iconst (-1), 1) := by decide +kernel
theorem dX5_solve_29 : decode cX5_solve 29 = .ok (.if_icmp .ne 13, 3) := by decide +kernel
theorem dX5_solve_32 : decode cX5_solve 32 = .ok (.new 81, 3) := by decide +kernel
theorem dX5_solve_35 : decode cX5_solve 35 = .ok (.dup, 1) := by decide +kernel
theorem dX5_solve_36 : decode cX5_solve 36 = .ok (.ldc 83, 2) := by decide +kernel
theorem dX5_solve_38 : decode cX5_solve 38 = .ok (.invokespecial 85, 3) := by decide +kernel
theorem dX5_solve_41 : decode cX5_solve 41 = .ok (.athrow, 1) := by decide +kernel
theorem dX5_solve_42 : decode cX5_solve 42 = .ok (.aload_n 0, 1) := by decide +kernel
theorem dX5_solve_43 : decode cX5_solve 43 = .ok (.getfield 19, 3) := by decide +kernel
theorem dX5_solve_46 : decode cX5_solve 46 = .ok (.iload_n 1, 1) := by decide +kernel
theorem dX5_solve_47 : decode cX5_solve 47 = .ok (.iload 4, 2) := by decide +kernel
theorem dX5_solve_49 : decode cX5_solve 49 = .ok (.invokevirtual 45, 3) := by decide +kernel
theorem dX5_solve_52 : decode cX5_solve 52 = .ok (.ireturn, 1) := by decide +kernel
set_option maxRecDepth 20000 in
theorem ggX5_undo_X4_takeBack : GoodIn wsX5_undo wsX4_takeBack := goodIn_ca (goodIn_ca (goodIn_r _ [6, 7, 8, 9, 10, 11, 12, 13, 14, 15, 16, 17, 5, 18, 19, 20, 21, 22, 23, 24, 25, 30, 31, 32, 33, 34] (by decide +kernel) (by decide +kernel)) (goodIn_sub (fun _ h => List.mem_cons_of_mem _ (List.mem_append_left _ (List.mem_append_right _ h))) (by decide +kernel))) (goodIn_sub (fun _ h => List.mem_cons_of_mem _ (List.mem_append_right _ h)) (by decide +kernel))
set_option maxRecDepth 20000 in
theorem gX5_undo_X4_takeBack : GoodIn wsX5_undo (wsV RX5 86 RX4 yX4_takeBack wsX4_takeBack) := goodIn_app (goodIn_of _ (by decide +kernel)) ggX5_undo_X4_takeBack
theorem dX5_undo_0 : decode cX5_undo 0 = .ok (.aload_n 0, 1) := by decide +kernel
theorem dX5_undo_1 : decode cX5_undo 1 = .ok (.getfield 19, 3) := by decide +kernel
theorem dX5_undo_4 : decode cX5_undo 4 = .ok (.invokevirtual 86, 3) := by decide +kernel
theorem dX5_undo_7 : decode cX5_undo 7 = .ok (.ireturn, 1) := by decide +kernel
set_option maxRecDepth 20000 in
theorem ggX5_at_X4_numberOf : GoodIn wsX5_at wsX4_numberOf := goodIn_ca (goodIn_ca (goodIn_r _ [6, 7, 8, 9, 10, 5, 11, 12, 13, 18, 19, 20, 21, 22] (by decide +kernel) (by decide +kernel)) (goodIn_sub (fun _ h => List.mem_cons_of_mem _ (List.mem_append_left _ (List.mem_append_right _ h))) (by decide +kernel))) (goodIn_sub (fun _ h => List.mem_cons_of_mem _ (List.mem_append_right _ h)) (by decide +kernel))
set_option maxRecDepth 20000 in
theorem gX5_at_X4_numberOf : GoodIn wsX5_at (wsV RX5 37 RX4 yX4_numberOf wsX4_numberOf) := goodIn_app (goodIn_of _ (by decide +kernel)) ggX5_at_X4_numberOf
theorem dX5_at_0 : decode cX5_at 0 = .ok (.aload_n 0, 1) := by decide +kernel
theorem dX5_at_1 : decode cX5_at 1 = .ok (.getfield 19, 3) := by decide +kernel
theorem dX5_at_4 : decode cX5_at 4 = .ok (.iload_n 1, 1) := by decide +kernel
theorem dX5_at_5 : decode cX5_at 5 = .ok (.invokevirtual 37, 3) := by decide +kernel
theorem dX5_at_8 : decode cX5_at 8 = .ok (.ireturn, 1) := by decide +kernel
set_option maxRecDepth 20000 in
theorem ggX5_trace_X4_numberOf : GoodIn wsX5_trace wsX4_numberOf := goodIn_ca (goodIn_ca (goodIn_r _ [7, 8, 9, 10, 11, 6, 12, 13, 14, 37, 38, 39, 40, 41] (by decide +kernel) (by decide +kernel)) (goodIn_sub (fun _ h => List.mem_cons_of_mem _ (List.mem_append_left _ (List.mem_append_left _ (List.mem_append_right _ h)))) (by decide +kernel))) (goodIn_sub (fun _ h => List.mem_cons_of_mem _ (List.mem_append_left _ (List.mem_append_right _ h))) (by decide +kernel))
set_option maxRecDepth 20000 in
theorem gX5_trace_X4_numberOf : GoodIn wsX5_trace (wsV RX5 37 RX4 yX4_numberOf wsX4_numberOf) := goodIn_app (goodIn_of _ (by decide +kernel)) ggX5_trace_X4_numberOf
set_option maxRecDepth 20000 in
theorem ggX5_trace_X3_traceOf : GoodIn wsX5_trace wsX3_traceOf := goodIn_ca (goodIn_ca (goodIn_r _ [19, 20, 21, 22, 18, 23, 24, 25, 26, 27, 28, 29, 30, 31, 32, 42, 43] (by decide +kernel) (by decide +kernel)) (goodIn_sub (fun _ h => List.mem_cons_of_mem _ (List.mem_append_right _ h)) (by decide +kernel))) (goodIn_sub (fun _ h => List.mem_cons_of_mem _ (List.mem_append_left _ (List.mem_append_left _ (List.mem_append_right _ h)))) (by decide +kernel))
set_option maxRecDepth 20000 in
theorem gX5_trace_X3_traceOf : GoodIn wsX5_trace (wsV RX5 90 RX3 yX3_traceOf wsX3_traceOf) := goodIn_app (goodIn_of _ (by decide +kernel)) ggX5_trace_X3_traceOf
theorem dX5_trace_0 : decode cX5_trace 0 = .ok (.aload_n 0, 1) := by decide +kernel
theorem dX5_trace_1 : decode cX5_trace 1 = .ok (.getfield 10, 3) := by decide +kernel
theorem dX5_trace_4 : decode cX5_trace 4 = .ok (.aload_n 0, 1) := by decide +kernel
theorem dX5_trace_5 : decode cX5_trace 5 = .ok (.getfield 19, 3) := by decide +kernel
theorem dX5_trace_8 : decode cX5_trace 8 = .ok (.iload_n 1, 1) := by decide +kernel
theorem dX5_trace_9 : decode cX5_trace 9 = .ok (.invokevirtual 37, 3) := by decide +kernel
theorem dX5_trace_12 : decode cX5_trace 12 = .ok (.invokevirtual 90, 3) := by decide +kernel
theorem dX5_trace_15 : decode cX5_trace 15 = .ok (.ireturn, 1) := by decide +kernel
set_option maxRecDepth 20000 in
theorem ggX5_order_X4_numberOf : GoodIn wsX5_order wsX4_numberOf := goodIn_ca (goodIn_ca (goodIn_r _ [9, 10, 11, 12, 13, 8, 14, 15, 16, 35, 36, 37, 38, 39] (by decide +kernel) (by decide +kernel)) (goodIn_sub (fun _ h => List.mem_cons_of_mem _ (List.mem_append_left _ (List.mem_append_left _ (List.mem_append_right _ h)))) (by decide +kernel))) (goodIn_sub (fun _ h => List.mem_cons_of_mem _ (List.mem_append_left _ (List.mem_append_right _ h))) (by decide +kernel))
set_option maxRecDepth 20000 in
theorem gX5_order_X4_numberOf : GoodIn wsX5_order (wsV RX5 37 RX4 yX4_numberOf wsX4_numberOf) := goodIn_app (goodIn_of _ (by decide +kernel)) ggX5_order_X4_numberOf
set_option maxRecDepth 20000 in
theorem ggX5_order_X3_orderOf : GoodIn wsX5_order wsX3_orderOf := goodIn_ca (goodIn_ca (goodIn_r _ [21, 22, 23, 24, 20, 25, 26, 27, 28, 29, 30, 40, 41] (by decide +kernel) (by decide +kernel)) (goodIn_sub (fun _ h => List.mem_cons_of_mem _ (List.mem_append_right _ h)) (by decide +kernel))) (goodIn_sub (fun _ h => List.mem_cons_of_mem _ (List.mem_append_left _ (List.mem_append_left _ (List.mem_append_right _ h)))) (by decide +kernel))
set_option maxRecDepth 20000 in
theorem gX5_order_X3_orderOf : GoodIn wsX5_order (wsV RX5 95 RX3 yX3_orderOf wsX3_orderOf) := goodIn_app (goodIn_of _ (by decide +kernel)) ggX5_order_X3_orderOf
theorem dX5_order_0 : decode cX5_order 0 = .ok (.aload_n 0, 1) := by decide +kernel
theorem dX5_order_1 : decode cX5_order 1 = .ok (.getfield 19, 3) := by decide +kernel
theorem dX5_order_4 : decode cX5_order 4 = .ok (.iload_n 1, 1) := by decide +kernel
theorem dX5_order_5 : decode cX5_order 5 = .ok (.invokevirtual 37, 3) := by decide +kernel
theorem dX5_order_8 : decode cX5_order 8 = .ok (.istore_n 2, 1) := by decide +kernel
theorem dX5_order_9 : decode cX5_order 9 = .ok (.iload_n 2, 1) := by decide +kernel
theorem dX5_order_10 : decode cX5_order 10 = .ok (.ifCond .ne 13, 3) := by decide +kernel
theorem dX5_order_13 : decode cX5_order 13 = .ok (.new 56, 3) := by decide +kernel
theorem dX5_order_16 : decode cX5_order 16 = .ok (.dup, 1) := by decide +kernel
theorem dX5_order_17 : decode cX5_order 17 = .ok (.ldc 93, 2) := by decide +kernel
theorem dX5_order_19 : decode cX5_order 19 = .ok (.invokespecial 60, 3) := by decide +kernel
theorem dX5_order_22 : decode cX5_order 22 = .ok (.athrow, 1) := by decide +kernel
theorem dX5_order_23 : decode cX5_order 23 = .ok (.aload_n 0, 1) := by decide +kernel
theorem dX5_order_24 : decode cX5_order 24 = .ok (.getfield 10, 3) := by decide +kernel
theorem dX5_order_27 : decode cX5_order 27 = .ok (.iload_n 2, 1) := by decide +kernel
theorem dX5_order_28 : decode cX5_order 28 = .ok (.invokevirtual 95, 3) := by decide +kernel
theorem dX5_order_31 : decode cX5_order 31 = .ok (.ireturn, 1) := by decide +kernel
set_option maxRecDepth 20000 in
theorem ggX5_field_X4_numberOf : GoodIn wsX5_field wsX4_numberOf := goodIn_ca (goodIn_ca (goodIn_r _ [7, 8, 9, 10, 11, 6, 12, 13, 14, 24, 25, 26, 27, 28] (by decide +kernel) (by decide +kernel)) (goodIn_sub (fun _ h => List.mem_cons_of_mem _ (List.mem_append_left _ (List.mem_append_right _ h))) (by decide +kernel))) (goodIn_sub (fun _ h => List.mem_cons_of_mem _ (List.mem_append_right _ h)) (by decide +kernel))
set_option maxRecDepth 20000 in
theorem gX5_field_X4_numberOf : GoodIn wsX5_field (wsV RX5 37 RX4 yX4_numberOf wsX4_numberOf) := goodIn_app (goodIn_of _ (by decide +kernel)) ggX5_field_X4_numberOf
set_option maxRecDepth 20000 in
theorem ggX5_field_X3_fieldOf : GoodIn wsX5_field wsX3_fieldOf := goodIn_r _ [19] (by decide +kernel) (by decide +kernel)
set_option maxRecDepth 20000 in
theorem gX5_field_X3_fieldOf : GoodIn wsX5_field (wsV RX5 98 RX3 yX3_fieldOf wsX3_fieldOf) := goodIn_app (goodIn_of _ (by decide +kernel)) ggX5_field_X3_fieldOf
theorem dX5_field_0 : decode cX5_field 0 = .ok (.aload_n 0, 1) := by decide +kernel
theorem dX5_field_1 : decode cX5_field 1 = .ok (.getfield 10, 3) := by decide +kernel
theorem dX5_field_4 : decode cX5_field 4 = .ok (.aload_n 0, 1) := by decide +kernel
theorem dX5_field_5 : decode cX5_field 5 = .ok (.getfield 19, 3) := by decide +kernel
theorem dX5_field_8 : decode cX5_field 8 = .ok (.iload_n 1, 1) := by decide +kernel
theorem dX5_field_9 : decode cX5_field 9 = .ok (.invokevirtual 37, 3) := by decide +kernel
theorem dX5_field_12 : decode cX5_field 12 = .ok (.invokevirtual 98, 3) := by decide +kernel
theorem dX5_field_15 : decode cX5_field 15 = .ok (.ireturn, 1) := by decide +kernel
set_option maxRecDepth 20000 in
theorem ggX5_squarings_X4_numberOf : GoodIn wsX5_squarings wsX4_numberOf := goodIn_ca (goodIn_ca (goodIn_r _ [7, 8, 9, 10, 11, 6, 12, 13, 14, 37, 38, 39, 40, 41] (by decide +kernel) (by decide +kernel)) (goodIn_sub (fun _ h => List.mem_cons_of_mem _ (List.mem_append_left _ (List.mem_append_left _ (List.mem_append_right _ h)))) (by decide +kernel))) (goodIn_sub (fun _ h => List.mem_cons_of_mem _ (List.mem_append_left _ (List.mem_append_right _ h))) (by decide +kernel))
set_option maxRecDepth 20000 in
theorem gX5_squarings_X4_numberOf : GoodIn wsX5_squarings (wsV RX5 37 RX4 yX4_numberOf wsX4_numberOf) := goodIn_app (goodIn_of _ (by decide +kernel)) ggX5_squarings_X4_numberOf
set_option maxRecDepth 20000 in
theorem ggX5_squarings_X3_squaringsOf : GoodIn wsX5_squarings wsX3_squaringsOf := goodIn_ca (goodIn_ca (goodIn_r _ [19, 20, 21, 22, 18, 23, 24, 25, 26, 27, 28, 29, 30, 31, 32, 42, 43] (by decide +kernel) (by decide +kernel)) (goodIn_sub (fun _ h => List.mem_cons_of_mem _ (List.mem_append_right _ h)) (by decide +kernel))) (goodIn_sub (fun _ h => List.mem_cons_of_mem _ (List.mem_append_left _ (List.mem_append_left _ (List.mem_append_right _ h)))) (by decide +kernel))
set_option maxRecDepth 20000 in
theorem gX5_squarings_X3_squaringsOf : GoodIn wsX5_squarings (wsV RX5 101 RX3 yX3_squaringsOf wsX3_squaringsOf) := goodIn_app (goodIn_of _ (by decide +kernel)) ggX5_squarings_X3_squaringsOf
theorem dX5_squarings_0 : decode cX5_squarings 0 = .ok (.aload_n 0, 1) := by decide +kernel
theorem dX5_squarings_1 : decode cX5_squarings 1 = .ok (.getfield 10, 3) := by decide +kernel
theorem dX5_squarings_4 : decode cX5_squarings 4 = .ok (.aload_n 0, 1) := by decide +kernel
theorem dX5_squarings_5 : decode cX5_squarings 5 = .ok (.getfield 19, 3) := by decide +kernel
theorem dX5_squarings_8 : decode cX5_squarings 8 = .ok (.iload_n 1, 1) := by decide +kernel
theorem dX5_squarings_9 : decode cX5_squarings 9 = .ok (.invokevirtual 37, 3) := by decide +kernel
theorem dX5_squarings_12 : decode cX5_squarings 12 = .ok (.invokevirtual 101, 3) := by decide +kernel
theorem dX5_squarings_15 : decode cX5_squarings 15 = .ok (.ireturn, 1) := by decide +kernel
set_option maxRecDepth 20000 in
theorem ggX5_triedSum_X5_requireBetween : GoodIn wsX5_triedSum wsX5_requireBetween := goodIn_ca (goodIn_r _ [5, 6, 7] (by decide +kernel) (by decide +kernel)) (goodIn_sub (fun _ h => List.mem_cons_of_mem _ (List.mem_append_left _ (List.mem_append_right _ h))) (by decide +kernel))
set_option maxRecDepth 20000 in
theorem gX5_triedSum_X5_requireBetween : GoodIn wsX5_triedSum (va_wsS RX5 41 yX5_requireBetween wsX5_requireBetween) := goodIn_app (goodIn_of _ (by decide +kernel)) ggX5_triedSum_X5_requireBetween
set_option maxRecDepth 20000 in
theorem ggX5_triedSum_X3_sumByTrying : GoodIn wsX5_triedSum wsX3_sumByTrying := goodIn_ca (goodIn_r _ [12, 13, 14, 15, 16, 17, 18, 19, 20, 21, 22, 23, 24, 25, 26, 27, 28, 29, 30, 31, 36, 37, 38] (by decide +kernel) (by decide +kernel)) (goodIn_sub (fun _ h => List.mem_cons_of_mem _ (List.mem_append_right _ h)) (by decide +kernel))
set_option maxRecDepth 20000 in
theorem gX5_triedSum_X3_sumByTrying : GoodIn wsX5_triedSum (wsV RX5 104 RX3 yX3_sumByTrying wsX3_sumByTrying) := goodIn_app (goodIn_of _ (by decide +kernel)) ggX5_triedSum_X3_sumByTrying
theorem dX5_triedSum_0 : decode cX5_triedSum 0 = .ok (.iconst 0, 1) := by decide +kernel
theorem dX5_triedSum_1 : decode cX5_triedSum 1 = .ok (.iload_n 1, 1) := by decide +kernel
theorem dX5_triedSum_2 : decode cX5_triedSum 2 = .ok (.sipush 255, 3) := by decide +kernel
theorem dX5_triedSum_5 : decode cX5_triedSum 5 = .ok (.invokestatic 41, 3) := by decide +kernel
theorem dX5_triedSum_8 : decode cX5_triedSum 8 = .ok (.iconst 0, 1) := by decide +kernel
theorem dX5_triedSum_9 : decode cX5_triedSum 9 = .ok (.iload_n 2, 1) := by decide +kernel
theorem dX5_triedSum_10 : decode cX5_triedSum 10 = .ok (.sipush 255, 3) := by decide +kernel
theorem dX5_triedSum_13 : decode cX5_triedSum 13 = .ok (.invokestatic 41, 3) := by decide +kernel
theorem dX5_triedSum_16 : decode cX5_triedSum 16 = .ok (.aload_n 0, 1) := by decide +kernel
theorem dX5_triedSum_17 : decode cX5_triedSum 17 = .ok (.getfield 10, 3) := by decide +kernel
theorem dX5_triedSum_20 : decode cX5_triedSum 20 = .ok (.iload_n 1, 1) := by decide +kernel
theorem dX5_triedSum_21 : decode cX5_triedSum 21 = .ok (.iload_n 2, 1) := by decide +kernel
theorem dX5_triedSum_22 : decode cX5_triedSum 22 = .ok (.invokevirtual 104, 3) := by decide +kernel
theorem dX5_triedSum_25 : decode cX5_triedSum 25 = .ok (.ireturn, 1) := by decide +kernel
set_option maxRecDepth 20000 in
theorem ggX5_triedProduct_X5_requireBetween : GoodIn wsX5_triedProduct wsX5_requireBetween := goodIn_ca (goodIn_r _ [5, 6, 7] (by decide +kernel) (by decide +kernel)) (goodIn_sub (fun _ h => List.mem_cons_of_mem _ (List.mem_append_left _ (List.mem_append_left _ (List.mem_append_right _ h)))) (by decide +kernel))
set_option maxRecDepth 20000 in
theorem gX5_triedProduct_X5_requireBetween : GoodIn wsX5_triedProduct (va_wsS RX5 41 yX5_requireBetween wsX5_requireBetween) := goodIn_app (goodIn_of _ (by decide +kernel)) ggX5_triedProduct_X5_requireBetween
set_option maxRecDepth 20000 in
theorem ggX5_triedProduct_X3_productByTrying : GoodIn wsX5_triedProduct wsX3_productByTrying := goodIn_ca (goodIn_ca (goodIn_r _ [12, 13, 14, 15, 16, 17, 18, 19, 20, 21, 22, 11, 23, 24, 25, 26, 27, 28, 29, 30, 31, 32, 33, 34, 35, 36, 37, 38, 39, 40, 45, 46, 47] (by decide +kernel) (by decide +kernel)) (goodIn_sub (fun _ h => List.mem_cons_of_mem _ (List.mem_append_left _ (List.mem_append_right _ h))) (by decide +kernel))) (goodIn_sub (fun _ h => List.mem_cons_of_mem _ (List.mem_append_right _ h)) (by decide +kernel))
set_option maxRecDepth 20000 in
theorem gX5_triedProduct_X3_productByTrying : GoodIn wsX5_triedProduct (wsV RX5 107 RX3 yX3_productByTrying wsX3_productByTrying) := goodIn_app (goodIn_of _ (by decide +kernel)) ggX5_triedProduct_X3_productByTrying
theorem dX5_triedProduct_0 : decode cX5_triedProduct 0 = .ok (.iconst 0, 1) := by decide +kernel
theorem dX5_triedProduct_1 : decode cX5_triedProduct 1 = .ok (.iload_n 1, 1) := by decide +kernel
theorem dX5_triedProduct_2 : decode cX5_triedProduct 2 = .ok (.bipush 15, 2) := by decide +kernel
theorem dX5_triedProduct_4 : decode cX5_triedProduct 4 = .ok (.invokestatic 41, 3) := by decide +kernel
theorem dX5_triedProduct_7 : decode cX5_triedProduct 7 = .ok (.iconst 0, 1) := by decide +kernel
theorem dX5_triedProduct_8 : decode cX5_triedProduct 8 = .ok (.iload_n 2, 1) := by decide +kernel
theorem dX5_triedProduct_9 : decode cX5_triedProduct 9 = .ok (.bipush 15, 2) := by decide +kernel
theorem dX5_triedProduct_11 : decode cX5_triedProduct 11 = .ok (.invokestatic 41, 3) := by decide +kernel
theorem dX5_triedProduct_14 : decode cX5_triedProduct 14 = .ok (.aload_n 0, 1) := by decide +kernel
theorem dX5_triedProduct_15 : decode cX5_triedProduct 15 = .ok (.getfield 10, 3) := by decide +kernel
theorem dX5_triedProduct_18 : decode cX5_triedProduct 18 = .ok (.iload_n 1, 1) := by decide +kernel
theorem dX5_triedProduct_19 : decode cX5_triedProduct 19 = .ok (.iload_n 2, 1) := by decide +kernel
theorem dX5_triedProduct_20 : decode cX5_triedProduct 20 = .ok (.invokevirtual 107, 3) := by decide +kernel
theorem dX5_triedProduct_23 : decode cX5_triedProduct 23 = .ok (.ireturn, 1) := by decide +kernel
set_option maxRecDepth 20000 in
theorem ggX5_times_X5_requireBetween : GoodIn wsX5_times wsX5_requireBetween := goodIn_ca (goodIn_r _ [5, 6, 7] (by decide +kernel) (by decide +kernel)) (goodIn_sub (fun _ h => List.mem_cons_of_mem _ (List.mem_append_left _ (List.mem_append_left _ (List.mem_append_right _ h)))) (by decide +kernel))
set_option maxRecDepth 20000 in
theorem gX5_times_X5_requireBetween : GoodIn wsX5_times (va_wsS RX5 41 yX5_requireBetween wsX5_requireBetween) := goodIn_app (goodIn_of _ (by decide +kernel)) ggX5_times_X5_requireBetween
set_option maxRecDepth 20000 in
theorem ggX5_times_X3_productOf : GoodIn wsX5_times wsX3_productOf := goodIn_ca (goodIn_ca (goodIn_r _ [12, 13, 14, 15, 11, 16, 17, 22, 23] (by decide +kernel) (by decide +kernel)) (goodIn_sub (fun _ h => List.mem_cons_of_mem _ (List.mem_append_left _ (List.mem_append_right _ h))) (by decide +kernel))) (goodIn_sub (fun _ h => List.mem_cons_of_mem _ (List.mem_append_right _ h)) (by decide +kernel))
set_option maxRecDepth 20000 in
theorem gX5_times_X3_productOf : GoodIn wsX5_times (wsV RX5 49 RX3 yX3_productOf wsX3_productOf) := goodIn_app (goodIn_of _ (by decide +kernel)) ggX5_times_X3_productOf
theorem dX5_times_0 : decode cX5_times 0 = .ok (.iconst 0, 1) := by decide +kernel
theorem dX5_times_1 : decode cX5_times 1 = .ok (.iload_n 1, 1) := by decide +kernel
theorem dX5_times_2 : decode cX5_times 2 = .ok (.sipush 255, 3) := by decide +kernel
theorem dX5_times_5 : decode cX5_times 5 = .ok (.invokestatic 41, 3) := by decide +kernel
theorem dX5_times_8 : decode cX5_times 8 = .ok (.iconst 0, 1) := by decide +kernel
theorem dX5_times_9 : decode cX5_times 9 = .ok (.iload_n 2, 1) := by decide +kernel
theorem dX5_times_10 : decode cX5_times 10 = .ok (.sipush 255, 3) := by decide +kernel
theorem dX5_times_13 : decode cX5_times 13 = .ok (.invokestatic 41, 3) := by decide +kernel
theorem dX5_times_16 : decode cX5_times 16 = .ok (.aload_n 0, 1) := by decide +kernel
theorem dX5_times_17 : decode cX5_times 17 = .ok (.getfield 10, 3) := by decide +kernel
theorem dX5_times_20 : decode cX5_times 20 = .ok (.iload_n 1, 1) := by decide +kernel
theorem dX5_times_21 : decode cX5_times 21 = .ok (.iload_n 2, 1) := by decide +kernel
theorem dX5_times_22 : decode cX5_times 22 = .ok (.invokevirtual 49, 3) := by decide +kernel
theorem dX5_times_25 : decode cX5_times 25 = .ok (.ireturn, 1) := by decide +kernel
set_option maxRecDepth 20000 in
theorem ggX5_isField_X5_requireBetween : GoodIn wsX5_isField wsX5_requireBetween := goodIn_ca (goodIn_r _ [5, 6, 7] (by decide +kernel) (by decide +kernel)) (goodIn_sub (fun _ h => List.mem_cons_of_mem _ (List.mem_append_left _ (List.mem_append_left _ (List.mem_append_right _ h)))) (by decide +kernel))
set_option maxRecDepth 20000 in
theorem gX5_isField_X5_requireBetween : GoodIn wsX5_isField (va_wsS RX5 41 yX5_requireBetween wsX5_requireBetween) := goodIn_app (goodIn_of _ (by decide +kernel)) ggX5_isField_X5_requireBetween
set_option maxRecDepth 20000 in
theorem ggX5_isField_X3_areClosedBelow : GoodIn wsX5_isField wsX3_areClosedBelow := goodIn_ca (goodIn_ca (goodIn_r _ [12, 13, 14, 15, 11, 16, 17, 18, 19, 20, 21, 34, 35] (by decide +kernel) (by decide +kernel)) (goodIn_sub (fun _ h => List.mem_cons_of_mem _ (List.mem_append_left _ (List.mem_append_right _ h))) (by decide +kernel))) (goodIn_sub (fun _ h => List.mem_cons_of_mem _ (List.mem_append_right _ h)) (by decide +kernel))
set_option maxRecDepth 20000 in
theorem gX5_isField_X3_areClosedBelow : GoodIn wsX5_isField (wsV RX5 110 RX3 yX3_areClosedBelow wsX3_areClosedBelow) := goodIn_app (goodIn_of _ (by decide +kernel)) ggX5_isField_X3_areClosedBelow
set_option maxRecDepth 20000 in
theorem ggX5_isField_X3_haveInversesBelow : GoodIn wsX5_isField wsX3_haveInversesBelow := goodIn_ca (goodIn_ca (goodIn_r _ [25, 26, 27, 28, 11, 29, 13, 14, 15, 16, 17, 18, 19, 20, 21, 34, 35] (by decide +kernel) (by decide +kernel)) (goodIn_sub (fun _ h => List.mem_cons_of_mem _ (List.mem_append_left _ (List.mem_append_right _ h))) (by decide +kernel))) (goodIn_sub (fun _ h => List.mem_cons_of_mem _ (List.mem_append_right _ h)) (by decide +kernel))
set_option maxRecDepth 20000 in
theorem gX5_isField_X3_haveInversesBelow : GoodIn wsX5_isField (wsV RX5 114 RX3 yX3_haveInversesBelow wsX3_haveInversesBelow) := goodIn_app (goodIn_of _ (by decide +kernel)) ggX5_isField_X3_haveInversesBelow
theorem dX5_isField_0 : decode cX5_isField 0 = .ok (.iconst 1, 1) := by decide +kernel
theorem dX5_isField_1 : decode cX5_isField 1 = .ok (.iload_n 1, 1) := by decide +kernel
theorem dX5_isField_2 : decode cX5_isField 2 = .ok (.bipush 16, 2) := by decide +kernel
theorem dX5_isField_4 : decode cX5_isField 4 = .ok (.invokestatic 41, 3) := by decide +kernel
theorem dX5_isField_7 : decode cX5_isField 7 = .ok (.iconst 1, 1) := by decide +kernel
theorem dX5_isField_8 : decode cX5_isField 8 = .ok (.iload_n 1, 1) := by decide +kernel
theorem dX5_isField_9 : decode cX5_isField 9 = .ok (.if_icmp .ge 29, 3) := by decide +kernel
theorem dX5_isField_12 : decode cX5_isField 12 = .ok (.aload_n 0, 1) := by decide +kernel
theorem dX5_isField_13 : decode cX5_isField 13 = .ok (.getfield 10, 3) := by decide +kernel
theorem dX5_isField_16 : decode cX5_isField 16 = .ok (.iload_n 1, 1) := by decide +kernel
theorem dX5_isField_17 : decode cX5_isField 17 = .ok (.invokevirtual 110, 3) := by decide +kernel
theorem dX5_isField_20 : decode cX5_isField 20 = .ok (.ifCond .eq 18, 3) := by decide +kernel
theorem dX5_isField_23 : decode cX5_isField 23 = .ok (.aload_n 0, 1) := by decide +kernel
theorem dX5_isField_24 : decode cX5_isField 24 = .ok (.getfield 10, 3) := by decide +kernel
theorem dX5_isField_27 : decode cX5_isField 27 = .ok (.iload_n 1, 1) := by decide +kernel
theorem dX5_isField_28 : decode cX5_isField 28 = .ok (.invokevirtual 114, 3) := by decide +kernel
theorem dX5_isField_31 : decode cX5_isField 31 = .ok (.ifCond .eq 7, 3) := by decide +kernel
theorem dX5_isField_34 : decode cX5_isField 34 = .ok (.iconst 1, 1) := by decide +kernel
theorem dX5_isField_35 : decode cX5_isField 35 = .ok (.goto 4, 3) := by decide +kernel
theorem dX5_isField_38 : decode cX5_isField 38 = .ok (.iconst 0, 1) := by decide +kernel
theorem dX5_isField_39 : decode cX5_isField 39 = .ok (.ireturn, 1) := by decide +kernel
set_option maxRecDepth 20000 in
theorem ggX5_put_X5_requireBetween : GoodIn wsX5_put wsX5_requireBetween := goodIn_ca (goodIn_r _ [6, 7, 8] (by decide +kernel) (by decide +kernel)) (goodIn_sub (fun _ h => List.mem_cons_of_mem _ (List.mem_append_left _ (List.mem_append_right _ h))) (by decide +kernel))
set_option maxRecDepth 20000 in
theorem gX5_put_X5_requireBetween : GoodIn wsX5_put (va_wsS RX5 41 yX5_requireBetween wsX5_requireBetween) := goodIn_app (goodIn_of _ (by decide +kernel)) ggX5_put_X5_requireBetween
set_option maxRecDepth 20000 in
theorem ggX5_put_X2_add : GoodIn wsX5_put wsX2_add := goodIn_ca (goodIn_r _ [13, 14, 15, 16, 17, 12, 18, 25] (by decide +kernel) (by decide +kernel)) (goodIn_sub (fun _ h => List.mem_cons_of_mem _ (List.mem_append_right _ h)) (by decide +kernel))
set_option maxRecDepth 20000 in
theorem gX5_put_X2_add : GoodIn wsX5_put (wsV RX5 121 RX2 yX2_add wsX2_add) := goodIn_app (goodIn_of _ (by decide +kernel)) ggX5_put_X2_add
theorem dX5_put_0 : decode cX5_put 0 = .ok (.iconst 0, 1) := by decide +kernel
theorem dX5_put_1 : decode cX5_put 1 = .ok (.iload_n 1, 1) := by decide +kernel
theorem dX5_put_2 : decode cX5_put 2 = .ok (.sipush 255, 3) := by decide +kernel
theorem dX5_put_5 : decode cX5_put 5 = .ok (.invokestatic 41, 3) := by decide +kernel
theorem dX5_put_8 : decode cX5_put 8 = .ok (.aload_n 0, 1) := by decide +kernel
theorem dX5_put_9 : decode cX5_put 9 = .ok (.getfield 26, 3) := by decide +kernel
theorem dX5_put_12 : decode cX5_put 12 = .ok (.getfield 117, 3) := by decide +kernel
theorem dX5_put_15 : decode cX5_put 15 = .ok (.iload_n 1, 1) := by decide +kernel
theorem dX5_put_16 : decode cX5_put 16 = .ok (.invokevirtual 121, 3) := by decide +kernel
theorem dX5_put_19 : decode cX5_put 19 = .ok (.ireturn, 1) := by decide +kernel
set_option maxRecDepth 20000 in
theorem ggX5_take_X2_remove : GoodIn wsX5_take wsX2_remove := goodIn_ca (goodIn_r _ [7, 8, 9, 10, 11, 6, 12, 13, 14, 15, 16, 23] (by decide +kernel) (by decide +kernel)) (goodIn_sub (fun _ h => List.mem_cons_of_mem _ (List.mem_append_right _ h)) (by decide +kernel))
set_option maxRecDepth 20000 in
theorem gX5_take_X2_remove : GoodIn wsX5_take (wsV RX5 126 RX2 yX2_remove wsX2_remove) := goodIn_app (goodIn_of _ (by decide +kernel)) ggX5_take_X2_remove
theorem dX5_take_0 : decode cX5_take 0 = .ok (.aload_n 0, 1) := by decide +kernel
theorem dX5_take_1 : decode cX5_take 1 = .ok (.getfield 26, 3) := by decide +kernel
theorem dX5_take_4 : decode cX5_take 4 = .ok (.getfield 117, 3) := by decide +kernel
theorem dX5_take_7 : decode cX5_take 7 = .ok (.iload_n 1, 1) := by decide +kernel
theorem dX5_take_8 : decode cX5_take 8 = .ok (.invokevirtual 126, 3) := by decide +kernel
theorem dX5_take_11 : decode cX5_take 11 = .ok (.ireturn, 1) := by decide +kernel
set_option maxRecDepth 20000 in
theorem ggX5_has_X2_contains : GoodIn wsX5_has wsX2_contains := goodIn_ca (goodIn_r _ [7, 8, 9, 10, 11, 6, 12, 19] (by decide +kernel) (by decide +kernel)) (goodIn_sub (fun _ h => List.mem_cons_of_mem _ (List.mem_append_right _ h)) (by decide +kernel))
set_option maxRecDepth 20000 in
theorem gX5_has_X2_contains : GoodIn wsX5_has (wsV RX5 129 RX2 yX2_contains wsX2_contains) := goodIn_app (goodIn_of _ (by decide +kernel)) ggX5_has_X2_contains
theorem dX5_has_0 : decode cX5_has 0 = .ok (.aload_n 0, 1) := by decide +kernel
theorem dX5_has_1 : decode cX5_has 1 = .ok (.getfield 26, 3) := by decide +kernel
theorem dX5_has_4 : decode cX5_has 4 = .ok (.getfield 117, 3) := by decide +kernel
theorem dX5_has_7 : decode cX5_has 7 = .ok (.iload_n 1, 1) := by decide +kernel
theorem dX5_has_8 : decode cX5_has 8 = .ok (.invokevirtual 129, 3) := by decide +kernel
theorem dX5_has_11 : decode cX5_has 11 = .ok (.ireturn, 1) := by decide +kernel
set_option maxRecDepth 20000 in
theorem ggX5_size_X2_count : GoodIn wsX5_size wsX2_count := goodIn_ca (goodIn_r _ [7, 8, 15] (by decide +kernel) (by decide +kernel)) (goodIn_sub (fun _ h => List.mem_cons_of_mem _ (List.mem_append_right _ h)) (by decide +kernel))
set_option maxRecDepth 20000 in
theorem gX5_size_X2_count : GoodIn wsX5_size (wsV RX5 132 RX2 yX2_count wsX2_count) := goodIn_app (goodIn_of _ (by decide +kernel)) ggX5_size_X2_count
theorem dX5_size_0 : decode cX5_size 0 = .ok (.aload_n 0, 1) := by decide +kernel
theorem dX5_size_1 : decode cX5_size 1 = .ok (.getfield 26, 3) := by decide +kernel
theorem dX5_size_4 : decode cX5_size 4 = .ok (.getfield 117, 3) := by decide +kernel
theorem dX5_size_7 : decode cX5_size 7 = .ok (.invokevirtual 132, 3) := by decide +kernel
theorem dX5_size_10 : decode cX5_size 10 = .ok (.ireturn, 1) := by decide +kernel
set_option maxRecDepth 20000 in
theorem ggX5_numberAt_X2_numberBehind : GoodIn wsX5_numberAt wsX2_numberBehind := goodIn_ca (goodIn_r _ [9, 10, 17] (by decide +kernel) (by decide +kernel)) (goodIn_sub (fun _ h => List.mem_cons_of_mem _ (List.mem_append_right _ h)) (by decide +kernel))
set_option maxRecDepth 20000 in
theorem gX5_numberAt_X2_numberBehind : GoodIn wsX5_numberAt (wsV RX5 135 RX2 yX2_numberBehind wsX2_numberBehind) := goodIn_app (goodIn_of _ (by decide +kernel)) ggX5_numberAt_X2_numberBehind
theorem dX5_numberAt_0 : decode cX5_numberAt 0 = .ok (.aload_n 0, 1) := by decide +kernel
theorem dX5_numberAt_1 : decode cX5_numberAt 1 = .ok (.getfield 26, 3) := by decide +kernel
theorem dX5_numberAt_4 : decode cX5_numberAt 4 = .ok (.getfield 117, 3) := by decide +kernel
theorem dX5_numberAt_7 : decode cX5_numberAt 7 = .ok (.iload_n 1, 1) := by decide +kernel
theorem dX5_numberAt_8 : decode cX5_numberAt 8 = .ok (.invokevirtual 135, 3) := by decide +kernel
theorem dX5_numberAt_11 : decode cX5_numberAt 11 = .ok (.istore_n 2, 1) := by decide +kernel
theorem dX5_numberAt_12 : decode cX5_numberAt 12 = .ok (.iload_n 2, 1) := by decide +kernel
theorem dX5_numberAt_13 : decode cX5_numberAt 13 = .ok (.iconst (-1), 1) := by decide +kernel
theorem dX5_numberAt_14 : decode cX5_numberAt 14 = .ok (.if_icmp .ne 13, 3) := by decide +kernel
theorem dX5_numberAt_17 : decode cX5_numberAt 17 = .ok (.new 138, 3) := by decide +kernel
theorem dX5_numberAt_20 : decode cX5_numberAt 20 = .ok (.dup, 1) := by decide +kernel
theorem dX5_numberAt_21 : decode cX5_numberAt 21 = .ok (.ldc 140, 2) := by decide +kernel
theorem dX5_numberAt_23 : decode cX5_numberAt 23 = .ok (.invokespecial 142, 3) := by decide +kernel
theorem dX5_numberAt_26 : decode cX5_numberAt 26 = .ok (.athrow, 1) := by decide +kernel
theorem dX5_numberAt_27 : decode cX5_numberAt 27 = .ok (.iload_n 2, 1) := by decide +kernel
theorem dX5_numberAt_28 : decode cX5_numberAt 28 = .ok (.ireturn, 1) := by decide +kernel
set_option maxRecDepth 20000 in
theorem ggX5_leastOut_X2_leastAbsent : GoodIn wsX5_leastOut wsX2_leastAbsent := goodIn_ca (goodIn_r _ [7, 8, 15] (by decide +kernel) (by decide +kernel)) (goodIn_sub (fun _ h => List.mem_cons_of_mem _ (List.mem_append_right _ h)) (by decide +kernel))
set_option maxRecDepth 20000 in
theorem gX5_leastOut_X2_leastAbsent : GoodIn wsX5_leastOut (wsV RX5 143 RX2 yX2_leastAbsent wsX2_leastAbsent) := goodIn_app (goodIn_of _ (by decide +kernel)) ggX5_leastOut_X2_leastAbsent
theorem dX5_leastOut_0 : decode cX5_leastOut 0 = .ok (.aload_n 0, 1) := by decide +kernel
theorem dX5_leastOut_1 : decode cX5_leastOut 1 = .ok (.getfield 26, 3) := by decide +kernel
theorem dX5_leastOut_4 : decode cX5_leastOut 4 = .ok (.getfield 117, 3) := by decide +kernel
theorem dX5_leastOut_7 : decode cX5_leastOut 7 = .ok (.invokevirtual 143, 3) := by decide +kernel
theorem dX5_leastOut_10 : decode cX5_leastOut 10 = .ok (.ireturn, 1) := by decide +kernel
set_option maxRecDepth 20000 in
theorem ggX5_shift_X5_requireBetween : GoodIn wsX5_shift wsX5_requireBetween := goodIn_ca (goodIn_r _ [5, 6, 7] (by decide +kernel) (by decide +kernel)) (goodIn_sub (fun _ h => List.mem_cons_of_mem _ (List.mem_append_left _ (List.mem_append_right _ h))) (by decide +kernel))
set_option maxRecDepth 20000 in
theorem gX5_shift_X5_requireBetween : GoodIn wsX5_shift (va_wsS RX5 41 yX5_requireBetween wsX5_requireBetween) := goodIn_app (goodIn_of _ (by decide +kernel)) ggX5_shift_X5_requireBetween
set_option maxRecDepth 20000 in
theorem ggX5_shift_X0_shiftBy : GoodIn wsX5_shift wsX0_shiftBy := goodIn_ca (goodIn_r _ [12, 13, 14, 15, 16, 17, 18, 19, 20, 21, 22, 23, 24, 25, 26, 27, 28, 29, 30, 31, 32, 33, 34, 35, 36, 37, 42, 43, 44] (by decide +kernel) (by decide +kernel)) (goodIn_sub (fun _ h => List.mem_cons_of_mem _ (List.mem_append_right _ h)) (by decide +kernel))
set_option maxRecDepth 20000 in
theorem gX5_shift_X0_shiftBy : GoodIn wsX5_shift (wsV RX5 146 RX0 yX0_shiftBy wsX0_shiftBy) := goodIn_app (goodIn_of _ (by decide +kernel)) ggX5_shift_X0_shiftBy
theorem dX5_shift_0 : decode cX5_shift 0 = .ok (.iconst 0, 1) := by decide +kernel
theorem dX5_shift_1 : decode cX5_shift 1 = .ok (.iload_n 1, 1) := by decide +kernel
theorem dX5_shift_2 : decode cX5_shift 2 = .ok (.sipush 255, 3) := by decide +kernel
theorem dX5_shift_5 : decode cX5_shift 5 = .ok (.invokestatic 41, 3) := by decide +kernel
theorem dX5_shift_8 : decode cX5_shift 8 = .ok (.aload_n 0, 1) := by decide +kernel
theorem dX5_shift_9 : decode cX5_shift 9 = .ok (.getfield 26, 3) := by decide +kernel
theorem dX5_shift_12 : decode cX5_shift 12 = .ok (.iload_n 1, 1) := by decide +kernel
theorem dX5_shift_13 : decode cX5_shift 13 = .ok (.invokevirtual 146, 3) := by decide +kernel
theorem dX5_shift_16 : decode cX5_shift 16 = .ok (.ireturn, 1) := by decide +kernel
set_option maxRecDepth 20000 in
theorem ggX5_scale_X5_requireBetween : GoodIn wsX5_scale wsX5_requireBetween := goodIn_ca (goodIn_r _ [6, 7, 8] (by decide +kernel) (by decide +kernel)) (goodIn_sub (fun _ h => List.mem_cons_of_mem _ (List.mem_append_left _ (List.mem_append_left _ (List.mem_append_right _ h)))) (by decide +kernel))
set_option maxRecDepth 20000 in
theorem gX5_scale_X5_requireBetween : GoodIn wsX5_scale (va_wsS RX5 41 yX5_requireBetween wsX5_requireBetween) := goodIn_app (goodIn_of _ (by decide +kernel)) ggX5_scale_X5_requireBetween
set_option maxRecDepth 20000 in
theorem ggX5_scale_X0_scaleBy : GoodIn wsX5_scale wsX0_scaleBy := goodIn_ca (goodIn_ca (goodIn_r _ [13, 14, 15, 16, 17, 18, 19, 20, 21, 22, 23, 24, 25, 26, 27, 28, 29, 30, 31, 32, 33, 34, 35, 36, 37, 38, 39, 40, 41, 42, 43, 44, 45, 46, 47, 48, 49, 50, 51, 52, 57, 58, 59, 60, 61] (by decide +kernel) (by decide +kernel)) (goodIn_sub (fun _ h => List.mem_cons_of_mem _ (List.mem_append_left _ (List.mem_append_right _ h))) (by decide +kernel))) (goodIn_sub (fun _ h => List.mem_cons_of_mem _ (List.mem_append_right _ h)) (by decide +kernel))
set_option maxRecDepth 20000 in
theorem gX5_scale_X0_scaleBy : GoodIn wsX5_scale (wsV RX5 149 RX0 yX0_scaleBy wsX0_scaleBy) := goodIn_app (goodIn_of _ (by decide +kernel)) ggX5_scale_X0_scaleBy
theorem dX5_scale_0 : decode cX5_scale 0 = .ok (.iconst 0, 1) := by decide +kernel
theorem dX5_scale_1 : decode cX5_scale 1 = .ok (.iload_n 1, 1) := by decide +kernel
theorem dX5_scale_2 : decode cX5_scale 2 = .ok (.sipush 255, 3) := by decide +kernel
theorem dX5_scale_5 : decode cX5_scale 5 = .ok (.invokestatic 41, 3) := by decide +kernel
theorem dX5_scale_8 : decode cX5_scale 8 = .ok (.aload_n 0, 1) := by decide +kernel
theorem dX5_scale_9 : decode cX5_scale 9 = .ok (.getfield 26, 3) := by decide +kernel
theorem dX5_scale_12 : decode cX5_scale 12 = .ok (.iload_n 1, 1) := by decide +kernel
theorem dX5_scale_13 : decode cX5_scale 13 = .ok (.aload_n 0, 1) := by decide +kernel
theorem dX5_scale_14 : decode cX5_scale 14 = .ok (.getfield 10, 3) := by decide +kernel
theorem dX5_scale_17 : decode cX5_scale 17 = .ok (.invokevirtual 149, 3) := by decide +kernel
theorem dX5_scale_20 : decode cX5_scale 20 = .ok (.ireturn, 1) := by decide +kernel
set_option maxRecDepth 20000 in
theorem ggX5_rank_X0_spread : GoodIn wsX5_rank wsX0_spread := goodIn_ca (goodIn_r _ [6, 7, 8, 9, 10, 11, 12, 13, 14, 15, 16, 17, 18, 19, 20, 21, 22, 23, 24, 25, 26, 27, 28, 29, 5, 30, 35, 36, 37] (by decide +kernel) (by decide +kernel)) (goodIn_sub (fun _ h => List.mem_cons_of_mem _ (List.mem_append_right _ h)) (by decide +kernel))
set_option maxRecDepth 20000 in
theorem gX5_rank_X0_spread : GoodIn wsX5_rank (wsV RX5 153 RX0 yX0_spread wsX0_spread) := goodIn_app (goodIn_of _ (by decide +kernel)) ggX5_rank_X0_spread
theorem dX5_rank_0 : decode cX5_rank 0 = .ok (.aload_n 0, 1) := by decide +kernel
theorem dX5_rank_1 : decode cX5_rank 1 = .ok (.getfield 26, 3) := by decide +kernel
theorem dX5_rank_4 : decode cX5_rank 4 = .ok (.invokevirtual 153, 3) := by decide +kernel
theorem dX5_rank_7 : decode cX5_rank 7 = .ok (.ireturn, 1) := by decide +kernel
set_option maxRecDepth 20000 in
theorem ggX5_isSpanned_X5_requireBetween : GoodIn wsX5_isSpanned wsX5_requireBetween := goodIn_ca (goodIn_r _ [5, 6, 7] (by decide +kernel) (by decide +kernel)) (goodIn_sub (fun _ h => List.mem_cons_of_mem _ (List.mem_append_left _ (List.mem_append_right _ h))) (by decide +kernel))
set_option maxRecDepth 20000 in
theorem gX5_isSpanned_X5_requireBetween : GoodIn wsX5_isSpanned (va_wsS RX5 41 yX5_requireBetween wsX5_requireBetween) := goodIn_app (goodIn_of _ (by decide +kernel)) ggX5_isSpanned_X5_requireBetween
set_option maxRecDepth 20000 in
theorem ggX5_isSpanned_X0_spans : GoodIn wsX5_isSpanned wsX0_spans := goodIn_ca (goodIn_r _ [12, 13, 14, 15, 16, 11, 17, 18, 19, 20, 21, 22, 23, 24, 25, 26, 27, 28, 29, 30, 31, 32, 33, 34, 35, 36, 37, 38, 39, 40, 45, 46, 47] (by decide +kernel) (by decide +kernel)) (goodIn_sub (fun _ h => List.mem_cons_of_mem _ (List.mem_append_right _ h)) (by decide +kernel))
set_option maxRecDepth 20000 in
theorem gX5_isSpanned_X0_spans : GoodIn wsX5_isSpanned (wsV RX5 156 RX0 yX0_spans wsX0_spans) := goodIn_app (goodIn_of _ (by decide +kernel)) ggX5_isSpanned_X0_spans
theorem dX5_isSpanned_0 : decode cX5_isSpanned 0 = .ok (.iconst 0, 1) := by decide +kernel
theorem dX5_isSpanned_1 : decode cX5_isSpanned 1 = .ok (.iload_n 1, 1) := by decide +kernel
theorem dX5_isSpanned_2 : decode cX5_isSpanned 2 = .ok (.sipush 255, 3) := by decide +kernel
theorem dX5_isSpanned_5 : decode cX5_isSpanned 5 = .ok (.invokestatic 41, 3) := by decide +kernel
theorem dX5_isSpanned_8 : decode cX5_isSpanned 8 = .ok (.aload_n 0, 1) := by decide +kernel
theorem dX5_isSpanned_9 : decode cX5_isSpanned 9 = .ok (.getfield 26, 3) := by decide +kernel
theorem dX5_isSpanned_12 : decode cX5_isSpanned 12 = .ok (.iload_n 1, 1) := by decide +kernel
theorem dX5_isSpanned_13 : decode cX5_isSpanned 13 = .ok (.invokevirtual 156, 3) := by decide +kernel
theorem dX5_isSpanned_16 : decode cX5_isSpanned 16 = .ok (.ireturn, 1) := by decide +kernel
set_option maxRecDepth 20000 in
theorem ggX5_close_X0_becomeSpan : GoodIn wsX5_close wsX0_becomeSpan := goodIn_ca (goodIn_r _ [6, 7, 8, 9, 10, 11, 5, 12, 13, 14, 15, 16, 17, 18, 19, 20, 21, 22, 23, 24, 25, 26, 27, 28, 29, 30, 31, 32, 33, 34, 35, 36, 37, 38, 39, 44, 45, 46] (by decide +kernel) (by decide +kernel)) (goodIn_sub (fun _ h => List.mem_cons_of_mem _ (List.mem_append_right _ h)) (by decide +kernel))
set_option maxRecDepth 20000 in
theorem gX5_close_X0_becomeSpan : GoodIn wsX5_close (wsV RX5 159 RX0 yX0_becomeSpan wsX0_becomeSpan) := goodIn_app (goodIn_of _ (by decide +kernel)) ggX5_close_X0_becomeSpan
theorem dX5_close_0 : decode cX5_close 0 = .ok (.aload_n 0, 1) := by decide +kernel
theorem dX5_close_1 : decode cX5_close 1 = .ok (.getfield 26, 3) := by decide +kernel
theorem dX5_close_4 : decode cX5_close 4 = .ok (.invokevirtual 159, 3) := by decide +kernel
theorem dX5_close_7 : decode cX5_close 7 = .ok (.ireturn, 1) := by decide +kernel
set_option maxRecDepth 20000 in
theorem ggX5_clear_X2_count : GoodIn wsX5_clear wsX2_count := goodIn_ca (goodIn_r _ [7, 8, 19] (by decide +kernel) (by decide +kernel)) (goodIn_sub (fun _ h => List.mem_cons_of_mem _ (List.mem_append_right _ h)) (by decide +kernel))
set_option maxRecDepth 20000 in
theorem gX5_clear_X2_count : GoodIn wsX5_clear (wsV RX5 132 RX2 yX2_count wsX2_count) := goodIn_app (goodIn_of _ (by decide +kernel)) ggX5_clear_X2_count
set_option maxRecDepth 20000 in
theorem ggX5_clear_X2_empty : GoodIn wsX5_clear wsX2_empty := goodIn_ca (goodIn_r _ [12, 8, 19] (by decide +kernel) (by decide +kernel)) (goodIn_sub (fun _ h => List.mem_cons_of_mem _ (List.mem_append_right _ h)) (by decide +kernel))
set_option maxRecDepth 20000 in
theorem gX5_clear_X2_empty : GoodIn wsX5_clear (wsV RX5 162 RX2 yX2_empty wsX2_empty) := goodIn_app (goodIn_of _ (by decide +kernel)) ggX5_clear_X2_empty
theorem dX5_clear_0 : decode cX5_clear 0 = .ok (.aload_n 0, 1) := by decide +kernel
theorem dX5_clear_1 : decode cX5_clear 1 = .ok (.getfield 26, 3) := by decide +kernel
theorem dX5_clear_4 : decode cX5_clear 4 = .ok (.getfield 117, 3) := by decide +kernel
theorem dX5_clear_7 : decode cX5_clear 7 = .ok (.invokevirtual 132, 3) := by decide +kernel
theorem dX5_clear_10 : decode cX5_clear 10 = .ok (.istore_n 1, 1) := by decide +kernel
theorem dX5_clear_11 : decode cX5_clear 11 = .ok (.aload_n 0, 1) := by decide +kernel
theorem dX5_clear_12 : decode cX5_clear 12 = .ok (.getfield 26, 3) := by decide +kernel
theorem dX5_clear_15 : decode cX5_clear 15 = .ok (.getfield 117, 3) := by decide +kernel
theorem dX5_clear_18 : decode cX5_clear 18 = .ok (.invokevirtual 162, 3) := by decide +kernel
theorem dX5_clear_21 : decode cX5_clear 21 = .ok (.iload_n 1, 1) := by decide +kernel
theorem dX5_clear_22 : decode cX5_clear 22 = .ok (.ireturn, 1) := by decide +kernel
set_option maxRecDepth 20000 in
theorem ggX5_turn_X5_requireOnBoard : GoodIn wsX5_turn wsX5_requireOnBoard := goodIn_ca (goodIn_r _ [5, 6, 7, 8, 9, 10, 11] (by decide +kernel) (by decide +kernel)) (goodIn_sub (fun _ h => List.mem_cons_of_mem _ (List.mem_append_right _ h)) (by decide +kernel))
set_option maxRecDepth 20000 in
theorem gX5_turn_X5_requireOnBoard : GoodIn wsX5_turn (va_wsS RX5 165 yX5_requireOnBoard wsX5_requireOnBoard) := goodIn_app (goodIn_of _ (by decide +kernel)) ggX5_turn_X5_requireOnBoard
set_option maxRecDepth 20000 in
theorem ggX5_turn_X1_turnCoin : GoodIn wsX5_turn wsX1_turnCoin := goodIn_r _ [15, 16, 17, 18, 10, 19, 28, 29] (by decide +kernel) (by decide +kernel)
set_option maxRecDepth 20000 in
theorem gX5_turn_X1_turnCoin : GoodIn wsX5_turn (wsV RX5 169 RX1 yX1_turnCoin wsX1_turnCoin) := goodIn_app (goodIn_of _ (by decide +kernel)) ggX5_turn_X1_turnCoin
set_option maxRecDepth 20000 in
theorem ggX5_turn_X1_isHeads : GoodIn wsX5_turn wsX1_isHeads := goodIn_r _ [23, 16, 17, 18, 10, 19, 28, 29] (by decide +kernel) (by decide +kernel)
set_option maxRecDepth 20000 in
theorem gX5_turn_X1_isHeads : GoodIn wsX5_turn (wsV RX5 172 RX1 yX1_isHeads wsX1_isHeads) := goodIn_app (goodIn_of _ (by decide +kernel)) ggX5_turn_X1_isHeads
theorem dX5_turn_0 : decode cX5_turn 0 = .ok (.iload_n 1, 1) := by decide +kernel
theorem dX5_turn_1 : decode cX5_turn 1 = .ok (.iload_n 2, 1) := by decide +kernel
theorem dX5_turn_2 : decode cX5_turn 2 = .ok (.invokestatic 165, 3) := by decide +kernel
theorem dX5_turn_5 : decode cX5_turn 5 = .ok (.aload_n 0, 1) := by decide +kernel
theorem dX5_turn_6 : decode cX5_turn 6 = .ok (.getfield 33, 3) := by decide +kernel
theorem dX5_turn_9 : decode cX5_turn 9 = .ok (.iload_n 1, 1) := by decide +kernel
theorem dX5_turn_10 : decode cX5_turn 10 = .ok (.iload_n 2, 1) := by decide +kernel
theorem dX5_turn_11 : decode cX5_turn 11 = .ok (.invokevirtual 169, 3) := by decide +kernel
theorem dX5_turn_14 : decode cX5_turn 14 = .ok (.aload_n 0, 1) := by decide +kernel
theorem dX5_turn_15 : decode cX5_turn 15 = .ok (.getfield 33, 3) := by decide +kernel
theorem dX5_turn_18 : decode cX5_turn 18 = .ok (.iload_n 1, 1) := by decide +kernel
theorem dX5_turn_19 : decode cX5_turn 19 = .ok (.iload_n 2, 1) := by decide +kernel
theorem dX5_turn_20 : decode cX5_turn 20 = .ok (.invokevirtual 172, 3) := by decide +kernel
theorem dX5_turn_23 : decode cX5_turn 23 = .ok (.ireturn, 1) := by decide +kernel
set_option maxRecDepth 20000 in
theorem ggX5_isUp_X5_requireOnBoard : GoodIn wsX5_isUp wsX5_requireOnBoard := goodIn_ca (goodIn_r _ [5, 6, 7, 8, 9, 10, 11] (by decide +kernel) (by decide +kernel)) (goodIn_sub (fun _ h => List.mem_cons_of_mem _ (List.mem_append_right _ h)) (by decide +kernel))
set_option maxRecDepth 20000 in
theorem gX5_isUp_X5_requireOnBoard : GoodIn wsX5_isUp (va_wsS RX5 165 yX5_requireOnBoard wsX5_requireOnBoard) := goodIn_app (goodIn_of _ (by decide +kernel)) ggX5_isUp_X5_requireOnBoard
set_option maxRecDepth 20000 in
theorem ggX5_isUp_X1_isHeads : GoodIn wsX5_isUp wsX1_isHeads := goodIn_r _ [15, 16, 17, 18, 10, 19, 24, 25] (by decide +kernel) (by decide +kernel)
set_option maxRecDepth 20000 in
theorem gX5_isUp_X1_isHeads : GoodIn wsX5_isUp (wsV RX5 172 RX1 yX1_isHeads wsX1_isHeads) := goodIn_app (goodIn_of _ (by decide +kernel)) ggX5_isUp_X1_isHeads
theorem dX5_isUp_0 : decode cX5_isUp 0 = .ok (.iload_n 1, 1) := by decide +kernel
theorem dX5_isUp_1 : decode cX5_isUp 1 = .ok (.iload_n 2, 1) := by decide +kernel
theorem dX5_isUp_2 : decode cX5_isUp 2 = .ok (.invokestatic 165, 3) := by decide +kernel
theorem dX5_isUp_5 : decode cX5_isUp 5 = .ok (.aload_n 0, 1) := by decide +kernel
theorem dX5_isUp_6 : decode cX5_isUp 6 = .ok (.getfield 33, 3) := by decide +kernel
theorem dX5_isUp_9 : decode cX5_isUp 9 = .ok (.iload_n 1, 1) := by decide +kernel
theorem dX5_isUp_10 : decode cX5_isUp 10 = .ok (.iload_n 2, 1) := by decide +kernel
theorem dX5_isUp_11 : decode cX5_isUp 11 = .ok (.invokevirtual 172, 3) := by decide +kernel
theorem dX5_isUp_14 : decode cX5_isUp 14 = .ok (.ireturn, 1) := by decide +kernel
set_option maxRecDepth 20000 in
theorem ggX5_worth_X1_worthByTrying : GoodIn wsX5_worth wsX1_worthByTrying := goodIn_ca (goodIn_ca (goodIn_r _ [7, 8, 9, 10, 11, 12, 13, 14, 15, 16, 17, 6, 18, 19, 20, 21, 22, 23, 24, 25, 26, 27, 28, 29, 30, 31, 32, 33, 34, 35, 36, 37, 38, 39, 40, 41, 42, 43, 44, 45, 46, 47, 48, 49, 50, 51, 52, 53, 54, 55, 60, 61, 62, 63, 64] (by decide +kernel) (by decide +kernel)) (goodIn_sub (fun _ h => List.mem_cons_of_mem _ (List.mem_append_left _ (List.mem_append_right _ h))) (by decide +kernel))) (goodIn_sub (fun _ h => List.mem_cons_of_mem _ (List.mem_append_right _ h)) (by decide +kernel))
set_option maxRecDepth 20000 in
theorem gX5_worth_X1_worthByTrying : GoodIn wsX5_worth (wsV RX5 176 RX1 yX1_worthByTrying wsX1_worthByTrying) := goodIn_app (goodIn_of _ (by decide +kernel)) ggX5_worth_X1_worthByTrying
theorem dX5_worth_0 : decode cX5_worth 0 = .ok (.aload_n 0, 1) := by decide +kernel
theorem dX5_worth_1 : decode cX5_worth 1 = .ok (.getfield 33, 3) := by decide +kernel
theorem dX5_worth_4 : decode cX5_worth 4 = .ok (.aload_n 0, 1) := by decide +kernel
theorem dX5_worth_5 : decode cX5_worth 5 = .ok (.getfield 10, 3) := by decide +kernel
theorem dX5_worth_8 : decode cX5_worth 8 = .ok (.invokevirtual 176, 3) := by decide +kernel
theorem dX5_worth_11 : decode cX5_worth 11 = .ok (.ireturn, 1) := by decide +kernel
set_option maxRecDepth 20000 in
theorem ggX5_plays_X1_countPlays : GoodIn wsX5_plays wsX1_countPlays := goodIn_r _ [6, 7, 8, 9, 5, 10, 11, 12, 13, 14, 15, 16, 17, 18, 23, 24] (by decide +kernel) (by decide +kernel)
set_option maxRecDepth 20000 in
theorem gX5_plays_X1_countPlays : GoodIn wsX5_plays (wsV RX5 180 RX1 yX1_countPlays wsX1_countPlays) := goodIn_app (goodIn_of _ (by decide +kernel)) ggX5_plays_X1_countPlays
theorem dX5_plays_0 : decode cX5_plays 0 = .ok (.aload_n 0, 1) := by decide +kernel
theorem dX5_plays_1 : decode cX5_plays 1 = .ok (.getfield 33, 3) := by decide +kernel
theorem dX5_plays_4 : decode cX5_plays 4 = .ok (.invokevirtual 180, 3) := by decide +kernel
theorem dX5_plays_7 : decode cX5_plays 7 = .ok (.ireturn, 1) := by decide +kernel
set_option maxRecDepth 20000 in
theorem ggX5_play_X5_requireOnBoard : GoodIn wsX5_play wsX5_requireOnBoard := goodIn_ca (goodIn_r _ [8, 9, 10, 11, 12, 13, 14] (by decide +kernel) (by decide +kernel)) (goodIn_sub (fun _ h => List.mem_cons_of_mem _ (List.mem_append_left _ (List.mem_append_left _ (List.mem_append_right _ h)))) (by decide +kernel))
set_option maxRecDepth 20000 in
theorem gX5_play_X5_requireOnBoard : GoodIn wsX5_play (va_wsS RX5 165 yX5_requireOnBoard wsX5_requireOnBoard) := goodIn_app (goodIn_of _ (by decide +kernel)) ggX5_play_X5_requireOnBoard
set_option maxRecDepth 20000 in
theorem ggX5_play_X1_codeOf : GoodIn wsX5_play wsX1_codeOf := goodIn_r _ [17] (by decide +kernel) (by decide +kernel)
set_option maxRecDepth 20000 in
theorem gX5_play_X1_codeOf : GoodIn wsX5_play (va_wsS RX5 183 yX1_codeOf wsX1_codeOf) := goodIn_app (goodIn_of _ (by decide +kernel)) ggX5_play_X1_codeOf
set_option maxRecDepth 20000 in
theorem ggX5_play_X1_isPlay : GoodIn wsX5_play wsX1_isPlay := goodIn_r _ [21, 22, 23, 24, 13, 25, 26, 27, 28, 29, 79, 80] (by decide +kernel) (by decide +kernel)
set_option maxRecDepth 20000 in
theorem gX5_play_X1_isPlay : GoodIn wsX5_play (wsV RX5 187 RX1 yX1_isPlay wsX1_isPlay) := goodIn_app (goodIn_of _ (by decide +kernel)) ggX5_play_X1_isPlay
set_option maxRecDepth 20000 in
theorem ggX5_play_X1_makePlay : GoodIn wsX5_play wsX1_makePlay := goodIn_r _ [33, 26, 34, 35, 36, 13, 37, 27, 28, 29, 79, 80] (by decide +kernel) (by decide +kernel)
set_option maxRecDepth 20000 in
theorem gX5_play_X1_makePlay : GoodIn wsX5_play (wsV RX5 195 RX1 yX1_makePlay wsX1_makePlay) := goodIn_app (goodIn_of _ (by decide +kernel)) ggX5_play_X1_makePlay
set_option maxRecDepth 20000 in
theorem ggX5_play_X1_worthByTrying : GoodIn wsX5_play wsX1_worthByTrying := goodIn_ca (goodIn_ca (goodIn_r _ [41, 42, 43, 44, 45, 46, 47, 48, 49, 19, 20, 13, 21, 22, 23, 24, 25, 26, 27, 28, 29, 34, 35, 36, 37, 50, 51, 52, 53, 54, 55, 56, 57, 58, 59, 60, 61, 62, 63, 64, 65, 66, 67, 68, 69, 70, 71, 72, 73, 74, 79, 80, 81, 82, 83] (by decide +kernel) (by decide +kernel)) (goodIn_sub (fun _ h => List.mem_cons_of_mem _ (List.mem_append_left _ (List.mem_append_right _ h))) (by decide +kernel))) (goodIn_sub (fun _ h => List.mem_cons_of_mem _ (List.mem_append_right _ h)) (by decide +kernel))
set_option maxRecDepth 20000 in
theorem gX5_play_X1_worthByTrying : GoodIn wsX5_play (wsV RX5 176 RX1 yX1_worthByTrying wsX1_worthByTrying) := goodIn_app (goodIn_of _ (by decide +kernel)) ggX5_play_X1_worthByTrying
theorem dX5_play_0 : decode cX5_play 0 = .ok (.iload_n 1, 1) := by decide +kernel
theorem dX5_play_1 : decode cX5_play 1 = .ok (.iload_n 2, 1) := by decide +kernel
theorem dX5_play_2 : decode cX5_play 2 = .ok (.invokestatic 165, 3) := by decide +kernel
theorem dX5_play_5 : decode cX5_play 5 = .ok (.iload_n 3, 1) := by decide +kernel
theorem dX5_play_6 : decode cX5_play 6 = .ok (.iload 4, 2) := by decide +kernel
theorem dX5_play_8 : decode cX5_play 8 = .ok (.invokestatic 165, 3) := by decide +kernel
theorem dX5_play_11 : decode cX5_play 11 = .ok (.iload_n 1, 1) := by decide +kernel
theorem dX5_play_12 : decode cX5_play 12 = .ok (.iload_n 2, 1) := by decide +kernel
theorem dX5_play_13 : decode cX5_play 13 = .ok (.iload_n 3, 1) := by decide +kernel
theorem dX5_play_14 : decode cX5_play 14 = .ok (.iload 4, 2) := by decide +kernel
theorem dX5_play_16 : decode cX5_play 16 = .ok (.invokestatic 183, 3) := by decide +kernel
theorem dX5_play_19 : decode cX5_play 19 = .ok (.istore 5, 2) := by decide +kernel
theorem dX5_play_21 : decode cX5_play 21 = .ok (.aload_n 0, 1) := by decide +kernel
theorem dX5_play_22 : decode cX5_play 22 = .ok (.getfield 33, 3) := by decide +kernel
theorem dX5_play_25 : decode cX5_play 25 = .ok (.iload 5, 2) := by decide +kernel
theorem dX5_play_27 : decode cX5_play 27 = .ok (.invokevirtual 187, 3) := by decide +kernel
theorem dX5_play_30 : decode cX5_play 30 = .ok (.ifCond .ne 13, 3) := by decide +kernel
theorem dX5_play_33 : decode cX5_play 33 = .ok (.new 190, 3) := by decide +kernel
theorem dX5_play_36 : decode cX5_play 36 = .ok (.dup, 1) := by decide +kernel
theorem dX5_play_37 : decode cX5_play 37 = .ok (.ldc 192, 2) := by decide +kernel
theorem dX5_play_39 : decode cX5_play 39 = .ok (.invokespecial 194, 3) := by decide +kernel
theorem dX5_play_42 : decode cX5_play 42 = .ok (.athrow, 1) := by decide +kernel
theorem dX5_play_43 : decode cX5_play 43 = .ok (.aload_n 0, 1) := by decide +kernel
theorem dX5_play_44 : decode cX5_play 44 = .ok (.getfield 33, 3) := by decide +kernel
theorem dX5_play_47 : decode cX5_play 47 = .ok (.iload 5, 2) := by decide +kernel
theorem dX5_play_49 : decode cX5_play 49 = .ok (.invokevirtual 195, 3) := by decide +kernel
theorem dX5_play_52 : decode cX5_play 52 = .ok (.aload_n 0, 1) := by decide +kernel
theorem dX5_play_53 : decode cX5_play 53 = .ok (.getfield 33, 3) := by decide +kernel
theorem dX5_play_56 : decode cX5_play 56 = .ok (.aload_n 0, 1) := by decide +kernel
theorem dX5_play_57 : decode cX5_play 57 = .ok (.getfield 10, 3) := by decide +kernel
theorem dX5_play_60 : decode cX5_play 60 = .ok (.invokevirtual 176, 3) := by decide +kernel
theorem dX5_play_63 : decode cX5_play 63 = .ok (.ireturn, 1) := by decide +kernel
set_option maxRecDepth 20000 in
theorem ggX5_best_X1_bestPlay : GoodIn wsX5_best wsX1_bestPlay := goodIn_ca (goodIn_ca (goodIn_r _ [7, 8, 9, 10, 6, 11, 12, 13, 14, 15, 16, 17, 18, 19, 20, 21, 22, 23, 24, 25, 26, 27, 28, 29, 30, 31, 32, 33, 34, 35, 36, 41, 42, 43, 44] (by decide +kernel) (by decide +kernel)) (goodIn_sub (fun _ h => List.mem_cons_of_mem _ (List.mem_append_left _ (List.mem_append_right _ h))) (by decide +kernel))) (goodIn_sub (fun _ h => List.mem_cons_of_mem _ (List.mem_append_right _ h)) (by decide +kernel))
set_option maxRecDepth 20000 in
theorem gX5_best_X1_bestPlay : GoodIn wsX5_best (wsV RX5 198 RX1 yX1_bestPlay wsX1_bestPlay) := goodIn_app (goodIn_of _ (by decide +kernel)) ggX5_best_X1_bestPlay
theorem dX5_best_0 : decode cX5_best 0 = .ok (.aload_n 0, 1) := by decide +kernel
theorem dX5_best_1 : decode cX5_best 1 = .ok (.getfield 33, 3) := by decide +kernel
theorem dX5_best_4 : decode cX5_best 4 = .ok (.aload_n 0, 1) := by decide +kernel
theorem dX5_best_5 : decode cX5_best 5 = .ok (.getfield 10, 3) := by decide +kernel
theorem dX5_best_8 : decode cX5_best 8 = .ok (.invokevirtual 198, 3) := by decide +kernel
theorem dX5_best_11 : decode cX5_best 11 = .ok (.ireturn, 1) := by decide +kernel
set_option maxRecDepth 20000 in
theorem ggX5_answer_X1_bestPlay : GoodIn wsX5_answer wsX1_bestPlay := goodIn_ca (goodIn_ca (goodIn_r _ [7, 8, 9, 10, 6, 11, 12, 13, 14, 15, 16, 17, 18, 19, 20, 21, 22, 23, 24, 25, 26, 27, 28, 29, 30, 31, 32, 33, 34, 35, 36, 45, 46, 47, 48] (by decide +kernel) (by decide +kernel)) (goodIn_sub (fun _ h => List.mem_cons_of_mem _ (List.mem_append_left _ (List.mem_append_right _ h))) (by decide +kernel))) (goodIn_sub (fun _ h => List.mem_cons_of_mem _ (List.mem_append_right _ h)) (by decide +kernel))
set_option maxRecDepth 20000 in
theorem gX5_answer_X1_bestPlay : GoodIn wsX5_answer (wsV RX5 198 RX1 yX1_bestPlay wsX1_bestPlay) := goodIn_app (goodIn_of _ (by decide +kernel)) ggX5_answer_X1_bestPlay
set_option maxRecDepth 20000 in
theorem ggX5_answer_X1_makePlay : GoodIn wsX5_answer wsX1_makePlay := goodIn_r _ [40, 16, 20, 21, 22, 6, 23, 17, 18, 19, 45, 46] (by decide +kernel) (by decide +kernel)
set_option maxRecDepth 20000 in
theorem gX5_answer_X1_makePlay : GoodIn wsX5_answer (wsV RX5 195 RX1 yX1_makePlay wsX1_makePlay) := goodIn_app (goodIn_of _ (by decide +kernel)) ggX5_answer_X1_makePlay
theorem dX5_answer_0 : decode cX5_answer 0 = .ok (.aload_n 0, 1) := by decide +kernel
theorem dX5_answer_1 : decode cX5_answer 1 = .ok (.getfield 33, 3) := by decide +kernel
theorem dX5_answer_4 : decode cX5_answer 4 = .ok (.aload_n 0, 1) := by decide +kernel
theorem dX5_answer_5 : decode cX5_answer 5 = .ok (.getfield 10, 3) := by decide +kernel
theorem dX5_answer_8 : decode cX5_answer 8 = .ok (.invokevirtual 198, 3) := by decide +kernel
theorem dX5_answer_11 : decode cX5_answer 11 = .ok (.istore_n 1, 1) := by decide +kernel
theorem dX5_answer_12 : decode cX5_answer 12 = .ok (.iload_n 1, 1) := by decide +kernel
theorem dX5_answer_13 : decode cX5_answer 13 = .ok (.iconst (-1), 1) := by decide +kernel
theorem dX5_answer_14 : decode cX5_answer 14 = .ok (.if_icmp .eq 11, 3) := by decide +kernel
theorem dX5_answer_17 : decode cX5_answer 17 = .ok (.aload_n 0, 1) := by decide +kernel
theorem dX5_answer_18 : decode cX5_answer 18 = .ok (.getfield 33, 3) := by decide +kernel
theorem dX5_answer_21 : decode cX5_answer 21 = .ok (.iload_n 1, 1) := by decide +kernel
theorem dX5_answer_22 : decode cX5_answer 22 = .ok (.invokevirtual 195, 3) := by decide +kernel
theorem dX5_answer_25 : decode cX5_answer 25 = .ok (.iload_n 1, 1) := by decide +kernel
theorem dX5_answer_26 : decode cX5_answer 26 = .ok (.ireturn, 1) := by decide +kernel
set_option maxRecDepth 20000 in
theorem ggX5_sweep_X1_turnAllTails : GoodIn wsX5_sweep wsX1_turnAllTails := goodIn_r _ [6, 7, 8, 9, 10, 11, 12, 13, 14, 19, 20] (by decide +kernel) (by decide +kernel)
set_option maxRecDepth 20000 in
theorem gX5_sweep_X1_turnAllTails : GoodIn wsX5_sweep (wsV RX5 201 RX1 yX1_turnAllTails wsX1_turnAllTails) := goodIn_app (goodIn_of _ (by decide +kernel)) ggX5_sweep_X1_turnAllTails
theorem dX5_sweep_0 : decode cX5_sweep 0 = .ok (.aload_n 0, 1) := by decide +kernel
theorem dX5_sweep_1 : decode cX5_sweep 1 = .ok (.getfield 33, 3) := by decide +kernel
theorem dX5_sweep_4 : decode cX5_sweep 4 = .ok (.invokevirtual 201, 3) := by decide +kernel
theorem dX5_sweep_7 : decode cX5_sweep 7 = .ok (.ireturn, 1) := by decide +kernel
set_option maxRecDepth 20000 in
theorem ggX5_share_X2_count : GoodIn wsX5_share wsX2_count := goodIn_ca (goodIn_r _ [8, 9, 16] (by decide +kernel) (by decide +kernel)) (goodIn_sub (fun _ h => List.mem_cons_of_mem _ (List.mem_append_right _ h)) (by decide +kernel))
set_option maxRecDepth 20000 in
theorem gX5_share_X2_count : GoodIn wsX5_share (wsV RX5 132 RX2 yX2_count wsX2_count) := goodIn_app (goodIn_of _ (by decide +kernel)) ggX5_share_X2_count
theorem dX5_share_0 : decode cX5_share 0 = .ok (.aload_n 0, 1) := by decide +kernel
theorem dX5_share_1 : decode cX5_share 1 = .ok (.getfield 26, 3) := by decide +kernel
theorem dX5_share_4 : decode cX5_share 4 = .ok (.getfield 117, 3) := by decide +kernel
theorem dX5_share_7 : decode cX5_share 7 = .ok (.invokevirtual 132, 3) := by decide +kernel
theorem dX5_share_10 : decode cX5_share 10 = .ok (.i2f, 1) := by decide +kernel
theorem dX5_share_11 : decode cX5_share 11 = .ok (.ldc 204, 2) := by decide +kernel
theorem dX5_share_13 : decode cX5_share 13 = .ok (.fdiv, 1) := by decide +kernel
theorem dX5_share_14 : decode cX5_share 14 = .ok (.freturn, 1) := by decide +kernel
set_option maxRecDepth 20000 in
theorem ggX5_mean_X4_total : GoodIn wsX5_mean wsX4_total := goodIn_ca (goodIn_r _ [7, 8, 13, 14, 15, 16, 17] (by decide +kernel) (by decide +kernel)) (goodIn_sub (fun _ h => List.mem_cons_of_mem _ (List.mem_append_right _ h)) (by decide +kernel))
set_option maxRecDepth 20000 in
theorem gX5_mean_X4_total : GoodIn wsX5_mean (wsV RX5 205 RX4 yX4_total wsX4_total) := goodIn_app (goodIn_of _ (by decide +kernel)) ggX5_mean_X4_total
theorem dX5_mean_0 : decode cX5_mean 0 = .ok (.aload_n 0, 1) := by decide +kernel
theorem dX5_mean_1 : decode cX5_mean 1 = .ok (.getfield 19, 3) := by decide +kernel
theorem dX5_mean_4 : decode cX5_mean 4 = .ok (.invokevirtual 205, 3) := by decide +kernel
theorem dX5_mean_7 : decode cX5_mean 7 = .ok (.i2d, 1) := by decide +kernel
theorem dX5_mean_8 : decode cX5_mean 8 = .ok (.ldc2_w 208, 3) := by decide +kernel
theorem dX5_mean_11 : decode cX5_mean 11 = .ok (.ddiv, 1) := by decide +kernel
theorem dX5_mean_12 : decode cX5_mean 12 = .ok (.dreturn, 1) := by decide +kernel
set_option maxRecDepth 20000 in
theorem ggX5_isSound_X4_numberOf : GoodIn wsX5_isSound wsX4_numberOf := goodIn_ca (goodIn_ca (goodIn_r _ [7, 8, 9, 10, 11, 6, 12, 13, 14, 96, 97, 98, 99, 100] (by decide +kernel) (by decide +kernel)) (goodIn_sub (fun _ h => List.mem_cons_of_mem _ (List.mem_append_left _ (List.mem_append_left _ (List.mem_append_right _ h)))) (by decide +kernel))) (goodIn_sub (fun _ h => List.mem_cons_of_mem _ (List.mem_append_left _ (List.mem_append_right _ h))) (by decide +kernel))
set_option maxRecDepth 20000 in
theorem gX5_isSound_X4_numberOf : GoodIn wsX5_isSound (wsV RX5 37 RX4 yX4_numberOf wsX4_numberOf) := goodIn_app (goodIn_of _ (by decide +kernel)) ggX5_isSound_X4_numberOf
set_option maxRecDepth 20000 in
theorem ggX5_isSound_X3_areTriesSound : GoodIn wsX5_isSound wsX3_areTriesSound := goodIn_ca (goodIn_ca (goodIn_r _ [19, 20, 21, 22, 18, 23, 24, 25, 26, 27, 28, 29, 30, 31, 32, 33, 34, 35, 36, 37, 38, 39, 40, 41, 42, 43, 44, 45, 46, 47, 48, 49, 50, 51, 52, 53, 54, 55, 101, 102, 103] (by decide +kernel) (by decide +kernel)) (goodIn_sub (fun _ h => List.mem_cons_of_mem _ (List.mem_append_left _ (List.mem_append_left _ (List.mem_append_right _ h)))) (by decide +kernel))) (goodIn_sub (fun _ h => List.mem_cons_of_mem _ (List.mem_append_right _ h)) (by decide +kernel))
set_option maxRecDepth 20000 in
theorem gX5_isSound_X3_areTriesSound : GoodIn wsX5_isSound (wsV RX5 210 RX3 yX3_areTriesSound wsX3_areTriesSound) := goodIn_app (goodIn_of _ (by decide +kernel)) ggX5_isSound_X3_areTriesSound
set_option maxRecDepth 20000 in
theorem ggX5_isSound_X3_areProductsSound : GoodIn wsX5_isSound wsX3_areProductsSound := goodIn_ca (goodIn_ca (goodIn_r _ [59, 47, 48, 49, 18, 50, 51, 52, 53, 54, 55, 101, 102] (by decide +kernel) (by decide +kernel)) (goodIn_sub (fun _ h => List.mem_cons_of_mem _ (List.mem_append_right _ h)) (by decide +kernel))) (goodIn_sub (fun _ h => List.mem_cons_of_mem _ (List.mem_append_left _ (List.mem_append_left _ (List.mem_append_right _ h)))) (by decide +kernel))
set_option maxRecDepth 20000 in
theorem gX5_isSound_X3_areProductsSound : GoodIn wsX5_isSound (wsV RX5 213 RX3 yX3_areProductsSound wsX3_areProductsSound) := goodIn_app (goodIn_of _ (by decide +kernel)) ggX5_isSound_X3_areProductsSound
set_option maxRecDepth 20000 in
theorem ggX5_isSound_X3_areSquaresSound : GoodIn wsX5_isSound wsX3_areSquaresSound := goodIn_ca (goodIn_ca (goodIn_r _ [63, 64, 65, 66, 18, 67, 47, 48, 49, 50, 51, 52, 53, 54, 55, 68, 69, 70, 71, 72, 73, 74, 75, 101, 102] (by decide +kernel) (by decide +kernel)) (goodIn_sub (fun _ h => List.mem_cons_of_mem _ (List.mem_append_right _ h)) (by decide +kernel))) (goodIn_sub (fun _ h => List.mem_cons_of_mem _ (List.mem_append_left _ (List.mem_append_left _ (List.mem_append_right _ h)))) (by decide +kernel))
set_option maxRecDepth 20000 in
theorem gX5_isSound_X3_areSquaresSound : GoodIn wsX5_isSound (wsV RX5 216 RX3 yX3_areSquaresSound wsX3_areSquaresSound) := goodIn_app (goodIn_of _ (by decide +kernel)) ggX5_isSound_X3_areSquaresSound
set_option maxRecDepth 20000 in
theorem ggX5_isSound_X3_isQuotientSound : GoodIn wsX5_isSound wsX3_isQuotientSound := goodIn_ca (goodIn_ca (goodIn_r _ [79, 80, 81, 82, 18, 83, 72, 73, 74, 75, 47, 48, 49, 50, 51, 52, 53, 54, 55, 64, 65, 66, 67, 101, 102] (by decide +kernel) (by decide +kernel)) (goodIn_sub (fun _ h => List.mem_cons_of_mem _ (List.mem_append_right _ h)) (by decide +kernel))) (goodIn_sub (fun _ h => List.mem_cons_of_mem _ (List.mem_append_left _ (List.mem_append_left _ (List.mem_append_right _ h)))) (by decide +kernel))
set_option maxRecDepth 20000 in
theorem gX5_isSound_X3_isQuotientSound : GoodIn wsX5_isSound (wsV RX5 219 RX3 yX3_isQuotientSound wsX3_isQuotientSound) := goodIn_app (goodIn_of _ (by decide +kernel)) ggX5_isSound_X3_isQuotientSound
set_option maxRecDepth 20000 in
theorem ggX5_isSound_X3_areTracesSound : GoodIn wsX5_isSound wsX3_areTracesSound := goodIn_ca (goodIn_ca (goodIn_r _ [87, 88, 89, 90, 18, 91, 64, 65, 66, 67, 47, 48, 49, 50, 51, 52, 53, 54, 55, 101, 102] (by decide +kernel) (by decide +kernel)) (goodIn_sub (fun _ h => List.mem_cons_of_mem _ (List.mem_append_right _ h)) (by decide +kernel))) (goodIn_sub (fun _ h => List.mem_cons_of_mem _ (List.mem_append_left _ (List.mem_append_left _ (List.mem_append_right _ h)))) (by decide +kernel))
set_option maxRecDepth 20000 in
theorem gX5_isSound_X3_areTracesSound : GoodIn wsX5_isSound (wsV RX5 222 RX3 yX3_areTracesSound wsX3_areTracesSound) := goodIn_app (goodIn_of _ (by decide +kernel)) ggX5_isSound_X3_areTracesSound
theorem dX5_isSound_0 : decode cX5_isSound 0 = .ok (.aload_n 0, 1) := by decide +kernel
theorem dX5_isSound_1 : decode cX5_isSound 1 = .ok (.getfield 19, 3) := by decide +kernel
theorem dX5_isSound_4 : decode cX5_isSound 4 = .ok (.iload_n 1, 1) := by decide +kernel
theorem dX5_isSound_5 : decode cX5_isSound 5 = .ok (.invokevirtual 37, 3) := by decide +kernel
theorem dX5_isSound_8 : decode cX5_isSound 8 = .ok (.istore_n 3, 1) := by decide +kernel
theorem dX5_isSound_9 : decode cX5_isSound 9 = .ok (.aload_n 0, 1) := by decide +kernel
theorem dX5_isSound_10 : decode cX5_isSound 10 = .ok (.getfield 19, 3) := by decide +kernel
theorem dX5_isSound_13 : decode cX5_isSound 13 = .ok (.iload_n 2, 1) := by decide +kernel
theorem dX5_isSound_14 : decode cX5_isSound 14 = .ok (.invokevirtual 37, 3) := by decide +kernel
theorem dX5_isSound_17 : decode cX5_isSound 17 = .ok (.istore 4, 2) := by decide +kernel
theorem dX5_isSound_19 : decode cX5_isSound 19 = .ok (.aload_n 0, 1) := by decide +kernel
theorem dX5_isSound_20 : decode cX5_isSound 20 = .ok (.getfield 10, 3) := by decide +kernel
theorem dX5_isSound_23 : decode cX5_isSound 23 = .ok (.iload_n 3, 1) := by decide +kernel
theorem dX5_isSound_24 : decode cX5_isSound 24 = .ok (.iload 4, 2) := by decide +kernel
theorem dX5_isSound_26 : decode cX5_isSound 26 = .ok (.invokevirtual 210, 3) := by decide +kernel
theorem dX5_isSound_29 : decode cX5_isSound 29 = .ok (.ifCond .eq 59, 3) := by decide +kernel
theorem dX5_isSound_32 : decode cX5_isSound 32 = .ok (.aload_n 0, 1) := by decide +kernel
theorem dX5_isSound_33 : decode cX5_isSound 33 = .ok (.getfield 10, 3) := by decide +kernel
theorem dX5_isSound_36 : decode cX5_isSound 36 = .ok (.iload_n 3, 1) := by decide +kernel
theorem dX5_isSound_37 : decode cX5_isSound 37 = .ok (.iload 4, 2) := by decide +kernel
theorem dX5_isSound_39 : decode cX5_isSound 39 = .ok (.invokevirtual 213, 3) := by decide +kernel
theorem dX5_isSound_42 : decode cX5_isSound 42 = .ok (.ifCond .eq 46, 3) := by decide +kernel
theorem dX5_isSound_45 : decode cX5_isSound 45 = .ok (.aload_n 0, 1) := by decide +kernel
theorem dX5_isSound_46 : decode cX5_isSound 46 = .ok (.getfield 10, 3) := by decide +kernel
theorem dX5_isSound_49 : decode cX5_isSound 49 = .ok (.iload_n 3, 1) := by decide +kernel
theorem dX5_isSound_50 : decode cX5_isSound 50 = .ok (.iload 4, 2) := by decide +kernel
theorem dX5_isSound_52 : decode cX5_isSound 52 = .ok (.invokevirtual 216, 3) := by decide +kernel
theorem dX5_isSound_55 : decode cX5_isSound 55 = .ok (.ifCond .eq 33, 3) := by decide +kernel
theorem dX5_isSound_58 : decode cX5_isSound 58 = .ok (.aload_n 0, 1) := by decide +kernel
theorem dX5_isSound_59 : decode cX5_isSound 59 = .ok (.getfield 10, 3) := by decide +kernel
theorem dX5_isSound_62 : decode cX5_isSound 62 = .ok (.iload_n 3, 1) := by decide +kernel
theorem dX5_isSound_63 : decode cX5_isSound 63 = .ok (.iload 4, 2) := by decide +kernel
theorem dX5_isSound_65 : decode cX5_isSound 65 = .ok (.invokevirtual 219, 3) := by decide +kernel
theorem dX5_isSound_68 : decode cX5_isSound 68 = .ok (.ifCond .eq 20, 3) := by decide +kernel
theorem dX5_isSound_71 : decode cX5_isSound 71 = .ok (.aload_n 0, 1) := by decide +kernel
theorem dX5_isSound_72 : decode cX5_isSound 72 = .ok (.getfield 10, 3) := by decide +kernel
theorem dX5_isSound_75 : decode cX5_isSound 75 = .ok (.iload_n 3, 1) := by decide +kernel
theorem dX5_isSound_76 : decode cX5_isSound 76 = .ok (.iload 4, 2) := by decide +kernel
theorem dX5_isSound_78 : decode cX5_isSound 78 = .ok (.invokevirtual 222, 3) := by decide +kernel
theorem dX5_isSound_81 : decode cX5_isSound 81 = .ok (.ifCond .eq 7, 3) := by decide +kernel
theorem dX5_isSound_84 : decode cX5_isSound 84 = .ok (.iconst 1, 1) := by decide +kernel
theorem dX5_isSound_85 : decode cX5_isSound 85 = .ok (.goto 4, 3) := by decide +kernel
theorem dX5_isSound_88 : decode cX5_isSound 88 = .ok (.iconst 0, 1) := by decide +kernel
theorem dX5_isSound_89 : decode cX5_isSound 89 = .ok (.ireturn, 1) := by decide +kernel
set_option maxRecDepth 20000 in
theorem ggX5_checksum_X4_numbersMixedInto : GoodIn wsX5_checksum wsX4_numbersMixedInto := goodIn_ca (goodIn_r _ [9, 10, 11, 12, 13, 14, 51, 52, 53, 54, 55] (by decide +kernel) (by decide +kernel)) (goodIn_sub (fun _ h => List.mem_cons_of_mem _ (List.mem_append_right _ h)) (by decide +kernel))
set_option maxRecDepth 20000 in
theorem gX5_checksum_X4_numbersMixedInto : GoodIn wsX5_checksum (wsV RX5 227 RX4 yX4_numbersMixedInto wsX4_numbersMixedInto) := goodIn_app (goodIn_of _ (by decide +kernel)) ggX5_checksum_X4_numbersMixedInto
set_option maxRecDepth 20000 in
theorem ggX5_checksum_X0_mixedInto : GoodIn wsX5_checksum wsX0_mixedInto := goodIn_ca (goodIn_r _ [19, 20, 21, 22, 23, 24, 25, 26, 11, 12, 13, 14, 27, 28, 29, 30, 31, 32, 33, 34, 56, 57, 58] (by decide +kernel) (by decide +kernel)) (goodIn_sub (fun _ h => List.mem_cons_of_mem _ (List.mem_append_right _ h)) (by decide +kernel))
set_option maxRecDepth 20000 in
theorem gX5_checksum_X0_mixedInto : GoodIn wsX5_checksum (wsV RX5 231 RX0 yX0_mixedInto wsX0_mixedInto) := goodIn_app (goodIn_of _ (by decide +kernel)) ggX5_checksum_X0_mixedInto
set_option maxRecDepth 20000 in
theorem ggX5_checksum_X1_mixedInto : GoodIn wsX5_checksum wsX1_mixedInto := goodIn_r _ [39, 40, 11, 12, 13, 14, 59, 60] (by decide +kernel) (by decide +kernel)
set_option maxRecDepth 20000 in
theorem gX5_checksum_X1_mixedInto : GoodIn wsX5_checksum (wsV RX5 234 RX1 yX1_mixedInto wsX1_mixedInto) := goodIn_app (goodIn_of _ (by decide +kernel)) ggX5_checksum_X1_mixedInto
set_option maxRecDepth 20000 in
theorem ggX5_checksum_X4_countKept : GoodIn wsX5_checksum wsX4_countKept := goodIn_r _ [44, 45, 51, 52, 53, 54, 55] (by decide +kernel) (by decide +kernel)
set_option maxRecDepth 20000 in
theorem gX5_checksum_X4_countKept : GoodIn wsX5_checksum (wsV RX5 235 RX4 yX4_countKept wsX4_countKept) := goodIn_app (goodIn_of _ (by decide +kernel)) ggX5_checksum_X4_countKept
set_option maxRecDepth 20000 in
theorem ggX5_checksum_X5_mixed : GoodIn wsX5_checksum wsX5_mixed := goodIn_r _ [13, 14] (by decide +kernel) (by decide +kernel)
set_option maxRecDepth 20000 in
theorem gX5_checksum_X5_mixed : GoodIn wsX5_checksum (va_wsS RX5 238 yX5_mixed wsX5_mixed) := goodIn_app (goodIn_of _ (by decide +kernel)) ggX5_checksum_X5_mixed
theorem dX5_checksum_0 : decode cX5_checksum 0 = .ok (.aload_n 0, 1) := by decide +kernel
theorem dX5_checksum_1 : decode cX5_checksum 1 = .ok (.getfield 19, 3) := by decide +kernel
theorem dX5_checksum_4 : decode cX5_checksum 4 = .ok (.ldc2_w 225, 3) := by decide +kernel
theorem dX5_checksum_7 : decode cX5_checksum 7 = .ok (.invokevirtual 227, 3) := by decide +kernel
theorem dX5_checksum_10 : decode cX5_checksum 10 = .ok (.lstore_n 1, 1) := by decide +kernel
theorem dX5_checksum_11 : decode cX5_checksum 11 = .ok (.aload_n 0, 1) := by decide +kernel
theorem dX5_checksum_12 : decode cX5_checksum 12 = .ok (.getfield 26, 3) := by decide +kernel
theorem dX5_checksum_15 : decode cX5_checksum 15 = .ok (.lload_n 1, 1) := by decide +kernel
theorem dX5_checksum_16 : decode cX5_checksum 16 = .ok (.invokevirtual 231, 3) := by decide +kernel
theorem dX5_checksum_19 : decode cX5_checksum 19 = .ok (.lstore_n 1, 1) := by decide +kernel
theorem dX5_checksum_20 : decode cX5_checksum 20 = .ok (.aload_n 0, 1) := by decide +kernel
theorem dX5_checksum_21 : decode cX5_checksum 21 = .ok (.getfield 33, 3) := by decide +kernel
theorem dX5_checksum_24 : decode cX5_checksum 24 = .ok (.lload_n 1, 1) := by decide +kernel
theorem dX5_checksum_25 : decode cX5_checksum 25 = .ok (.invokevirtual 234, 3) := by decide +kernel
theorem dX5_checksum_28 : decode cX5_checksum 28 = .ok (.lstore_n 1, 1) := by decide +kernel
theorem dX5_checksum_29 : decode cX5_checksum 29 = .ok (.lload_n 1, 1) := by decide +kernel
theorem dX5_checksum_30 : decode cX5_checksum 30 = .ok (.aload_n 0, 1) := by decide +kernel
theorem dX5_checksum_31 : decode cX5_checksum 31 = .ok (.getfield 19, 3) := by decide +kernel
theorem dX5_checksum_34 : decode cX5_checksum 34 = .ok (.invokevirtual 235, 3) := by decide +kernel
theorem dX5_checksum_37 : decode cX5_checksum 37 = .ok (.invokestatic 238, 3) := by decide +kernel
theorem dX5_checksum_40 : decode cX5_checksum 40 = .ok (.lreturn, 1) := by decide +kernel
theorem dX5_mixed_0 : decode cX5_mixed 0 = .ok (.ldc2_w 242, 3) := by decide +kernel
theorem dX5_mixed_3 : decode cX5_mixed 3 = .ok (.lload_n 0, 1) := by decide +kernel
theorem dX5_mixed_4 : decode cX5_mixed 4 = .ok (.lmul, 1) := by decide +kernel
theorem dX5_mixed_5 : decode cX5_mixed 5 = .ok (.iload_n 2, 1) := by decide +kernel
theorem dX5_mixed_6 : decode cX5_mixed 6 = .ok (.i2l, 1) := by decide +kernel
theorem dX5_mixed_7 : decode cX5_mixed 7 = .ok (.ladd, 1) := by decide +kernel
theorem dX5_mixed_8 : decode cX5_mixed 8 = .ok (.lreturn, 1) := by decide +kernel
theorem dX5_requireBetween_0 : decode cX5_requireBetween 0 = .ok (.iload_n 1, 1) := by decide +kernel
theorem dX5_requireBetween_1 : decode cX5_requireBetween 1 = .ok (.iload_n 0, 1) := by decide +kernel
theorem dX5_requireBetween_2 : decode cX5_requireBetween 2 = .ok (.if_icmp .lt 8, 3) := by decide +kernel
theorem dX5_requireBetween_5 : decode cX5_requireBetween 5 = .ok (.iload_n 1, 1) := by decide +kernel
theorem dX5_requireBetween_6 : decode cX5_requireBetween 6 = .ok (.iload_n 2, 1) := by decide +kernel
theorem dX5_requireBetween_7 : decode cX5_requireBetween 7 = .ok (.if_icmp .le 13, 3) := by decide +kernel
theorem dX5_requireBetween_10 : decode cX5_requireBetween 10 = .ok (.new 66, 3) := by decide +kernel
theorem dX5_requireBetween_13 : decode cX5_requireBetween 13 = .ok (.dup, 1) := by decide +kernel
theorem dX5_requireBetween_14 : decode cX5_requireBetween 14 = .ok (.ldc 244, 2) := by decide +kernel
theorem dX5_requireBetween_16 : decode cX5_requireBetween 16 = .ok (.invokespecial 70, 3) := by decide +kernel
theorem dX5_requireBetween_19 : decode cX5_requireBetween 19 = .ok (.athrow, 1) := by decide +kernel
theorem dX5_requireBetween_20 : decode cX5_requireBetween 20 = .ok (.return_, 1) := by decide +kernel
set_option maxRecDepth 20000 in
theorem ggX5_requireOnBoard_X1_isPlace : GoodIn wsX5_requireOnBoard wsX1_isPlace := goodIn_r _ [6] (by decide +kernel) (by decide +kernel)
set_option maxRecDepth 20000 in
theorem gX5_requireOnBoard_X1_isPlace : GoodIn wsX5_requireOnBoard (va_wsS RX5 246 yX1_isPlace wsX1_isPlace) := goodIn_app (goodIn_of _ (by decide +kernel)) ggX5_requireOnBoard_X1_isPlace
theorem dX5_requireOnBoard_0 : decode cX5_requireOnBoard 0 = .ok (.iload_n 0, 1) := by decide +kernel
theorem dX5_requireOnBoard_1 : decode cX5_requireOnBoard 1 = .ok (.iload_n 1, 1) := by decide +kernel
theorem dX5_requireOnBoard_2 : decode cX5_requireOnBoard 2 = .ok (.invokestatic 246, 3) := by decide +kernel
theorem dX5_requireOnBoard_5 : decode cX5_requireOnBoard 5 = .ok (.ifCond .ne 13, 3) := by decide +kernel
theorem dX5_requireOnBoard_8 : decode cX5_requireOnBoard 8 = .ok (.new 138, 3) := by decide +kernel
theorem dX5_requireOnBoard_11 : decode cX5_requireOnBoard 11 = .ok (.dup, 1) := by decide +kernel
theorem dX5_requireOnBoard_12 : decode cX5_requireOnBoard 12 = .ok (.ldc 249, 2) := by decide +kernel
theorem dX5_requireOnBoard_14 : decode cX5_requireOnBoard 14 = .ok (.invokespecial 142, 3) := by decide +kernel
theorem dX5_requireOnBoard_17 : decode cX5_requireOnBoard 17 = .ok (.athrow, 1) := by decide +kernel
theorem dX5_requireOnBoard_18 : decode cX5_requireOnBoard 18 = .ok (.return_, 1) := by decide +kernel
