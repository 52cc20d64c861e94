theorem inJx145de : ∀ w ∈ wsJx145de0, w ∈ lw_tbl := by decide +kernel
theorem inJx00060 : ∀ w ∈ wsJx000600, w ∈ lw_tbl := by decide +kernel
theorem inJ6 : ∀ w ∈ wsJ60, w ∈ lw_tbl := by decide +kernel
theorem inJ9 : ∀ w ∈ wsJ90, w ∈ lw_tbl := by decide +kernel
theorem inJ0 : ∀ w ∈ wsJ00, w ∈ lw_tbl := by decide +kernel
set_option maxRecDepth 20000 in
theorem ggX0_init_X2_init : GoodIn wsX0_init wsX2_init := goodIn_r _ [10, 11, 2, 3, 12, 13, 14] (by decide +kernel) (by decide +kernel)
set_option maxRecDepth 20000 in
theorem gX0_init_X2_init_n11 : GoodIn wsX0_init (wsX2_init) := ggX0_init_X2_init
theorem dX0_init_0 : decode cX0_init 0 = .ok (.aload_n 0, 1) := by decide +kernel
theorem dX0_init_1 : decode cX0_init 1 = .ok (.invokespecial 3, 3) := by decide +kernel
theorem dX0_init_4 : decode cX0_init 4 = .ok (.aload_n 0, 1) := by decide +kernel
theorem dX0_init_5 : decode cX0_init 5 = .ok (.new 9, 3) := by decide +kernel
theorem dX0_init_8 : decode cX0_init 8 = .ok (.dup, 1) := by decide +kernel
theorem dX0_init_9 : decode cX0_init 9 = .ok (.invokespecial 11, 3) := by decide +kernel
theorem dX0_init_12 : decode cX0_init 12 = .ok (.putfield 12, 3) := by decide +kernel
theorem dX0_init_15 : decode cX0_init 15 = .ok (.aload_n 0, 1) := by decide +kernel
theorem dX0_init_16 : decode cX0_init 16 = .ok (.new 9, 3) := by decide +kernel
theorem dX0_init_19 : decode cX0_init 19 = .ok (.dup, 1) := by decide +kernel
theorem dX0_init_20 : decode cX0_init 20 = .ok (.invokespecial 11, 3) := by decide +kernel
theorem dX0_init_23 : decode cX0_init 23 = .ok (.putfield 18, 3) := by decide +kernel
theorem dX0_init_26 : decode cX0_init 26 = .ok (.return_, 1) := by decide +kernel
set_option maxRecDepth 20000 in
theorem ggX0_shiftBy_X2_empty : GoodIn wsX0_shiftBy wsX2_empty := goodIn_ca (goodIn_r _ [7, 8, 28] (by decide +kernel) (by decide +kernel)) (goodIn_sub (fun _ h => List.mem_cons_of_mem _ (List.mem_append_right _ h)) (by decide +kernel))
set_option maxRecDepth 20000 in
theorem gX0_shiftBy_X2_empty : GoodIn wsX0_shiftBy (wsV RX0 21 RX2 yX2_empty wsX2_empty) := goodIn_app (goodIn_of _ (by decide +kernel)) ggX0_shiftBy_X2_empty
set_option maxRecDepth 20000 in
theorem ggX0_shiftBy_X2_contains : GoodIn wsX0_shiftBy wsX2_contains := goodIn_ca (goodIn_r _ [12, 8, 13, 14, 15, 6, 16, 28] (by decide +kernel) (by decide +kernel)) (goodIn_sub (fun _ h => List.mem_cons_of_mem _ (List.mem_append_right _ h)) (by decide +kernel))
set_option maxRecDepth 20000 in
theorem gX0_shiftBy_X2_contains : GoodIn wsX0_shiftBy (wsV RX0 24 RX2 yX2_contains wsX2_contains) := goodIn_app (goodIn_of _ (by decide +kernel)) ggX0_shiftBy_X2_contains
set_option maxRecDepth 20000 in
theorem ggX0_shiftBy_X2_add : GoodIn wsX0_shiftBy wsX2_add := goodIn_ca (goodIn_r _ [20, 8, 13, 14, 15, 6, 16, 28] (by decide +kernel) (by decide +kernel)) (goodIn_sub (fun _ h => List.mem_cons_of_mem _ (List.mem_append_right _ h)) (by decide +kernel))
set_option maxRecDepth 20000 in
theorem gX0_shiftBy_X2_add : GoodIn wsX0_shiftBy (wsV RX0 28 RX2 yX2_add wsX2_add) := goodIn_app (goodIn_of _ (by decide +kernel)) ggX0_shiftBy_X2_add
set_option maxRecDepth 20000 in
theorem ggX0_shiftBy_X2_become : GoodIn wsX0_shiftBy wsX2_become := goodIn_ca (goodIn_r _ [24, 8, 25, 10, 11, 6, 12, 13, 14, 15, 16, 28] (by decide +kernel) (by decide +kernel)) (goodIn_sub (fun _ h => List.mem_cons_of_mem _ (List.mem_append_right _ h)) (by decide +kernel))
set_option maxRecDepth 20000 in
theorem gX0_shiftBy_X2_become : GoodIn wsX0_shiftBy (wsV RX0 31 RX2 yX2_become wsX2_become) := goodIn_app (goodIn_of _ (by decide +kernel)) ggX0_shiftBy_X2_become
theorem dX0_shiftBy_0 : decode cX0_shiftBy 0 = .ok (.aload_n 0, 1) := by decide +kernel
theorem dX0_shiftBy_1 : decode cX0_shiftBy 1 = .ok (.getfield 18, 3) := by decide +kernel
theorem dX0_shiftBy_4 : decode cX0_shiftBy 4 = .ok (.invokevirtual 21, 3) := by decide +kernel
theorem dX0_shiftBy_7 : decode cX0_shiftBy 7 = .ok (.iconst 0, 1) := by decide +kernel
theorem dX0_shiftBy_8 : decode cX0_shiftBy 8 = .ok (.istore_n 2, 1) := by decide +kernel
theorem dX0_shiftBy_9 : decode cX0_shiftBy 9 = .ok (.iload_n 2, 1) := by decide +kernel
theorem dX0_shiftBy_10 : decode cX0_shiftBy 10 = .ok (.sipush 256, 3) := by decide +kernel
theorem dX0_shiftBy_13 : decode cX0_shiftBy 13 = .ok (.if_icmp .ge 31, 3) := by decide +kernel
theorem dX0_shiftBy_16 : decode cX0_shiftBy 16 = .ok (.aload_n 0, 1) := by decide +kernel
theorem dX0_shiftBy_17 : decode cX0_shiftBy 17 = .ok (.getfield 12, 3) := by decide +kernel
theorem dX0_shiftBy_20 : decode cX0_shiftBy 20 = .ok (.iload_n 2, 1) := by decide +kernel
theorem dX0_shiftBy_21 : decode cX0_shiftBy 21 = .ok (.invokevirtual 24, 3) := by decide +kernel
theorem dX0_shiftBy_24 : decode cX0_shiftBy 24 = .ok (.ifCond .eq 14, 3) := by decide +kernel
theorem dX0_shiftBy_27 : decode cX0_shiftBy 27 = .ok (.aload_n 0, 1) := by decide +kernel
theorem dX0_shiftBy_28 : decode cX0_shiftBy 28 = .ok (.getfield 18, 3) := by decide +kernel
theorem dX0_shiftBy_31 : decode cX0_shiftBy 31 = .ok (.iload_n 2, 1) := by decide +kernel
theorem dX0_shiftBy_32 : decode cX0_shiftBy 32 = .ok (.iload_n 1, 1) := by decide +kernel
theorem dX0_shiftBy_33 : decode cX0_shiftBy 33 = .ok (.ixor, 1) := by decide +kernel
theorem dX0_shiftBy_34 : decode cX0_shiftBy 34 = .ok (.invokevirtual 28, 3) := by decide +kernel
theorem dX0_shiftBy_37 : decode cX0_shiftBy 37 = .ok (.pop, 1) := by decide +kernel
theorem dX0_shiftBy_38 : decode cX0_shiftBy 38 = .ok (.iinc 2 1, 3) := by decide +kernel
theorem dX0_shiftBy_41 : decode cX0_shiftBy 41 = .ok (.goto (-32), 3) := by decide +kernel
theorem dX0_shiftBy_44 : decode cX0_shiftBy 44 = .ok (.aload_n 0, 1) := by decide +kernel
theorem dX0_shiftBy_45 : decode cX0_shiftBy 45 = .ok (.getfield 12, 3) := by decide +kernel
theorem dX0_shiftBy_48 : decode cX0_shiftBy 48 = .ok (.aload_n 0, 1) := by decide +kernel
theorem dX0_shiftBy_49 : decode cX0_shiftBy 49 = .ok (.getfield 18, 3) := by decide +kernel
theorem dX0_shiftBy_52 : decode cX0_shiftBy 52 = .ok (.invokevirtual 31, 3) := by decide +kernel
theorem dX0_shiftBy_55 : decode cX0_shiftBy 55 = .ok (.ireturn, 1) := by decide +kernel
set_option maxRecDepth 20000 in
theorem ggX0_scaleBy_X2_empty : GoodIn wsX0_scaleBy wsX2_empty := goodIn_ca (goodIn_r _ [7, 8, 42] (by decide +kernel) (by decide +kernel)) (goodIn_sub (fun _ h => List.mem_cons_of_mem _ (List.mem_append_left _ (List.mem_append_right _ h))) (by decide +kernel))
set_option maxRecDepth 20000 in
theorem gX0_scaleBy_X2_empty : GoodIn wsX0_scaleBy (wsV RX0 21 RX2 yX2_empty wsX2_empty) := goodIn_app (goodIn_of _ (by decide +kernel)) ggX0_scaleBy_X2_empty
set_option maxRecDepth 20000 in
theorem ggX0_scaleBy_X2_contains : GoodIn wsX0_scaleBy wsX2_contains := goodIn_ca (goodIn_r _ [12, 8, 13, 14, 15, 6, 16, 42] (by decide +kernel) (by decide +kernel)) (goodIn_sub (fun _ h => List.mem_cons_of_mem _ (List.mem_append_left _ (List.mem_append_right _ h))) (by decide +kernel))
set_option maxRecDepth 20000 in
theorem gX0_scaleBy_X2_contains : GoodIn wsX0_scaleBy (wsV RX0 24 RX2 yX2_contains wsX2_contains) := goodIn_app (goodIn_of _ (by decide +kernel)) ggX0_scaleBy_X2_contains
set_option maxRecDepth 20000 in
theorem ggX0_scaleBy_X3_productOf : GoodIn wsX0_scaleBy wsX3_productOf := goodIn_ca (goodIn_ca (goodIn_r _ [21, 22, 23, 24, 20, 25, 26, 43, 44] (by decide +kernel) (by decide +kernel)) (goodIn_sub (fun _ h => List.mem_cons_of_mem _ (List.mem_append_right _ h)) (by decide +kernel))) (goodIn_sub (fun _ h => List.mem_cons_of_mem _ (List.mem_append_left _ (List.mem_append_right _ h))) (by decide +kernel))
set_option maxRecDepth 20000 in
theorem gX0_scaleBy_X3_productOf : GoodIn wsX0_scaleBy (wsV RX0 35 RX3 yX3_productOf wsX3_productOf) := goodIn_app (goodIn_of _ (by decide +kernel)) ggX0_scaleBy_X3_productOf
set_option maxRecDepth 20000 in
theorem ggX0_scaleBy_X2_add : GoodIn wsX0_scaleBy wsX2_add := goodIn_ca (goodIn_r _ [30, 8, 13, 14, 15, 6, 16, 42] (by decide +kernel) (by decide +kernel)) (goodIn_sub (fun _ h => List.mem_cons_of_mem _ (List.mem_append_left _ (List.mem_append_right _ h))) (by decide +kernel))
set_option maxRecDepth 20000 in
theorem gX0_scaleBy_X2_add : GoodIn wsX0_scaleBy (wsV RX0 28 RX2 yX2_add wsX2_add) := goodIn_app (goodIn_of _ (by decide +kernel)) ggX0_scaleBy_X2_add
set_option maxRecDepth 20000 in
theorem ggX0_scaleBy_X2_become : GoodIn wsX0_scaleBy wsX2_become := goodIn_ca (goodIn_r _ [34, 8, 35, 10, 11, 6, 12, 13, 14, 15, 16, 42] (by decide +kernel) (by decide +kernel)) (goodIn_sub (fun _ h => List.mem_cons_of_mem _ (List.mem_append_left _ (List.mem_append_right _ h))) (by decide +kernel))
set_option maxRecDepth 20000 in
theorem gX0_scaleBy_X2_become : GoodIn wsX0_scaleBy (wsV RX0 31 RX2 yX2_become wsX2_become) := goodIn_app (goodIn_of _ (by decide +kernel)) ggX0_scaleBy_X2_become
set_option maxRecDepth 20000 in
theorem ggX0_scaleBy_X2_count : GoodIn wsX0_scaleBy wsX2_count := goodIn_ca (goodIn_r _ [39, 8, 42] (by decide +kernel) (by decide +kernel)) (goodIn_sub (fun _ h => List.mem_cons_of_mem _ (List.mem_append_left _ (List.mem_append_right _ h))) (by decide +kernel))
set_option maxRecDepth 20000 in
theorem gX0_scaleBy_X2_count : GoodIn wsX0_scaleBy (wsV RX0 41 RX2 yX2_count wsX2_count) := goodIn_app (goodIn_of _ (by decide +kernel)) ggX0_scaleBy_X2_count
theorem dX0_scaleBy_0 : decode cX0_scaleBy 0 = .ok (.aload_n 0, 1) := by decide +kernel
theorem dX0_scaleBy_1 : decode cX0_scaleBy 1 = .ok (.getfield 18, 3) := by decide +kernel
theorem dX0_scaleBy_4 : decode cX0_scaleBy 4 = .ok (.invokevirtual 21, 3) := by decide +kernel
theorem dX0_scaleBy_7 : decode cX0_scaleBy 7 = .ok (.iconst 0, 1) := by decide +kernel
theorem dX0_scaleBy_8 : decode cX0_scaleBy 8 = .ok (.istore_n 3, 1) := by decide +kernel
theorem dX0_scaleBy_9 : decode cX0_scaleBy 9 = .ok (.iload_n 3, 1) := by decide +kernel
theorem dX0_scaleBy_10 : decode cX0_scaleBy 10 = .ok (.sipush 256, 3) := by decide +kernel
theorem dX0_scaleBy_13 : decode cX0_scaleBy 13 = .ok (.if_icmp .ge 34, 3) := by decide +kernel
theorem dX0_scaleBy_16 : decode cX0_scaleBy 16 = .ok (.aload_n 0, 1) := by decide +kernel
theorem dX0_scaleBy_17 : decode cX0_scaleBy 17 = .ok (.getfield 12, 3) := by decide +kernel
theorem dX0_scaleBy_20 : decode cX0_scaleBy 20 = .ok (.iload_n 3, 1) := by decide +kernel
theorem dX0_scaleBy_21 : decode cX0_scaleBy 21 = .ok (.invokevirtual 24, 3) := by decide +kernel
theorem dX0_scaleBy_24 : decode cX0_scaleBy 24 = .ok (.ifCond .eq 17, 3) := by decide +kernel
theorem dX0_scaleBy_27 : decode cX0_scaleBy 27 = .ok (.aload_n 0, 1) := by decide +kernel
theorem dX0_scaleBy_28 : decode cX0_scaleBy 28 = .ok (.getfield 18, 3) := by decide +kernel
theorem dX0_scaleBy_31 : decode cX0_scaleBy 31 = .ok (.aload_n 2, 1) := by decide +kernel
theorem dX0_scaleBy_32 : decode cX0_scaleBy 32 = .ok (.iload_n 3, 1) := by decide +kernel
theorem dX0_scaleBy_33 : decode cX0_scaleBy 33 = .ok (.iload_n 1, 1) := by decide +kernel
theorem dX0_scaleBy_34 : decode cX0_scaleBy 34 = .ok (.invokevirtual 35, 3) := by decide +kernel
theorem dX0_scaleBy_37 : decode cX0_scaleBy 37 = .ok (.invokevirtual 28, 3) := by decide +kernel
theorem dX0_scaleBy_40 : decode cX0_scaleBy 40 = .ok (.pop, 1) := by decide +kernel
theorem dX0_scaleBy_41 : decode cX0_scaleBy 41 = .ok (.iinc 3 1, 3) := by decide +kernel
theorem dX0_scaleBy_44 : decode cX0_scaleBy 44 = .ok (.goto (-35), 3) := by decide +kernel
theorem dX0_scaleBy_47 : decode cX0_scaleBy 47 = .ok (.aload_n 0, 1) := by decide +kernel
theorem dX0_scaleBy_48 : decode cX0_scaleBy 48 = .ok (.getfield 12, 3) := by decide +kernel
theorem dX0_scaleBy_51 : decode cX0_scaleBy 51 = .ok (.aload_n 0, 1) := by decide +kernel
theorem dX0_scaleBy_52 : decode cX0_scaleBy 52 = .ok (.getfield 18, 3) := by decide +kernel
theorem dX0_scaleBy_55 : decode cX0_scaleBy 55 = .ok (.invokevirtual 31, 3) := by decide +kernel
theorem dX0_scaleBy_58 : decode cX0_scaleBy 58 = .ok (.pop, 1) := by decide +kernel
theorem dX0_scaleBy_59 : decode cX0_scaleBy 59 = .ok (.aload_n 0, 1) := by decide +kernel
theorem dX0_scaleBy_60 : decode cX0_scaleBy 60 = .ok (.getfield 12, 3) := by decide +kernel
theorem dX0_scaleBy_63 : decode cX0_scaleBy 63 = .ok (.invokevirtual 41, 3) := by decide +kernel
theorem dX0_scaleBy_66 : decode cX0_scaleBy 66 = .ok (.ireturn, 1) := by decide +kernel
set_option maxRecDepth 20000 in
theorem ggX0_spread_X2_empty : GoodIn wsX0_spread wsX2_empty := goodIn_ca (goodIn_r _ [7, 8, 28] (by decide +kernel) (by decide +kernel)) (goodIn_sub (fun _ h => List.mem_cons_of_mem _ (List.mem_append_right _ h)) (by decide +kernel))
set_option maxRecDepth 20000 in
theorem gX0_spread_X2_empty : GoodIn wsX0_spread (wsV RX0 21 RX2 yX2_empty wsX2_empty) := goodIn_app (goodIn_of _ (by decide +kernel)) ggX0_spread_X2_empty
set_option maxRecDepth 20000 in
theorem ggX0_spread_X2_add : GoodIn wsX0_spread wsX2_add := goodIn_ca (goodIn_r _ [12, 8, 13, 14, 15, 6, 16, 28] (by decide +kernel) (by decide +kernel)) (goodIn_sub (fun _ h => List.mem_cons_of_mem _ (List.mem_append_right _ h)) (by decide +kernel))
set_option maxRecDepth 20000 in
theorem gX0_spread_X2_add : GoodIn wsX0_spread (wsV RX0 28 RX2 yX2_add wsX2_add) := goodIn_app (goodIn_of _ (by decide +kernel)) ggX0_spread_X2_add
set_option maxRecDepth 20000 in
theorem ggX0_spread_X2_contains : GoodIn wsX0_spread wsX2_contains := goodIn_ca (goodIn_r _ [20, 8, 13, 14, 15, 6, 16, 28] (by decide +kernel) (by decide +kernel)) (goodIn_sub (fun _ h => List.mem_cons_of_mem _ (List.mem_append_right _ h)) (by decide +kernel))
set_option maxRecDepth 20000 in
theorem gX0_spread_X2_contains : GoodIn wsX0_spread (wsV RX0 24 RX2 yX2_contains wsX2_contains) := goodIn_app (goodIn_of _ (by decide +kernel)) ggX0_spread_X2_contains
set_option maxRecDepth 20000 in
theorem ggX0_spread_X0_widenSpanBy : GoodIn wsX0_spread wsX0_widenSpanBy := goodIn_ca (goodIn_r _ [25, 1, 17, 18, 19, 6, 20, 8, 13, 14, 15, 16, 9, 10, 11, 12, 26, 27, 28] (by decide +kernel) (by decide +kernel)) (goodIn_sub (fun _ h => List.mem_cons_of_mem _ (List.mem_append_right _ h)) (by decide +kernel))
set_option maxRecDepth 20000 in
theorem gX0_spread_X0_widenSpanBy : GoodIn wsX0_spread (wsV RX0 45 RX0 yX0_widenSpanBy wsX0_widenSpanBy) := goodIn_app (goodIn_of _ (by decide +kernel)) ggX0_spread_X0_widenSpanBy
theorem dX0_spread_0 : decode cX0_spread 0 = .ok (.iconst 0, 1) := by decide +kernel
theorem dX0_spread_1 : decode cX0_spread 1 = .ok (.istore_n 1, 1) := by decide +kernel
theorem dX0_spread_2 : decode cX0_spread 2 = .ok (.aload_n 0, 1) := by decide +kernel
theorem dX0_spread_3 : decode cX0_spread 3 = .ok (.getfield 18, 3) := by decide +kernel
theorem dX0_spread_6 : decode cX0_spread 6 = .ok (.invokevirtual 21, 3) := by decide +kernel
theorem dX0_spread_9 : decode cX0_spread 9 = .ok (.aload_n 0, 1) := by decide +kernel
theorem dX0_spread_10 : decode cX0_spread 10 = .ok (.getfield 18, 3) := by decide +kernel
theorem dX0_spread_13 : decode cX0_spread 13 = .ok (.iconst 0, 1) := by decide +kernel
theorem dX0_spread_14 : decode cX0_spread 14 = .ok (.invokevirtual 28, 3) := by decide +kernel
theorem dX0_spread_17 : decode cX0_spread 17 = .ok (.pop, 1) := by decide +kernel
theorem dX0_spread_18 : decode cX0_spread 18 = .ok (.iconst 0, 1) := by decide +kernel
theorem dX0_spread_19 : decode cX0_spread 19 = .ok (.istore_n 2, 1) := by decide +kernel
theorem dX0_spread_20 : decode cX0_spread 20 = .ok (.iload_n 2, 1) := by decide +kernel
theorem dX0_spread_21 : decode cX0_spread 21 = .ok (.sipush 256, 3) := by decide +kernel
theorem dX0_spread_24 : decode cX0_spread 24 = .ok (.if_icmp .ge 39, 3) := by decide +kernel
theorem dX0_spread_27 : decode cX0_spread 27 = .ok (.aload_n 0, 1) := by decide +kernel
theorem dX0_spread_28 : decode cX0_spread 28 = .ok (.getfield 12, 3) := by decide +kernel
theorem dX0_spread_31 : decode cX0_spread 31 = .ok (.iload_n 2, 1) := by decide +kernel
theorem dX0_spread_32 : decode cX0_spread 32 = .ok (.invokevirtual 24, 3) := by decide +kernel
theorem dX0_spread_35 : decode cX0_spread 35 = .ok (.ifCond .eq 22, 3) := by decide +kernel
theorem dX0_spread_38 : decode cX0_spread 38 = .ok (.aload_n 0, 1) := by decide +kernel
theorem dX0_spread_39 : decode cX0_spread 39 = .ok (.getfield 18, 3) := by decide +kernel
theorem dX0_spread_42 : decode cX0_spread 42 = .ok (.iload_n 2, 1) := by decide +kernel
theorem dX0_spread_43 : decode cX0_spread 43 = .ok (.invokevirtual 24, 3) := by decide +kernel
theorem dX0_spread_46 : decode cX0_spread 46 = .ok (.ifCond .ne 11, 3) := by decide +kernel
theorem dX0_spread_49 : decode cX0_spread 49 = .ok (.iinc 1 1, 3) := by decide +kernel
theorem dX0_spread_52 : decode cX0_spread 52 = .ok (.aload_n 0, 1) := by decide +kernel
theorem dX0_spread_53 : decode cX0_spread 53 = .ok (.iload_n 2, 1) := by decide +kernel
theorem dX0_spread_54 : decode cX0_spread 54 = .ok (.invokevirtual 45, 3) := by decide +kernel
theorem dX0_spread_57 : decode cX0_spread 57 = .ok (.iinc 2 1, 3) := by decide +kernel
theorem dX0_spread_60 : decode cX0_spread 60 = .ok (.goto (-40), 3) := by decide +kernel
theorem dX0_spread_63 : decode cX0_spread 63 = .ok (.iload_n 1, 1) := by decide +kernel
theorem dX0_spread_64 : decode cX0_spread 64 = .ok (.ireturn, 1) := by decide +kernel
set_option maxRecDepth 20000 in
theorem ggX0_widenSpanBy_X2_contains : GoodIn wsX0_widenSpanBy wsX2_contains := goodIn_ca (goodIn_r _ [6, 7, 8, 9, 10, 5, 11, 18] (by decide +kernel) (by decide +kernel)) (goodIn_sub (fun _ h => List.mem_cons_of_mem _ (List.mem_append_right _ h)) (by decide +kernel))
set_option maxRecDepth 20000 in
theorem gX0_widenSpanBy_X2_contains : GoodIn wsX0_widenSpanBy (wsV RX0 24 RX2 yX2_contains wsX2_contains) := goodIn_app (goodIn_of _ (by decide +kernel)) ggX0_widenSpanBy_X2_contains
set_option maxRecDepth 20000 in
theorem ggX0_widenSpanBy_X2_add : GoodIn wsX0_widenSpanBy wsX2_add := goodIn_ca (goodIn_r _ [15, 7, 8, 9, 10, 5, 11, 18] (by decide +kernel) (by decide +kernel)) (goodIn_sub (fun _ h => List.mem_cons_of_mem _ (List.mem_append_right _ h)) (by decide +kernel))
set_option maxRecDepth 20000 in
theorem gX0_widenSpanBy_X2_add : GoodIn wsX0_widenSpanBy (wsV RX0 28 RX2 yX2_add wsX2_add) := goodIn_app (goodIn_of _ (by decide +kernel)) ggX0_widenSpanBy_X2_add
theorem dX0_widenSpanBy_0 : decode cX0_widenSpanBy 0 = .ok (.iconst 0, 1) := by decide +kernel
theorem dX0_widenSpanBy_1 : decode cX0_widenSpanBy 1 = .ok (.istore_n 2, 1) := by decide +kernel
theorem dX0_widenSpanBy_2 : decode cX0_widenSpanBy 2 = .ok (.iload_n 2, 1) := by decide +kernel
theorem dX0_widenSpanBy_3 : decode cX0_widenSpanBy 3 = .ok (.sipush 256, 3) := by decide +kernel
theorem dX0_widenSpanBy_6 : decode cX0_widenSpanBy 6 = .ok (.if_icmp .ge 31, 3) := by decide +kernel
theorem dX0_widenSpanBy_9 : decode cX0_widenSpanBy 9 = .ok (.aload_n 0, 1) := by decide +kernel
theorem dX0_widenSpanBy_10 : decode cX0_widenSpanBy 10 = .ok (.getfield 18, 3) := by decide +kernel
theorem dX0_widenSpanBy_13 : decode cX0_widenSpanBy 13 = .ok (.iload_n 2, 1) := by decide +kernel
theorem dX0_widenSpanBy_14 : decode cX0_widenSpanBy 14 = .ok (.invokevirtual 24, 3) := by decide +kernel
theorem dX0_widenSpanBy_17 : decode cX0_widenSpanBy 17 = .ok (.ifCond .eq 14, 3) := by decide +kernel
theorem dX0_widenSpanBy_20 : decode cX0_widenSpanBy 20 = .ok (.aload_n 0, 1) := by decide +kernel
theorem dX0_widenSpanBy_21 : decode cX0_widenSpanBy 21 = .ok (.getfield 18, 3) := by decide +kernel
theorem dX0_widenSpanBy_24 : decode cX0_widenSpanBy 24 = .ok (.iload_n 2, 1) := by decide +kernel
theorem dX0_widenSpanBy_25 : decode cX0_widenSpanBy 25 = .ok (.iload_n 1, 1) := by decide +kernel
theorem dX0_widenSpanBy_26 : decode cX0_widenSpanBy 26 = .ok (.ixor, 1) := by decide +kernel
theorem dX0_widenSpanBy_27 : decode cX0_widenSpanBy 27 = .ok (.invokevirtual 28, 3) := by decide +kernel
theorem dX0_widenSpanBy_30 : decode cX0_widenSpanBy 30 = .ok (.pop, 1) := by decide +kernel
theorem dX0_widenSpanBy_31 : decode cX0_widenSpanBy 31 = .ok (.iinc 2 1, 3) := by decide +kernel
theorem dX0_widenSpanBy_34 : decode cX0_widenSpanBy 34 = .ok (.goto (-32), 3) := by decide +kernel
theorem dX0_widenSpanBy_37 : decode cX0_widenSpanBy 37 = .ok (.return_, 1) := by decide +kernel
set_option maxRecDepth 20000 in
theorem ggX0_spans_X0_spread : GoodIn wsX0_spans wsX0_spread := goodIn_ca (goodIn_r _ [6, 1, 7, 8, 9, 10, 11, 12, 13, 14, 15, 16, 17, 18, 19, 20, 21, 22, 23, 24, 25, 26, 27, 28, 5, 29, 30, 31, 32] (by decide +kernel) (by decide +kernel)) (goodIn_sub (fun _ h => List.mem_cons_of_mem _ (List.mem_append_right _ h)) (by decide +kernel))
set_option maxRecDepth 20000 in
theorem gX0_spans_X0_spread : GoodIn wsX0_spans (wsV RX0 49 RX0 yX0_spread wsX0_spread) := goodIn_app (goodIn_of _ (by decide +kernel)) ggX0_spans_X0_spread
set_option maxRecDepth 20000 in
theorem ggX0_spans_X2_contains : GoodIn wsX0_spans wsX2_contains := goodIn_ca (goodIn_r _ [25, 13, 18, 19, 20, 11, 21, 32] (by decide +kernel) (by decide +kernel)) (goodIn_sub (fun _ h => List.mem_cons_of_mem _ (List.mem_append_right _ h)) (by decide +kernel))
set_option maxRecDepth 20000 in
theorem gX0_spans_X2_contains : GoodIn wsX0_spans (wsV RX0 24 RX2 yX2_contains wsX2_contains) := goodIn_app (goodIn_of _ (by decide +kernel)) ggX0_spans_X2_contains
theorem dX0_spans_0 : decode cX0_spans 0 = .ok (.aload_n 0, 1) := by decide +kernel
theorem dX0_spans_1 : decode cX0_spans 1 = .ok (.invokevirtual 49, 3) := by decide +kernel
theorem dX0_spans_4 : decode cX0_spans 4 = .ok (.pop, 1) := by decide +kernel
theorem dX0_spans_5 : decode cX0_spans 5 = .ok (.aload_n 0, 1) := by decide +kernel
theorem dX0_spans_6 : decode cX0_spans 6 = .ok (.getfield 18, 3) := by decide +kernel
theorem dX0_spans_9 : decode cX0_spans 9 = .ok (.iload_n 1, 1) := by decide +kernel
theorem dX0_spans_10 : decode cX0_spans 10 = .ok (.invokevirtual 24, 3) := by decide +kernel
theorem dX0_spans_13 : decode cX0_spans 13 = .ok (.ireturn, 1) := by decide +kernel
set_option maxRecDepth 20000 in
theorem ggX0_becomeSpan_X0_spread : GoodIn wsX0_becomeSpan wsX0_spread := goodIn_ca (goodIn_r _ [7, 2, 1, 8, 9, 10, 11, 12, 13, 14, 15, 16, 17, 18, 19, 20, 21, 22, 23, 24, 25, 26, 27, 28, 6, 29, 35, 36, 37] (by decide +kernel) (by decide +kernel)) (goodIn_sub (fun _ h => List.mem_cons_of_mem _ (List.mem_append_right _ h)) (by decide +kernel))
set_option maxRecDepth 20000 in
theorem gX0_becomeSpan_X0_spread : GoodIn wsX0_becomeSpan (wsV RX0 49 RX0 yX0_spread wsX0_spread) := goodIn_app (goodIn_of _ (by decide +kernel)) ggX0_becomeSpan_X0_spread
set_option maxRecDepth 20000 in
theorem ggX0_becomeSpan_X2_become : GoodIn wsX0_becomeSpan wsX2_become := goodIn_ca (goodIn_r _ [33, 13, 34, 23, 24, 11, 25, 18, 19, 20, 21, 37] (by decide +kernel) (by decide +kernel)) (goodIn_sub (fun _ h => List.mem_cons_of_mem _ (List.mem_append_right _ h)) (by decide +kernel))
set_option maxRecDepth 20000 in
theorem gX0_becomeSpan_X2_become : GoodIn wsX0_becomeSpan (wsV RX0 31 RX2 yX2_become wsX2_become) := goodIn_app (goodIn_of _ (by decide +kernel)) ggX0_becomeSpan_X2_become
theorem dX0_becomeSpan_0 : decode cX0_becomeSpan 0 = .ok (.aload_n 0, 1) := by decide +kernel
theorem dX0_becomeSpan_1 : decode cX0_becomeSpan 1 = .ok (.invokevirtual 49, 3) := by decide +kernel
theorem dX0_becomeSpan_4 : decode cX0_becomeSpan 4 = .ok (.pop, 1) := by decide +kernel
theorem dX0_becomeSpan_5 : decode cX0_becomeSpan 5 = .ok (.aload_n 0, 1) := by decide +kernel
theorem dX0_becomeSpan_6 : decode cX0_becomeSpan 6 = .ok (.getfield 12, 3) := by decide +kernel
theorem dX0_becomeSpan_9 : decode cX0_becomeSpan 9 = .ok (.aload_n 0, 1) := by decide +kernel
theorem dX0_becomeSpan_10 : decode cX0_becomeSpan 10 = .ok (.getfield 18, 3) := by decide +kernel
theorem dX0_becomeSpan_13 : decode cX0_becomeSpan 13 = .ok (.invokevirtual 31, 3) := by decide +kernel
theorem dX0_becomeSpan_16 : decode cX0_becomeSpan 16 = .ok (.ireturn, 1) := by decide +kernel
set_option maxRecDepth 20000 in
theorem ggX0_mixedInto_X2_count : GoodIn wsX0_mixedInto wsX2_count := goodIn_ca (goodIn_r _ [6, 7, 22] (by decide +kernel) (by decide +kernel)) (goodIn_sub (fun _ h => List.mem_cons_of_mem _ (List.mem_append_right _ h)) (by decide +kernel))
set_option maxRecDepth 20000 in
theorem gX0_mixedInto_X2_count : GoodIn wsX0_mixedInto (wsV RX0 41 RX2 yX2_count wsX2_count) := goodIn_app (goodIn_of _ (by decide +kernel)) ggX0_mixedInto_X2_count
set_option maxRecDepth 20000 in
theorem ggX0_mixedInto_X5_mixed : GoodIn wsX0_mixedInto wsX5_mixed := goodIn_r _ [10, 11] (by decide +kernel) (by decide +kernel)
set_option maxRecDepth 20000 in
theorem gX0_mixedInto_X5_mixed_n52 : GoodIn wsX0_mixedInto (wsX5_mixed) := ggX0_mixedInto_X5_mixed
set_option maxRecDepth 20000 in
theorem ggX0_mixedInto_X2_contains : GoodIn wsX0_mixedInto wsX2_contains := goodIn_ca (goodIn_r _ [15, 7, 16, 17, 18, 5, 19, 22] (by decide +kernel) (by decide +kernel)) (goodIn_sub (fun _ h => List.mem_cons_of_mem _ (List.mem_append_right _ h)) (by decide +kernel))
set_option maxRecDepth 20000 in
theorem gX0_mixedInto_X2_contains : GoodIn wsX0_mixedInto (wsV RX0 24 RX2 yX2_contains wsX2_contains) := goodIn_app (goodIn_of _ (by decide +kernel)) ggX0_mixedInto_X2_contains
theorem dX0_mixedInto_0 : decode cX0_mixedInto 0 = .ok (.lload_n 1, 1) := by decide +kernel
theorem dX0_mixedInto_1 : decode cX0_mixedInto 1 = .ok (.aload_n 0, 1) := by decide +kernel
theorem dX0_mixedInto_2 : decode cX0_mixedInto 2 = .ok (.getfield 12, 3) := by decide +kernel
theorem dX0_mixedInto_5 : decode cX0_mixedInto 5 = .ok (.invokevirtual 41, 3) := by decide +kernel
theorem dX0_mixedInto_8 : decode cX0_mixedInto 8 = .ok (.invokestatic 52, 3) := by decide +kernel
theorem dX0_mixedInto_11 : decode cX0_mixedInto 11 = .ok (.lstore_n 3, 1) := by decide +kernel
theorem dX0_mixedInto_12 : decode cX0_mixedInto 12 = .ok (.iconst 0, 1) := by decide +kernel
theorem dX0_mixedInto_13 : decode cX0_mixedInto 13 = .ok (.istore 5, 2) := by decide +kernel
theorem dX0_mixedInto_15 : decode cX0_mixedInto 15 = .ok (.iload 5, 2) := by decide +kernel
theorem dX0_mixedInto_17 : decode cX0_mixedInto 17 = .ok (.sipush 256, 3) := by decide +kernel
theorem dX0_mixedInto_20 : decode cX0_mixedInto 20 = .ok (.if_icmp .ge 28, 3) := by decide +kernel
theorem dX0_mixedInto_23 : decode cX0_mixedInto 23 = .ok (.aload_n 0, 1) := by decide +kernel
theorem dX0_mixedInto_24 : decode cX0_mixedInto 24 = .ok (.getfield 12, 3) := by decide +kernel
theorem dX0_mixedInto_27 : decode cX0_mixedInto 27 = .ok (.iload 5, 2) := by decide +kernel
theorem dX0_mixedInto_29 : decode cX0_mixedInto 29 = .ok (.invokevirtual 24, 3) := by decide +kernel
theorem dX0_mixedInto_32 : decode cX0_mixedInto 32 = .ok (.ifCond .eq 10, 3) := by decide +kernel
theorem dX0_mixedInto_35 : decode cX0_mixedInto 35 = .ok (.lload_n 3, 1) := by decide +kernel
theorem dX0_mixedInto_36 : decode cX0_mixedInto 36 = .ok (.iload 5, 2) := by decide +kernel
theorem dX0_mixedInto_38 : decode cX0_mixedInto 38 = .ok (.invokestatic 52, 3) := by decide +kernel
theorem dX0_mixedInto_41 : decode cX0_mixedInto 41 = .ok (.lstore_n 3, 1) := by decide +kernel
theorem dX0_mixedInto_42 : decode cX0_mixedInto 42 = .ok (.iinc 5 1, 3) := by decide +kernel
theorem dX0_mixedInto_45 : decode cX0_mixedInto 45 = .ok (.goto (-30), 3) := by decide +kernel
theorem dX0_mixedInto_48 : decode cX0_mixedInto 48 = .ok (.lload_n 3, 1) := by decide +kernel
theorem dX0_mixedInto_49 : decode cX0_mixedInto 49 = .ok (.lreturn, 1) := by decide +kernel
set_option maxRecDepth 20000 in
theorem ggX1_init_X2_init : GoodIn wsX1_init wsX2_init := goodIn_r _ [10, 11, 2, 3, 12, 13, 14] (by decide +kernel) (by decide +kernel)
set_option maxRecDepth 20000 in
theorem gX1_init_X2_init_n13 : GoodIn wsX1_init (wsX2_init) := ggX1_init_X2_init
theorem dX1_init_0 : decode cX1_init 0 = .ok (.aload_n 0, 1) := by decide +kernel
theorem dX1_init_1 : decode cX1_init 1 = .ok (.invokespecial 5, 3) := by decide +kernel
theorem dX1_init_4 : decode cX1_init 4 = .ok (.aload_n 0, 1) := by decide +kernel
theorem dX1_init_5 : decode cX1_init 5 = .ok (.new 11, 3) := by decide +kernel
theorem dX1_init_8 : decode cX1_init 8 = .ok (.dup, 1) := by decide +kernel
theorem dX1_init_9 : decode cX1_init 9 = .ok (.invokespecial 13, 3) := by decide +kernel
theorem dX1_init_12 : decode cX1_init 12 = .ok (.putfield 14, 3) := by decide +kernel
theorem dX1_init_15 : decode cX1_init 15 = .ok (.aload_n 0, 1) := by decide +kernel
theorem dX1_init_16 : decode cX1_init 16 = .ok (.iconst 0, 1) := by decide +kernel
theorem dX1_init_17 : decode cX1_init 17 = .ok (.putfield 18, 3) := by decide +kernel
theorem dX1_init_20 : decode cX1_init 20 = .ok (.return_, 1) := by decide +kernel
theorem dX1_isPlace_0 : decode cX1_isPlace 0 = .ok (.iload_n 0, 1) := by decide +kernel
theorem dX1_isPlace_1 : decode cX1_isPlace 1 = .ok (.ifCond .lt 21, 3) := by decide +kernel
theorem dX1_isPlace_4 : decode cX1_isPlace 4 = .ok (.iload_n 0, 1) := by decide +kernel
theorem dX1_isPlace_5 : decode cX1_isPlace 5 = .ok (.iconst 4, 1) := by decide +kernel
theorem dX1_isPlace_6 : decode cX1_isPlace 6 = .ok (.if_icmp .ge 16, 3) := by decide +kernel
theorem dX1_isPlace_9 : decode cX1_isPlace 9 = .ok (.iload_n 1, 1) := by decide +kernel
theorem dX1_isPlace_10 : decode cX1_isPlace 10 = .ok (.ifCond .lt 12, 3) := by decide +kernel
theorem dX1_isPlace_13 : decode cX1_isPlace 13 = .ok (.iload_n 1, 1) := by decide +kernel
theorem dX1_isPlace_14 : decode cX1_isPlace 14 = .ok (.iconst 4, 1) := by decide +kernel
theorem dX1_isPlace_15 : decode cX1_isPlace 15 = .ok (.if_icmp .ge 7, 3) := by decide +kernel
theorem dX1_isPlace_18 : decode cX1_isPlace 18 = .ok (.iconst 1, 1) := by decide +kernel
theorem dX1_isPlace_19 : decode cX1_isPlace 19 = .ok (.goto 4, 3) := by decide +kernel
theorem dX1_isPlace_22 : decode cX1_isPlace 22 = .ok (.iconst 0, 1) := by decide +kernel
theorem dX1_isPlace_23 : decode cX1_isPlace 23 = .ok (.ireturn, 1) := by decide +kernel
theorem dX1_codeOf_0 : decode cX1_codeOf 0 = .ok (.bipush 64, 2) := by decide +kernel
theorem dX1_codeOf_2 : decode cX1_codeOf 2 = .ok (.iload_n 0, 1) := by decide +kernel
theorem dX1_codeOf_3 : decode cX1_codeOf 3 = .ok (.imul, 1) := by decide +kernel
theorem dX1_codeOf_4 : decode cX1_codeOf 4 = .ok (.bipush 16, 2) := by decide +kernel
theorem dX1_codeOf_6 : decode cX1_codeOf 6 = .ok (.iload_n 1, 1) := by decide +kernel
theorem dX1_codeOf_7 : decode cX1_codeOf 7 = .ok (.imul, 1) := by decide +kernel
theorem dX1_codeOf_8 : decode cX1_codeOf 8 = .ok (.iadd, 1) := by decide +kernel
theorem dX1_codeOf_9 : decode cX1_codeOf 9 = .ok (.iconst 4, 1) := by decide +kernel
theorem dX1_codeOf_10 : decode cX1_codeOf 10 = .ok (.iload_n 2, 1) := by decide +kernel
theorem dX1_codeOf_11 : decode cX1_codeOf 11 = .ok (.imul, 1) := by decide +kernel
theorem dX1_codeOf_12 : decode cX1_codeOf 12 = .ok (.iadd, 1) := by decide +kernel
theorem dX1_codeOf_13 : decode cX1_codeOf 13 = .ok (.iload_n 3, 1) := by decide +kernel
theorem dX1_codeOf_14 : decode cX1_codeOf 14 = .ok (.iadd, 1) := by decide +kernel
theorem dX1_codeOf_15 : decode cX1_codeOf 15 = .ok (.ireturn, 1) := by decide +kernel
theorem dX1_bitOf_0 : decode cX1_bitOf 0 = .ok (.iconst 1, 1) := by decide +kernel
theorem dX1_bitOf_1 : decode cX1_bitOf 1 = .ok (.iconst 4, 1) := by decide +kernel
theorem dX1_bitOf_2 : decode cX1_bitOf 2 = .ok (.iload_n 0, 1) := by decide +kernel
theorem dX1_bitOf_3 : decode cX1_bitOf 3 = .ok (.imul, 1) := by decide +kernel
theorem dX1_bitOf_4 : decode cX1_bitOf 4 = .ok (.iload_n 1, 1) := by decide +kernel
theorem dX1_bitOf_5 : decode cX1_bitOf 5 = .ok (.iadd, 1) := by decide +kernel
theorem dX1_bitOf_6 : decode cX1_bitOf 6 = .ok (.ishl, 1) := by decide +kernel
theorem dX1_bitOf_7 : decode cX1_bitOf 7 = .ok (.ireturn, 1) := by decide +kernel
set_option maxRecDepth 20000 in
theorem ggX1_isHeads_X1_bitOf : GoodIn wsX1_isHeads wsX1_bitOf := goodIn_r _ [5] (by decide +kernel) (by decide +kernel)
set_option maxRecDepth 20000 in
theorem gX1_isHeads_X1_bitOf : GoodIn wsX1_isHeads (va_wsS RX1 22 yX1_bitOf wsX1_bitOf) := goodIn_app (goodIn_of _ (by decide +kernel)) ggX1_isHeads_X1_bitOf
theorem dX1_isHeads_0 : decode cX1_isHeads 0 = .ok (.aload_n 0, 1) := by decide +kernel
theorem dX1_isHeads_1 : decode cX1_isHeads 1 = .ok (.getfield 18, 3) := by decide +kernel
theorem dX1_isHeads_4 : decode cX1_isHeads 4 = .ok (.iload_n 1, 1) := by decide +kernel
theorem dX1_isHeads_5 : decode cX1_isHeads 5 = .ok (.iload_n 2, 1) := by decide +kernel
theorem dX1_isHeads_6 : decode cX1_isHeads 6 = .ok (.invokestatic 22, 3) := by decide +kernel
theorem dX1_isHeads_9 : decode cX1_isHeads 9 = .ok (.iand, 1) := by decide +kernel
theorem dX1_isHeads_10 : decode cX1_isHeads 10 = .ok (.ifCond .eq 7, 3) := by decide +kernel
theorem dX1_isHeads_13 : decode cX1_isHeads 13 = .ok (.iconst 1, 1) := by decide +kernel
theorem dX1_isHeads_14 : decode cX1_isHeads 14 = .ok (.goto 4, 3) := by decide +kernel
theorem dX1_isHeads_17 : decode cX1_isHeads 17 = .ok (.iconst 0, 1) := by decide +kernel
theorem dX1_isHeads_18 : decode cX1_isHeads 18 = .ok (.ireturn, 1) := by decide +kernel
set_option maxRecDepth 20000 in
theorem ggX1_turnCoin_X1_bitOf : GoodIn wsX1_turnCoin wsX1_bitOf := goodIn_r _ [5] (by decide +kernel) (by decide +kernel)
set_option maxRecDepth 20000 in
theorem gX1_turnCoin_X1_bitOf : GoodIn wsX1_turnCoin (va_wsS RX1 22 yX1_bitOf wsX1_bitOf) := goodIn_app (goodIn_of _ (by decide +kernel)) ggX1_turnCoin_X1_bitOf
theorem dX1_turnCoin_0 : decode cX1_turnCoin 0 = .ok (.aload_n 0, 1) := by decide +kernel
theorem dX1_turnCoin_1 : decode cX1_turnCoin 1 = .ok (.dup, 1) := by decide +kernel
theorem dX1_turnCoin_2 : decode cX1_turnCoin 2 = .ok (.getfield 18, 3) := by decide +kernel
theorem dX1_turnCoin_5 : decode cX1_turnCoin 5 = .ok (.iload_n 1, 1) := by decide +kernel
theorem dX1_turnCoin_6 : decode cX1_turnCoin 6 = .ok (.iload_n 2, 1) := by decide +kernel
theorem dX1_turnCoin_7 : decode cX1_turnCoin 7 = .ok (.invokestatic 22, 3) := by decide +kernel
theorem dX1_turnCoin_10 : decode cX1_turnCoin 10 = .ok (.ixor, 1) := by decide +kernel
theorem dX1_turnCoin_11 : decode cX1_turnCoin 11 = .ok (.putfield 18, 3) := by decide +kernel
theorem dX1_turnCoin_14 : decode cX1_turnCoin 14 = .ok (.return_, 1) := by decide +kernel
set_option maxRecDepth 20000 in
theorem ggX1_turnAllTails_J6_bitCount_0f7a4 : GoodIn wsX1_turnAllTails wsJ6_bitCount_0f7a4 := goodIn_r _ [5, 6, 7, 8] (by decide +kernel) (by decide +kernel)
set_option maxRecDepth 20000 in
theorem gX1_turnAllTails_J6_bitCount_0f7a4 : GoodIn wsX1_turnAllTails (va_wsS RX1 26 yJ6_bitCount_0f7a4 wsJ6_bitCount_0f7a4) := goodIn_app (goodIn_of _ (by decide +kernel)) ggX1_turnAllTails_J6_bitCount_0f7a4
theorem dX1_turnAllTails_0 : decode cX1_turnAllTails 0 = .ok (.aload_n 0, 1) := by decide +kernel
theorem dX1_turnAllTails_1 : decode cX1_turnAllTails 1 = .ok (.getfield 18, 3) := by decide +kernel
theorem dX1_turnAllTails_4 : decode cX1_turnAllTails 4 = .ok (.invokestatic 26, 3) := by decide +kernel
theorem dX1_turnAllTails_7 : decode cX1_turnAllTails 7 = .ok (.istore_n 1, 1) := by decide +kernel
theorem dX1_turnAllTails_8 : decode cX1_turnAllTails 8 = .ok (.aload_n 0, 1) := by decide +kernel
theorem dX1_turnAllTails_9 : decode cX1_turnAllTails 9 = .ok (.iconst 0, 1) := by decide +kernel
theorem dX1_turnAllTails_10 : decode cX1_turnAllTails 10 = .ok (.putfield 18, 3) := by decide +kernel
theorem dX1_turnAllTails_13 : decode cX1_turnAllTails 13 = .ok (.iload_n 1, 1) := by decide +kernel
theorem dX1_turnAllTails_14 : decode cX1_turnAllTails 14 = .ok (.ireturn, 1) := by decide +kernel
set_option maxRecDepth 20000 in
theorem ggX1_isPlay_X1_isHeads : GoodIn wsX1_isPlay wsX1_isHeads := goodIn_r _ [5, 6, 7, 8, 4, 9, 10, 11] (by decide +kernel) (by decide +kernel)
set_option maxRecDepth 20000 in
theorem gX1_isPlay_X1_isHeads : GoodIn wsX1_isPlay (wsV RX1 32 RX1 yX1_isHeads wsX1_isHeads) := goodIn_app (goodIn_of _ (by decide +kernel)) ggX1_isPlay_X1_isHeads
theorem dX1_isPlay_0 : decode cX1_isPlay 0 = .ok (.iload_n 1, 1) := by decide +kernel
theorem dX1_isPlay_1 : decode cX1_isPlay 1 = .ok (.bipush 64, 2) := by decide +kernel
theorem dX1_isPlay_3 : decode cX1_isPlay 3 = .ok (.idiv, 1) := by decide +kernel
theorem dX1_isPlay_4 : decode cX1_isPlay 4 = .ok (.istore_n 2, 1) := by decide +kernel
theorem dX1_isPlay_5 : decode cX1_isPlay 5 = .ok (.iload_n 1, 1) := by decide +kernel
theorem dX1_isPlay_6 : decode cX1_isPlay 6 = .ok (.bipush 16, 2) := by decide +kernel
theorem dX1_isPlay_8 : decode cX1_isPlay 8 = .ok (.idiv, 1) := by decide +kernel
theorem dX1_isPlay_9 : decode cX1_isPlay 9 = .ok (.iconst 4, 1) := by decide +kernel
theorem dX1_isPlay_10 : decode cX1_isPlay 10 = .ok (.irem, 1) := by decide +kernel
theorem dX1_isPlay_11 : decode cX1_isPlay 11 = .ok (.istore_n 3, 1) := by decide +kernel
theorem dX1_isPlay_12 : decode cX1_isPlay 12 = .ok (.iload_n 1, 1) := by decide +kernel
theorem dX1_isPlay_13 : decode cX1_isPlay 13 = .ok (.iconst 4, 1) := by decide +kernel
theorem dX1_isPlay_14 : decode cX1_isPlay 14 = .ok (.idiv, 1) := by decide +kernel
theorem dX1_isPlay_15 : decode cX1_isPlay 15 = .ok (.iconst 4, 1) := by decide +kernel
theorem dX1_isPlay_16 : decode cX1_isPlay 16 = .ok (.irem, 1) := by decide +kernel
theorem dX1_isPlay_17 : decode cX1_isPlay 17 = .ok (.istore 4, 2) := by decide +kernel
theorem dX1_isPlay_19 : decode cX1_isPlay 19 = .ok (.iload_n 1, 1) := by decide +kernel
theorem dX1_isPlay_20 : decode cX1_isPlay 20 = .ok (.iconst 4, 1) := by decide +kernel
theorem dX1_isPlay_21 : decode cX1_isPlay 21 = .ok (.irem, 1) := by decide +kernel
theorem dX1_isPlay_22 : decode cX1_isPlay 22 = .ok (.istore 5, 2) := by decide +kernel
theorem dX1_isPlay_24 : decode cX1_isPlay 24 = .ok (.aload_n 0, 1) := by decide +kernel
theorem dX1_isPlay_25 : decode cX1_isPlay 25 = .ok (.iload_n 2, 1) := by decide +kernel
theorem dX1_isPlay_26 : decode cX1_isPlay 26 = .ok (.iload_n 3, 1) := by decide +kernel
theorem dX1_isPlay_27 : decode cX1_isPlay 27 = .ok (.invokevirtual 32, 3) := by decide +kernel
theorem dX1_isPlay_30 : decode cX1_isPlay 30 = .ok (.ifCond .eq 19, 3) := by decide +kernel
theorem dX1_isPlay_33 : decode cX1_isPlay 33 = .ok (.iload 4, 2) := by decide +kernel
theorem dX1_isPlay_35 : decode cX1_isPlay 35 = .ok (.iload_n 2, 1) := by decide +kernel
theorem dX1_isPlay_36 : decode cX1_isPlay 36 = .ok (.if_icmp .ge 13, 3) := by decide +kernel
theorem dX1_isPlay_39 : decode cX1_isPlay 39 = .ok (.iload 5, 2) := by decide +kernel
theorem dX1_isPlay_41 : decode cX1_isPlay 41 = .ok (.iload_n 3, 1) := by decide +kernel
theorem dX1_isPlay_42 : decode cX1_isPlay 42 = .ok (.if_icmp .ge 7, 3) := by decide +kernel
theorem dX1_isPlay_45 : decode cX1_isPlay 45 = .ok (.iconst 1, 1) := by decide +kernel
theorem dX1_isPlay_46 : decode cX1_isPlay 46 = .ok (.goto 4, 3) := by decide +kernel
theorem dX1_isPlay_49 : decode cX1_isPlay 49 = .ok (.iconst 0, 1) := by decide +kernel
theorem dX1_isPlay_50 : decode cX1_isPlay 50 = .ok (.ireturn, 1) := by decide +kernel
set_option maxRecDepth 20000 in
theorem ggX1_headsAfter_X1_bitOf : GoodIn wsX1_headsAfter wsX1_bitOf := goodIn_r _ [5] (by decide +kernel) (by decide +kernel)
set_option maxRecDepth 20000 in
theorem gX1_headsAfter_X1_bitOf : GoodIn wsX1_headsAfter (va_wsS RX1 22 yX1_bitOf wsX1_bitOf) := goodIn_app (goodIn_of _ (by decide +kernel)) ggX1_headsAfter_X1_bitOf
theorem dX1_headsAfter_0 : decode cX1_headsAfter 0 = .ok (.iload_n 1, 1) := by decide +kernel
theorem dX1_headsAfter_1 : decode cX1_headsAfter 1 = .ok (.bipush 64, 2) := by decide +kernel
theorem dX1_headsAfter_3 : decode cX1_headsAfter 3 = .ok (.idiv, 1) := by decide +kernel
theorem dX1_headsAfter_4 : decode cX1_headsAfter 4 = .ok (.istore_n 2, 1) := by decide +kernel
theorem dX1_headsAfter_5 : decode cX1_headsAfter 5 = .ok (.iload_n 1, 1) := by decide +kernel
theorem dX1_headsAfter_6 : decode cX1_headsAfter 6 = .ok (.bipush 16, 2) := by decide +kernel
theorem dX1_headsAfter_8 : decode cX1_headsAfter 8 = .ok (.idiv, 1) := by decide +kernel
theorem dX1_headsAfter_9 : decode cX1_headsAfter 9 = .ok (.iconst 4, 1) := by decide +kernel
theorem dX1_headsAfter_10 : decode cX1_headsAfter 10 = .ok (.irem, 1) := by decide +kernel
theorem dX1_headsAfter_11 : decode cX1_headsAfter 11 = .ok (.istore_n 3, 1) := by decide +kernel
theorem dX1_headsAfter_12 : decode cX1_headsAfter 12 = .ok (.iload_n 1, 1) := by decide +kernel
theorem dX1_headsAfter_13 : decode cX1_headsAfter 13 = .ok (.iconst 4, 1) := by decide +kernel
theorem dX1_headsAfter_14 : decode cX1_headsAfter 14 = .ok (.idiv, 1) := by decide +kernel
theorem dX1_headsAfter_15 : decode cX1_headsAfter 15 = .ok (.iconst 4, 1) := by decide +kernel
theorem dX1_headsAfter_16 : decode cX1_headsAfter 16 = .ok (.irem, 1) := by decide +kernel
theorem dX1_headsAfter_17 : decode cX1_headsAfter 17 = .ok (.istore 4, 2) := by decide +kernel
theorem dX1_headsAfter_19 : decode cX1_headsAfter 19 = .ok (.iload_n 1, 1) := by decide +kernel
theorem dX1_headsAfter_20 : decode cX1_headsAfter 20 = .ok (.iconst 4, 1) := by decide +kernel
theorem dX1_headsAfter_21 : decode cX1_headsAfter 21 = .ok (.irem, 1) := by decide +kernel
theorem dX1_headsAfter_22 : decode cX1_headsAfter 22 = .ok (.istore 5, 2) := by decide +kernel
theorem dX1_headsAfter_24 : decode cX1_headsAfter 24 = .ok (.aload_n 0, 1) := by decide +kernel
theorem dX1_headsAfter_25 : decode cX1_headsAfter 25 = .ok (.getfield 18, 3) := by decide +kernel
theorem dX1_headsAfter_28 : decode cX1_headsAfter 28 = .ok (.iload_n 2, 1) := by decide +kernel
theorem dX1_headsAfter_29 : decode cX1_headsAfter 29 = .ok (.iload_n 3, 1) := by decide +kernel
theorem dX1_headsAfter_30 : decode cX1_headsAfter 30 = .ok (.invokestatic 22, 3) := by decide +kernel
theorem dX1_headsAfter_33 : decode cX1_headsAfter 33 = .ok (.ixor, 1) := by decide +kernel
theorem dX1_headsAfter_34 : decode cX1_headsAfter 34 = .ok (.iload 4, 2) := by decide +kernel
theorem dX1_headsAfter_36 : decode cX1_headsAfter 36 = .ok (.iload_n 3, 1) := by decide +kernel
theorem dX1_headsAfter_37 : decode cX1_headsAfter 37 = .ok (.invokestatic 22, 3) := by decide +kernel
theorem dX1_headsAfter_40 : decode cX1_headsAfter 40 = .ok (.ixor, 1) := by decide +kernel
theorem dX1_headsAfter_41 : decode cX1_headsAfter 41 = .ok (.iload_n 2, 1) := by decide +kernel
theorem dX1_headsAfter_42 : decode cX1_headsAfter 42 = .ok (.iload 5, 2) := by decide +kernel
theorem dX1_headsAfter_44 : decode cX1_headsAfter 44 = .ok (.invokestatic 22, 3) := by decide +kernel
theorem dX1_headsAfter_47 : decode cX1_headsAfter 47 = .ok (.ixor, 1) := by decide +kernel
theorem dX1_headsAfter_48 : decode cX1_headsAfter 48 = .ok (.iload 4, 2) := by decide +kernel
theorem dX1_headsAfter_50 : decode cX1_headsAfter 50 = .ok (.iload 5, 2) := by decide +kernel
theorem dX1_headsAfter_52 : decode cX1_headsAfter 52 = .ok (.invokestatic 22, 3) := by decide +kernel
theorem dX1_headsAfter_55 : decode cX1_headsAfter 55 = .ok (.ixor, 1) := by decide +kernel
theorem dX1_headsAfter_56 : decode cX1_headsAfter 56 = .ok (.ireturn, 1) := by decide +kernel
set_option maxRecDepth 20000 in
theorem ggX1_makePlay_X1_headsAfter : GoodIn wsX1_makePlay wsX1_headsAfter := goodIn_r _ [6, 1, 7, 8, 5, 9, 10, 11] (by decide +kernel) (by decide +kernel)
set_option maxRecDepth 20000 in
theorem gX1_makePlay_X1_headsAfter : GoodIn wsX1_makePlay (wsV RX1 36 RX1 yX1_headsAfter wsX1_headsAfter) := goodIn_app (goodIn_of _ (by decide +kernel)) ggX1_makePlay_X1_headsAfter
theorem dX1_makePlay_0 : decode cX1_makePlay 0 = .ok (.aload_n 0, 1) := by decide +kernel
theorem dX1_makePlay_1 : decode cX1_makePlay 1 = .ok (.aload_n 0, 1) := by decide +kernel
theorem dX1_makePlay_2 : decode cX1_makePlay 2 = .ok (.iload_n 1, 1) := by decide +kernel
theorem dX1_makePlay_3 : decode cX1_makePlay 3 = .ok (.invokevirtual 36, 3) := by decide +kernel
theorem dX1_makePlay_6 : decode cX1_makePlay 6 = .ok (.putfield 18, 3) := by decide +kernel
theorem dX1_makePlay_9 : decode cX1_makePlay 9 = .ok (.return_, 1) := by decide +kernel
set_option maxRecDepth 20000 in
theorem ggX1_countPlays_X1_isPlay : GoodIn wsX1_countPlays wsX1_isPlay := goodIn_r _ [5, 6, 7, 8, 4, 9, 10, 11, 12, 13, 14, 15] (by decide +kernel) (by decide +kernel)
set_option maxRecDepth 20000 in
theorem gX1_countPlays_X1_isPlay : GoodIn wsX1_countPlays (wsV RX1 39 RX1 yX1_isPlay wsX1_isPlay) := goodIn_app (goodIn_of _ (by decide +kernel)) ggX1_countPlays_X1_isPlay
theorem dX1_countPlays_0 : decode cX1_countPlays 0 = .ok (.iconst 0, 1) := by decide +kernel
theorem dX1_countPlays_1 : decode cX1_countPlays 1 = .ok (.istore_n 1, 1) := by decide +kernel
theorem dX1_countPlays_2 : decode cX1_countPlays 2 = .ok (.iconst 0, 1) := by decide +kernel
theorem dX1_countPlays_3 : decode cX1_countPlays 3 = .ok (.istore_n 2, 1) := by decide +kernel
theorem dX1_countPlays_4 : decode cX1_countPlays 4 = .ok (.iload_n 2, 1) := by decide +kernel
theorem dX1_countPlays_5 : decode cX1_countPlays 5 = .ok (.sipush 256, 3) := by decide +kernel
theorem dX1_countPlays_8 : decode cX1_countPlays 8 = .ok (.if_icmp .ge 20, 3) := by decide +kernel
theorem dX1_countPlays_11 : decode cX1_countPlays 11 = .ok (.aload_n 0, 1) := by decide +kernel
theorem dX1_countPlays_12 : decode cX1_countPlays 12 = .ok (.iload_n 2, 1) := by decide +kernel
theorem dX1_countPlays_13 : decode cX1_countPlays 13 = .ok (.invokevirtual 39, 3) := by decide +kernel
theorem dX1_countPlays_16 : decode cX1_countPlays 16 = .ok (.ifCond .eq 6, 3) := by decide +kernel
theorem dX1_countPlays_19 : decode cX1_countPlays 19 = .ok (.iinc 1 1, 3) := by decide +kernel
theorem dX1_countPlays_22 : decode cX1_countPlays 22 = .ok (.iinc 2 1, 3) := by decide +kernel
theorem dX1_countPlays_25 : decode cX1_countPlays 25 = .ok (.goto (-21), 3) := by decide +kernel
theorem dX1_countPlays_28 : decode cX1_countPlays 28 = .ok (.iload_n 1, 1) := by decide +kernel
theorem dX1_countPlays_29 : decode cX1_countPlays 29 = .ok (.ireturn, 1) := by decide +kernel
set_option maxRecDepth 20000 in
theorem ggX1_worthByTrying_X2_empty : GoodIn wsX1_worthByTrying wsX2_empty := goodIn_ca (goodIn_r _ [6, 7, 52] (by decide +kernel) (by decide +kernel)) (goodIn_sub (fun _ h => List.mem_cons_of_mem _ (List.mem_append_left _ (List.mem_append_right _ h))) (by decide +kernel))
set_option maxRecDepth 20000 in
theorem gX1_worthByTrying_X2_empty : GoodIn wsX1_worthByTrying (wsV RX1 43 RX2 yX2_empty wsX2_empty) := goodIn_app (goodIn_of _ (by decide +kernel)) ggX1_worthByTrying_X2_empty
set_option maxRecDepth 20000 in
theorem ggX1_worthByTrying_X1_isPlay : GoodIn wsX1_worthByTrying wsX1_isPlay := goodIn_r _ [12, 13, 14, 15, 11, 16, 17, 18, 19, 20, 50, 51] (by decide +kernel) (by decide +kernel)
set_option maxRecDepth 20000 in
theorem gX1_worthByTrying_X1_isPlay : GoodIn wsX1_worthByTrying (wsV RX1 39 RX1 yX1_isPlay wsX1_isPlay) := goodIn_app (goodIn_of _ (by decide +kernel)) ggX1_worthByTrying_X1_isPlay
set_option maxRecDepth 20000 in
theorem ggX1_worthByTrying_X1_headsAfter : GoodIn wsX1_worthByTrying wsX1_headsAfter := goodIn_r _ [24, 17, 18, 19, 11, 20, 50, 51] (by decide +kernel) (by decide +kernel)
set_option maxRecDepth 20000 in
theorem gX1_worthByTrying_X1_headsAfter : GoodIn wsX1_worthByTrying (wsV RX1 36 RX1 yX1_headsAfter wsX1_headsAfter) := goodIn_app (goodIn_of _ (by decide +kernel)) ggX1_worthByTrying_X1_headsAfter
set_option maxRecDepth 20000 in
theorem ggX1_worthByTrying_X1_worthOf : GoodIn wsX1_worthByTrying wsX1_worthOf := goodIn_ca (goodIn_ca (goodIn_r _ [27, 28, 29, 30, 31, 32, 33, 34, 35, 36, 37, 53, 54] (by decide +kernel) (by decide +kernel)) (goodIn_sub (fun _ h => List.mem_cons_of_mem _ (List.mem_append_right _ h)) (by decide +kernel))) (goodIn_sub (fun _ h => List.mem_cons_of_mem _ (List.mem_append_left _ (List.mem_append_right _ h))) (by decide +kernel))
set_option maxRecDepth 20000 in
theorem gX1_worthByTrying_X1_worthOf : GoodIn wsX1_worthByTrying (va_wsS RX1 46 yX1_worthOf wsX1_worthOf) := goodIn_app (goodIn_of _ (by decide +kernel)) ggX1_worthByTrying_X1_worthOf
set_option maxRecDepth 20000 in
theorem ggX1_worthByTrying_X2_add : GoodIn wsX1_worthByTrying wsX2_add := goodIn_ca (goodIn_r _ [41, 7, 42, 43, 44, 5, 45, 52] (by decide +kernel) (by decide +kernel)) (goodIn_sub (fun _ h => List.mem_cons_of_mem _ (List.mem_append_left _ (List.mem_append_right _ h))) (by decide +kernel))
set_option maxRecDepth 20000 in
theorem gX1_worthByTrying_X2_add : GoodIn wsX1_worthByTrying (wsV RX1 50 RX2 yX2_add wsX2_add) := goodIn_app (goodIn_of _ (by decide +kernel)) ggX1_worthByTrying_X2_add
set_option maxRecDepth 20000 in
theorem ggX1_worthByTrying_X2_leastAbsent : GoodIn wsX1_worthByTrying wsX2_leastAbsent := goodIn_ca (goodIn_r _ [49, 7, 52] (by decide +kernel) (by decide +kernel)) (goodIn_sub (fun _ h => List.mem_cons_of_mem _ (List.mem_append_left _ (List.mem_append_right _ h))) (by decide +kernel))
set_option maxRecDepth 20000 in
theorem gX1_worthByTrying_X2_leastAbsent : GoodIn wsX1_worthByTrying (wsV RX1 53 RX2 yX2_leastAbsent wsX2_leastAbsent) := goodIn_app (goodIn_of _ (by decide +kernel)) ggX1_worthByTrying_X2_leastAbsent
theorem dX1_worthByTrying_0 : decode cX1_worthByTrying 0 = .ok (.aload_n 0, 1) := by decide +kernel
theorem dX1_worthByTrying_1 : decode cX1_worthByTrying 1 = .ok (.getfield 14, 3) := by decide +kernel
theorem dX1_worthByTrying_4 : decode cX1_worthByTrying 4 = .ok (.invokevirtual 43, 3) := by decide +kernel
theorem dX1_worthByTrying_7 : decode cX1_worthByTrying 7 = .ok (.iconst 0, 1) := by decide +kernel
theorem dX1_worthByTrying_8 : decode cX1_worthByTrying 8 = .ok (.istore_n 2, 1) := by decide +kernel
theorem dX1_worthByTrying_9 : decode cX1_worthByTrying 9 = .ok (.iload_n 2, 1) := by decide +kernel
theorem dX1_worthByTrying_10 : decode cX1_worthByTrying 10 = .ok (.sipush 256, 3) := by decide +kernel
theorem dX1_worthByTrying_13 : decode cX1_worthByTrying 13 = .ok (.if_icmp .ge 34, 3) := by decide +kernel
theorem dX1_worthByTrying_16 : decode cX1_worthByTrying 16 = .ok (.aload_n 0, 1) := by decide +kernel
theorem dX1_worthByTrying_17 : decode cX1_worthByTrying 17 = .ok (.iload_n 2, 1) := by decide +kernel
theorem dX1_worthByTrying_18 : decode cX1_worthByTrying 18 = .ok (.invokevirtual 39, 3) := by decide +kernel
theorem dX1_worthByTrying_21 : decode cX1_worthByTrying 21 = .ok (.ifCond .eq 20, 3) := by decide +kernel
theorem dX1_worthByTrying_24 : decode cX1_worthByTrying 24 = .ok (.aload_n 0, 1) := by decide +kernel
theorem dX1_worthByTrying_25 : decode cX1_worthByTrying 25 = .ok (.getfield 14, 3) := by decide +kernel
theorem dX1_worthByTrying_28 : decode cX1_worthByTrying 28 = .ok (.aload_n 0, 1) := by decide +kernel
theorem dX1_worthByTrying_29 : decode cX1_worthByTrying 29 = .ok (.iload_n 2, 1) := by decide +kernel
theorem dX1_worthByTrying_30 : decode cX1_worthByTrying 30 = .ok (.invokevirtual 36, 3) := by decide +kernel
theorem dX1_worthByTrying_33 : decode cX1_worthByTrying 33 = .ok (.aload_n 1, 1) := by decide +kernel
theorem dX1_worthByTrying_34 : decode cX1_worthByTrying 34 = .ok (.invokestatic 46, 3) := by decide +kernel
theorem dX1_worthByTrying_37 : decode cX1_worthByTrying 37 = .ok (.invokevirtual 50, 3) := by decide +kernel
theorem dX1_worthByTrying_40 : decode cX1_worthByTrying 40 = .ok (.pop, 1) := by decide +kernel
theorem dX1_worthByTrying_41 : decode cX1_worthByTrying 41 = .ok (.iinc 2 1, 3) := by decide +kernel
theorem dX1_worthByTrying_44 : decode cX1_worthByTrying 44 = .ok (.goto (-35), 3) := by decide +kernel
theorem dX1_worthByTrying_47 : decode cX1_worthByTrying 47 = .ok (.aload_n 0, 1) := by decide +kernel
theorem dX1_worthByTrying_48 : decode cX1_worthByTrying 48 = .ok (.getfield 14, 3) := by decide +kernel
theorem dX1_worthByTrying_51 : decode cX1_worthByTrying 51 = .ok (.invokevirtual 53, 3) := by decide +kernel
theorem dX1_worthByTrying_54 : decode cX1_worthByTrying 54 = .ok (.ireturn, 1) := by decide +kernel
set_option maxRecDepth 20000 in
theorem ggX1_bestPlay_X1_isPlay : GoodIn wsX1_bestPlay wsX1_isPlay := goodIn_r _ [5, 6, 7, 8, 4, 9, 10, 11, 12, 13, 31, 32] (by decide +kernel) (by decide +kernel)
set_option maxRecDepth 20000 in
theorem gX1_bestPlay_X1_isPlay : GoodIn wsX1_bestPlay (wsV RX1 39 RX1 yX1_isPlay wsX1_isPlay) := goodIn_app (goodIn_of _ (by decide +kernel)) ggX1_bestPlay_X1_isPlay
set_option maxRecDepth 20000 in
theorem ggX1_bestPlay_X1_headsAfter : GoodIn wsX1_bestPlay wsX1_headsAfter := goodIn_r _ [17, 10, 11, 12, 4, 13, 31, 32] (by decide +kernel) (by decide +kernel)
set_option maxRecDepth 20000 in
theorem gX1_bestPlay_X1_headsAfter : GoodIn wsX1_bestPlay (wsV RX1 36 RX1 yX1_headsAfter wsX1_headsAfter) := goodIn_app (goodIn_of _ (by decide +kernel)) ggX1_bestPlay_X1_headsAfter
set_option maxRecDepth 20000 in
theorem ggX1_bestPlay_X1_worthOf : GoodIn wsX1_bestPlay wsX1_worthOf := goodIn_ca (goodIn_ca (goodIn_r _ [20, 21, 22, 23, 24, 25, 26, 27, 28, 29, 30, 33, 34] (by decide +kernel) (by decide +kernel)) (goodIn_sub (fun _ h => List.mem_cons_of_mem _ (List.mem_append_left _ (List.mem_append_right _ h))) (by decide +kernel))) (goodIn_sub (fun _ h => List.mem_cons_of_mem _ (List.mem_append_right _ h)) (by decide +kernel))
set_option maxRecDepth 20000 in
theorem gX1_bestPlay_X1_worthOf : GoodIn wsX1_bestPlay (va_wsS RX1 46 yX1_worthOf wsX1_worthOf) := goodIn_app (goodIn_of _ (by decide +kernel)) ggX1_bestPlay_X1_worthOf
theorem dX1_bestPlay_0 : decode cX1_bestPlay 0 = .ok (.iconst 0, 1) := by decide +kernel
theorem dX1_bestPlay_1 : decode cX1_bestPlay 1 = .ok (.istore_n 2, 1) := by decide +kernel
theorem dX1_bestPlay_2 : decode cX1_bestPlay 2 = .ok (.iload_n 2, 1) := by decide +kernel
theorem dX1_bestPlay_3 : decode cX1_bestPlay 3 = .ok (.sipush 256, 3) := by decide +kernel
theorem dX1_bestPlay_6 : decode cX1_bestPlay 6 = .ok (.if_icmp .ge 31, 3) := by decide +kernel
theorem dX1_bestPlay_9 : decode cX1_bestPlay 9 = .ok (.aload_n 0, 1) := by decide +kernel
theorem dX1_bestPlay_10 : decode cX1_bestPlay 10 = .ok (.iload_n 2, 1) := by decide +kernel
theorem dX1_bestPlay_11 : decode cX1_bestPlay 11 = .ok (.invokevirtual 39, 3) := by decide +kernel
theorem dX1_bestPlay_14 : decode cX1_bestPlay 14 = .ok (.ifCond .eq 17, 3) := by decide +kernel
theorem dX1_bestPlay_17 : decode cX1_bestPlay 17 = .ok (.aload_n 0, 1) := by decide +kernel
theorem dX1_bestPlay_18 : decode cX1_bestPlay 18 = .ok (.iload_n 2, 1) := by decide +kernel
theorem dX1_bestPlay_19 : decode cX1_bestPlay 19 = .ok (.invokevirtual 36, 3) := by decide +kernel
theorem dX1_bestPlay_22 : decode cX1_bestPlay 22 = .ok (.aload_n 1, 1) := by decide +kernel
theorem dX1_bestPlay_23 : decode cX1_bestPlay 23 = .ok (.invokestatic 46, 3) := by decide +kernel
theorem dX1_bestPlay_26 : decode cX1_bestPlay 26 = .ok (.ifCond .ne 5, 3) := by decide +kernel
theorem dX1_bestPlay_29 : decode cX1_bestPlay 29 = .ok (.iload_n 2, 1) := by decide +kernel
theorem dX1_bestPlay_30 : decode cX1_bestPlay 30 = .ok (.ireturn, 1) := by decide +kernel
theorem dX1_bestPlay_31 : decode cX1_bestPlay 31 = .ok (.iinc 2 1, 3) := by decide +kernel
theorem dX1_bestPlay_34 : decode cX1_bestPlay 34 = .ok (.goto (-32), 3) := by decide +kernel
theorem dX1_bestPlay_37 : decode cX1_bestPlay 37 = .ok (.iconst (-1), 1) := by decide +kernel
theorem dX1_bestPlay_38 : decode cX1_bestPlay 38 = .ok (.ireturn, 1) := by decide +kernel
set_option maxRecDepth 20000 in
theorem ggX1_worthOf_X3_productOf : GoodIn wsX1_worthOf wsX3_productOf := goodIn_ca (goodIn_ca (goodIn_r _ [5, 6, 7, 8, 4, 9, 10, 11, 12] (by decide +kernel) (by decide +kernel)) (goodIn_sub (fun _ h => List.mem_cons_of_mem _ (List.mem_append_left _ (List.mem_append_right _ h))) (by decide +kernel))) (goodIn_sub (fun _ h => List.mem_cons_of_mem _ (List.mem_append_right _ h)) (by decide +kernel))
set_option maxRecDepth 20000 in
theorem gX1_worthOf_X3_productOf : GoodIn wsX1_worthOf (wsV RX1 57 RX3 yX3_productOf wsX3_productOf) := goodIn_app (goodIn_of _ (by decide +kernel)) ggX1_worthOf_X3_productOf
theorem dX1_worthOf_0 : decode cX1_worthOf 0 = .ok (.iconst 0, 1) := by decide +kernel
theorem dX1_worthOf_1 : decode cX1_worthOf 1 = .ok (.istore_n 2, 1) := by decide +kernel
theorem dX1_worthOf_2 : decode cX1_worthOf 2 = .ok (.iconst 0, 1) := by decide +kernel
theorem dX1_worthOf_3 : decode cX1_worthOf 3 = .ok (.istore_n 3, 1) := by decide +kernel
theorem dX1_worthOf_4 : decode cX1_worthOf 4 = .ok (.iload_n 3, 1) := by decide +kernel
theorem dX1_worthOf_5 : decode cX1_worthOf 5 = .ok (.bipush 16, 2) := by decide +kernel
theorem dX1_worthOf_7 : decode cX1_worthOf 7 = .ok (.if_icmp .ge 31, 3) := by decide +kernel
theorem dX1_worthOf_10 : decode cX1_worthOf 10 = .ok (.iload_n 0, 1) := by decide +kernel
theorem dX1_worthOf_11 : decode cX1_worthOf 11 = .ok (.iload_n 3, 1) := by decide +kernel
theorem dX1_worthOf_12 : decode cX1_worthOf 12 = .ok (.ishr, 1) := by decide +kernel
theorem dX1_worthOf_13 : decode cX1_worthOf 13 = .ok (.iconst 1, 1) := by decide +kernel
theorem dX1_worthOf_14 : decode cX1_worthOf 14 = .ok (.iand, 1) := by decide +kernel
theorem dX1_worthOf_15 : decode cX1_worthOf 15 = .ok (.iconst 1, 1) := by decide +kernel
theorem dX1_worthOf_16 : decode cX1_worthOf 16 = .ok (.if_icmp .ne 16, 3) := by decide +kernel
theorem dX1_worthOf_19 : decode cX1_worthOf 19 = .ok (.iload_n 2, 1) := by decide +kernel
theorem dX1_worthOf_20 : decode cX1_worthOf 20 = .ok (.aload_n 1, 1) := by decide +kernel
theorem dX1_worthOf_21 : decode cX1_worthOf 21 = .ok (.iload_n 3, 1) := by decide +kernel
theorem dX1_worthOf_22 : decode cX1_worthOf 22 = .ok (.iconst 4, 1) := by decide +kernel
theorem dX1_worthOf_23 : decode cX1_worthOf 23 = .ok (.idiv, 1) := by decide +kernel
theorem dX1_worthOf_24 : decode cX1_worthOf 24 = .ok (.iload_n 3, 1) := by decide +kernel
theorem dX1_worthOf_25 : decode cX1_worthOf 25 = .ok (.iconst 4, 1) := by decide +kernel
theorem dX1_worthOf_26 : decode cX1_worthOf 26 = .ok (.irem, 1) := by decide +kernel
theorem dX1_worthOf_27 : decode cX1_worthOf 27 = .ok (.invokevirtual 57, 3) := by decide +kernel
theorem dX1_worthOf_30 : decode cX1_worthOf 30 = .ok (.ixor, 1) := by decide +kernel
theorem dX1_worthOf_31 : decode cX1_worthOf 31 = .ok (.istore_n 2, 1) := by decide +kernel
theorem dX1_worthOf_32 : decode cX1_worthOf 32 = .ok (.iinc 3 1, 3) := by decide +kernel
theorem dX1_worthOf_35 : decode cX1_worthOf 35 = .ok (.goto (-31), 3) := by decide +kernel
theorem dX1_worthOf_38 : decode cX1_worthOf 38 = .ok (.iload_n 2, 1) := by decide +kernel
theorem dX1_worthOf_39 : decode cX1_worthOf 39 = .ok (.ireturn, 1) := by decide +kernel
set_option maxRecDepth 20000 in
theorem ggX1_mixedInto_X5_mixed : GoodIn wsX1_mixedInto wsX5_mixed := goodIn_r _ [4, 5] (by decide +kernel) (by decide +kernel)
set_option maxRecDepth 20000 in
theorem gX1_mixedInto_X5_mixed_n62 : GoodIn wsX1_mixedInto (wsX5_mixed) := ggX1_mixedInto_X5_mixed
theorem dX1_mixedInto_0 : decode cX1_mixedInto 0 = .ok (.lload_n 1, 1) := by decide +kernel
theorem dX1_mixedInto_1 : decode cX1_mixedInto 1 = .ok (.lstore_n 3, 1) := by decide +kernel
theorem dX1_mixedInto_2 : decode cX1_mixedInto 2 = .ok (.iconst 0, 1) := by decide +kernel
theorem dX1_mixedInto_3 : decode cX1_mixedInto 3 = .ok (.istore 5, 2) := by decide +kernel
theorem dX1_mixedInto_5 : decode cX1_mixedInto 5 = .ok (.iload 5, 2) := by decide +kernel
theorem dX1_mixedInto_7 : decode cX1_mixedInto 7 = .ok (.bipush 16, 2) := by decide +kernel
theorem dX1_mixedInto_9 : decode cX1_mixedInto 9 = .ok (.if_icmp .ge 23, 3) := by decide +kernel
theorem dX1_mixedInto_12 : decode cX1_mixedInto 12 = .ok (.lload_n 3, 1) := by decide +kernel
theorem dX1_mixedInto_13 : decode cX1_mixedInto 13 = .ok (.aload_n 0, 1) := by decide +kernel
theorem dX1_mixedInto_14 : decode cX1_mixedInto 14 = .ok (.getfield 18, 3) := by decide +kernel
theorem dX1_mixedInto_17 : decode cX1_mixedInto 17 = .ok (.iload 5, 2) := by decide +kernel
theorem dX1_mixedInto_19 : decode cX1_mixedInto 19 = .ok (.ishr, 1) := by decide +kernel
theorem dX1_mixedInto_20 : decode cX1_mixedInto 20 = .ok (.iconst 1, 1) := by decide +kernel
theorem dX1_mixedInto_21 : decode cX1_mixedInto 21 = .ok (.iand, 1) := by decide +kernel
theorem dX1_mixedInto_22 : decode cX1_mixedInto 22 = .ok (.invokestatic 62, 3) := by decide +kernel
theorem dX1_mixedInto_25 : decode cX1_mixedInto 25 = .ok (.lstore_n 3, 1) := by decide +kernel
theorem dX1_mixedInto_26 : decode cX1_mixedInto 26 = .ok (.iinc 5 1, 3) := by decide +kernel
theorem dX1_mixedInto_29 : decode cX1_mixedInto 29 = .ok (.goto (-24), 3) := by decide +kernel
theorem dX1_mixedInto_32 : decode cX1_mixedInto 32 = .ok (.lload_n 3, 1) := by decide +kernel
theorem dX1_mixedInto_33 : decode cX1_mixedInto 33 = .ok (.lreturn, 1) := by decide +kernel
theorem dX2_init_0 : decode cX2_init 0 = .ok (.aload_n 0, 1) := by decide +kernel
theorem dX2_init_1 : decode cX2_init 1 = .ok (.invokespecial 3, 3) := by decide +kernel
theorem dX2_init_4 : decode cX2_init 4 = .ok (.aload_n 0, 1) := by decide +kernel
theorem dX2_init_5 : decode cX2_init 5 = .ok (.sipush 256, 3) := by decide +kernel
theorem dX2_init_8 : decode cX2_init 8 = .ok (.newarray .boolean, 2) := by decide +kernel
theorem dX2_init_10 : decode cX2_init 10 = .ok (.putfield 9, 3) := by decide +kernel
theorem dX2_init_13 : decode cX2_init 13 = .ok (.return_, 1) := by decide +kernel
theorem dX2_canHold_0 : decode cX2_canHold 0 = .ok (.iload_n 1, 1) := by decide +kernel
theorem dX2_canHold_1 : decode cX2_canHold 1 = .ok (.ifCond .lt 16, 3) := by decide +kernel
theorem dX2_canHold_4 : decode cX2_canHold 4 = .ok (.iload_n 1, 1) := by decide +kernel
theorem dX2_canHold_5 : decode cX2_canHold 5 = .ok (.aload_n 0, 1) := by decide +kernel
theorem dX2_canHold_6 : decode cX2_canHold 6 = .ok (.getfield 9, 3) := by decide +kernel
theorem dX2_canHold_9 : decode cX2_canHold 9 = .ok (.arraylength, 1) := by decide +kernel
theorem dX2_canHold_10 : decode cX2_canHold 10 = .ok (.if_icmp .ge 7, 3) := by decide +kernel
theorem dX2_canHold_13 : decode cX2_canHold 13 = .ok (.iconst 1, 1) := by decide +kernel
theorem dX2_canHold_14 : decode cX2_canHold 14 = .ok (.goto 4, 3) := by decide +kernel
theorem dX2_canHold_17 : decode cX2_canHold 17 = .ok (.iconst 0, 1) := by decide +kernel
theorem dX2_canHold_18 : decode cX2_canHold 18 = .ok (.ireturn, 1) := by decide +kernel
set_option maxRecDepth 20000 in
theorem ggX2_contains_X2_canHold : GoodIn wsX2_contains wsX2_canHold := goodIn_r _ [6, 1, 7] (by decide +kernel) (by decide +kernel)
set_option maxRecDepth 20000 in
theorem gX2_contains_X2_canHold : GoodIn wsX2_contains (wsV RX2 15 RX2 yX2_canHold wsX2_canHold) := goodIn_app (goodIn_of _ (by decide +kernel)) ggX2_contains_X2_canHold
theorem dX2_contains_0 : decode cX2_contains 0 = .ok (.aload_n 0, 1) := by decide +kernel
theorem dX2_contains_1 : decode cX2_contains 1 = .ok (.iload_n 1, 1) := by decide +kernel
theorem dX2_contains_2 : decode cX2_contains 2 = .ok (.invokevirtual 15, 3) := by decide +kernel
theorem dX2_contains_5 : decode cX2_contains 5 = .ok (.ifCond .eq 16, 3) := by decide +kernel
theorem dX2_contains_8 : decode cX2_contains 8 = .ok (.aload_n 0, 1) := by decide +kernel
theorem dX2_contains_9 : decode cX2_contains 9 = .ok (.getfield 9, 3) := by decide +kernel
theorem dX2_contains_12 : decode cX2_contains 12 = .ok (.iload_n 1, 1) := by decide +kernel
theorem dX2_contains_13 : decode cX2_contains 13 = .ok (.baload, 1) := by decide +kernel
theorem dX2_contains_14 : decode cX2_contains 14 = .ok (.ifCond .eq 7, 3) := by decide +kernel
theorem dX2_contains_17 : decode cX2_contains 17 = .ok (.iconst 1, 1) := by decide +kernel
theorem dX2_contains_18 : decode cX2_contains 18 = .ok (.goto 4, 3) := by decide +kernel
theorem dX2_contains_21 : decode cX2_contains 21 = .ok (.iconst 0, 1) := by decide +kernel
theorem dX2_contains_22 : decode cX2_contains 22 = .ok (.ireturn, 1) := by decide +kernel
set_option maxRecDepth 20000 in
theorem ggX2_add_X2_canHold : GoodIn wsX2_add wsX2_canHold := goodIn_r _ [6, 1, 7] (by decide +kernel) (by decide +kernel)
set_option maxRecDepth 20000 in
theorem gX2_add_X2_canHold : GoodIn wsX2_add (wsV RX2 15 RX2 yX2_canHold wsX2_canHold) := goodIn_app (goodIn_of _ (by decide +kernel)) ggX2_add_X2_canHold
theorem dX2_add_0 : decode cX2_add 0 = .ok (.aload_n 0, 1) := by decide +kernel
theorem dX2_add_1 : decode cX2_add 1 = .ok (.iload_n 1, 1) := by decide +kernel
theorem dX2_add_2 : decode cX2_add 2 = .ok (.invokevirtual 15, 3) := by decide +kernel
theorem dX2_add_5 : decode cX2_add 5 = .ok (.ifCond .eq 12, 3) := by decide +kernel
theorem dX2_add_8 : decode cX2_add 8 = .ok (.aload_n 0, 1) := by decide +kernel
theorem dX2_add_9 : decode cX2_add 9 = .ok (.getfield 9, 3) := by decide +kernel
theorem dX2_add_12 : decode cX2_add 12 = .ok (.iload_n 1, 1) := by decide +kernel
theorem dX2_add_13 : decode cX2_add 13 = .ok (.baload, 1) := by decide +kernel
theorem dX2_add_14 : decode cX2_add 14 = .ok (.ifCond .eq 5, 3) := by decide +kernel
theorem dX2_add_17 : decode cX2_add 17 = .ok (.iconst 0, 1) := by decide +kernel
theorem dX2_add_18 : decode cX2_add 18 = .ok (.ireturn, 1) := by decide +kernel
theorem dX2_add_19 : decode cX2_add 19 = .ok (.aload_n 0, 1) := by decide +kernel
theorem dX2_add_20 : decode cX2_add 20 = .ok (.getfield 9, 3) := by decide +kernel
theorem dX2_add_23 : decode cX2_add 23 = .ok (.iload_n 1, 1) := by decide +kernel
theorem dX2_add_24 : decode cX2_add 24 = .ok (.iconst 1, 1) := by decide +kernel
theorem dX2_add_25 : decode cX2_add 25 = .ok (.bastore, 1) := by decide +kernel
theorem dX2_add_26 : decode cX2_add 26 = .ok (.iconst 1, 1) := by decide +kernel
theorem dX2_add_27 : decode cX2_add 27 = .ok (.ireturn, 1) := by decide +kernel
set_option maxRecDepth 20000 in
theorem ggX2_remove_X2_contains : GoodIn wsX2_remove wsX2_contains := goodIn_ca (goodIn_r _ [6, 1, 7, 8, 9, 5, 10, 11] (by decide +kernel) (by decide +kernel)) (goodIn_sub (fun _ h => List.mem_cons_of_mem _ (List.mem_append_right _ h)) (by decide +kernel))
set_option maxRecDepth 20000 in
theorem gX2_remove_X2_contains : GoodIn wsX2_remove (wsV RX2 19 RX2 yX2_contains wsX2_contains) := goodIn_app (goodIn_of _ (by decide +kernel)) ggX2_remove_X2_contains
theorem dX2_remove_0 : decode cX2_remove 0 = .ok (.aload_n 0, 1) := by decide +kernel
theorem dX2_remove_1 : decode cX2_remove 1 = .ok (.iload_n 1, 1) := by decide +kernel
theorem dX2_remove_2 : decode cX2_remove 2 = .ok (.invokevirtual 19, 3) := by decide +kernel
theorem dX2_remove_5 : decode cX2_remove 5 = .ok (.ifCond .ne 5, 3) := by decide +kernel
theorem dX2_remove_8 : decode cX2_remove 8 = .ok (.iconst 0, 1) := by decide +kernel
theorem dX2_remove_9 : decode cX2_remove 9 = .ok (.ireturn, 1) := by decide +kernel
theorem dX2_remove_10 : decode cX2_remove 10 = .ok (.aload_n 0, 1) := by decide +kernel
theorem dX2_remove_11 : decode cX2_remove 11 = .ok (.getfield 9, 3) := by decide +kernel
theorem dX2_remove_14 : decode cX2_remove 14 = .ok (.iload_n 1, 1) := by decide +kernel
theorem dX2_remove_15 : decode cX2_remove 15 = .ok (.iconst 0, 1) := by decide +kernel
theorem dX2_remove_16 : decode cX2_remove 16 = .ok (.bastore, 1) := by decide +kernel
theorem dX2_remove_17 : decode cX2_remove 17 = .ok (.iconst 1, 1) := by decide +kernel
theorem dX2_remove_18 : decode cX2_remove 18 = .ok (.ireturn, 1) := by decide +kernel
theorem dX2_count_0 : decode cX2_count 0 = .ok (.iconst 0, 1) := by decide +kernel
theorem dX2_count_1 : decode cX2_count 1 = .ok (.istore_n 1, 1) := by decide +kernel
theorem dX2_count_2 : decode cX2_count 2 = .ok (.aload_n 0, 1) := by decide +kernel
theorem dX2_count_3 : decode cX2_count 3 = .ok (.getfield 9, 3) := by decide +kernel
theorem dX2_count_6 : decode cX2_count 6 = .ok (.astore_n 2, 1) := by decide +kernel
theorem dX2_count_7 : decode cX2_count 7 = .ok (.aload_n 2, 1) := by decide +kernel
theorem dX2_count_8 : decode cX2_count 8 = .ok (.arraylength, 1) := by decide +kernel
theorem dX2_count_9 : decode cX2_count 9 = .ok (.istore_n 3, 1) := by decide +kernel
theorem dX2_count_10 : decode cX2_count 10 = .ok (.iconst 0, 1) := by decide +kernel
theorem dX2_count_11 : decode cX2_count 11 = .ok (.istore 4, 2) := by decide +kernel
theorem dX2_count_13 : decode cX2_count 13 = .ok (.iload 4, 2) := by decide +kernel
theorem dX2_count_15 : decode cX2_count 15 = .ok (.iload_n 3, 1) := by decide +kernel
theorem dX2_count_16 : decode cX2_count 16 = .ok (.if_icmp .ge 23, 3) := by decide +kernel
theorem dX2_count_19 : decode cX2_count 19 = .ok (.aload_n 2, 1) := by decide +kernel
theorem dX2_count_20 : decode cX2_count 20 = .ok (.iload 4, 2) := by decide +kernel
theorem dX2_count_22 : decode cX2_count 22 = .ok (.baload, 1) := by decide +kernel
theorem dX2_count_23 : decode cX2_count 23 = .ok (.istore 5, 2) := by decide +kernel
theorem dX2_count_25 : decode cX2_count 25 = .ok (.iload 5, 2) := by decide +kernel
theorem dX2_count_27 : decode cX2_count 27 = .ok (.ifCond .eq 6, 3) := by decide +kernel
theorem dX2_count_30 : decode cX2_count 30 = .ok (.iinc 1 1, 3) := by decide +kernel
theorem dX2_count_33 : decode cX2_count 33 = .ok (.iinc 4 1, 3) := by decide +kernel
theorem dX2_count_36 : decode cX2_count 36 = .ok (.goto (-23), 3) := by decide +kernel
theorem dX2_count_39 : decode cX2_count 39 = .ok (.iload_n 1, 1) := by decide +kernel
theorem dX2_count_40 : decode cX2_count 40 = .ok (.ireturn, 1) := by decide +kernel
theorem dX2_numberBehind_0 : decode cX2_numberBehind 0 = .ok (.iconst 0, 1) := by decide +kernel
theorem dX2_numberBehind_1 : decode cX2_numberBehind 1 = .ok (.istore_n 2, 1) := by decide +kernel
theorem dX2_numberBehind_2 : decode cX2_numberBehind 2 = .ok (.iconst 0, 1) := by decide +kernel
theorem dX2_numberBehind_3 : decode cX2_numberBehind 3 = .ok (.istore_n 3, 1) := by decide +kernel
theorem dX2_numberBehind_4 : decode cX2_numberBehind 4 = .ok (.iload_n 3, 1) := by decide +kernel
theorem dX2_numberBehind_5 : decode cX2_numberBehind 5 = .ok (.aload_n 0, 1) := by decide +kernel
theorem dX2_numberBehind_6 : decode cX2_numberBehind 6 = .ok (.getfield 9, 3) := by decide +kernel
theorem dX2_numberBehind_9 : decode cX2_numberBehind 9 = .ok (.arraylength, 1) := by decide +kernel
theorem dX2_numberBehind_10 : decode cX2_numberBehind 10 = .ok (.if_icmp .ge 28, 3) := by decide +kernel
theorem dX2_numberBehind_13 : decode cX2_numberBehind 13 = .ok (.aload_n 0, 1) := by decide +kernel
theorem dX2_numberBehind_14 : decode cX2_numberBehind 14 = .ok (.getfield 9, 3) := by decide +kernel
theorem dX2_numberBehind_17 : decode cX2_numberBehind 17 = .ok (.iload_n 3, 1) := by decide +kernel
theorem dX2_numberBehind_18 : decode cX2_numberBehind 18 = .ok (.baload, 1) := by decide +kernel
theorem dX2_numberBehind_19 : decode cX2_numberBehind 19 = .ok (.ifCond .eq 13, 3) := by decide +kernel
theorem dX2_numberBehind_22 : decode cX2_numberBehind 22 = .ok (.iload_n 2, 1) := by decide +kernel
theorem dX2_numberBehind_23 : decode cX2_numberBehind 23 = .ok (.iload_n 1, 1) := by decide +kernel
theorem dX2_numberBehind_24 : decode cX2_numberBehind 24 = .ok (.if_icmp .ne 5, 3) := by decide +kernel
theorem dX2_numberBehind_27 : decode cX2_numberBehind 27 = .ok (.iload_n 3, 1) := by decide +kernel
theorem dX2_numberBehind_28 : decode cX2_numberBehind 28 = .ok (.ireturn, 1) := by decide +kernel
theorem dX2_numberBehind_29 : decode cX2_numberBehind 29 = .ok (.iinc 2 1, 3) := by decide +kernel
theorem dX2_numberBehind_32 : decode cX2_numberBehind 32 = .ok (.iinc 3 1, 3) := by decide +kernel
theorem dX2_numberBehind_35 : decode cX2_numberBehind 35 = .ok (.goto (-31), 3) := by decide +kernel
theorem dX2_numberBehind_38 : decode cX2_numberBehind 38 = .ok (.iconst (-1), 1) := by decide +kernel
theorem dX2_numberBehind_39 : decode cX2_numberBehind 39 = .ok (.ireturn, 1) := by decide +kernel
theorem dX2_leastAbsent_0 : decode cX2_leastAbsent 0 = .ok (.iconst 0, 1) := by decide +kernel
theorem dX2_leastAbsent_1 : decode cX2_leastAbsent 1 = .ok (.istore_n 1, 1) := by decide +kernel
theorem dX2_leastAbsent_2 : decode cX2_leastAbsent 2 = .ok (.iload_n 1, 1) := by decide +kernel
theorem dX2_leastAbsent_3 : decode cX2_leastAbsent 3 = .ok (.aload_n 0, 1) := by decide +kernel
theorem dX2_leastAbsent_4 : decode cX2_leastAbsent 4 = .ok (.getfield 9, 3) := by decide +kernel
theorem dX2_leastAbsent_7 : decode cX2_leastAbsent 7 = .ok (.arraylength, 1) := by decide +kernel
theorem dX2_leastAbsent_8 : decode cX2_leastAbsent 8 = .ok (.if_icmp .ge 18, 3) := by decide +kernel
theorem dX2_leastAbsent_11 : decode cX2_leastAbsent 11 = .ok (.aload_n 0, 1) := by decide +kernel
theorem dX2_leastAbsent_12 : decode cX2_leastAbsent 12 = .ok (.getfield 9, 3) := by decide +kernel
theorem dX2_leastAbsent_15 : decode cX2_leastAbsent 15 = .ok (.iload_n 1, 1) := by decide +kernel
theorem dX2_leastAbsent_16 : decode cX2_leastAbsent 16 = .ok (.baload, 1) := by decide +kernel
theorem dX2_leastAbsent_17 : decode cX2_leastAbsent 17 = .ok (.ifCond .eq 9, 3) := by decide +kernel
theorem dX2_leastAbsent_20 : decode cX2_leastAbsent 20 = .ok (.iinc 1 1, 3) := by decide +kernel
theorem dX2_leastAbsent_23 : decode cX2_leastAbsent 23 = .ok (.goto (-21), 3) := by decide +kernel
theorem dX2_leastAbsent_26 : decode cX2_leastAbsent 26 = .ok (.iload_n 1, 1) := by decide +kernel
theorem dX2_leastAbsent_27 : decode cX2_leastAbsent 27 = .ok (.ireturn, 1) := by decide +kernel
theorem dX2_empty_0 : decode cX2_empty 0 = .ok (.iconst 0, 1) := by decide +kernel
theorem dX2_empty_1 : decode cX2_empty 1 = .ok (.istore_n 1, 1) := by decide +kernel
theorem dX2_empty_2 : decode cX2_empty 2 = .ok (.iload_n 1, 1) := by decide +kernel
theorem dX2_empty_3 : decode cX2_empty 3 = .ok (.aload_n 0, 1) := by decide +kernel
theorem dX2_empty_4 : decode cX2_empty 4 = .ok (.getfield 9, 3) := by decide +kernel
theorem dX2_empty_7 : decode cX2_empty 7 = .ok (.arraylength, 1) := by decide +kernel
theorem dX2_empty_8 : decode cX2_empty 8 = .ok (.if_icmp .ge 16, 3) := by decide +kernel
theorem dX2_empty_11 : decode cX2_empty 11 = .ok (.aload_n 0, 1) := by decide +kernel
theorem dX2_empty_12 : decode cX2_empty 12 = .ok (.getfield 9, 3) := by decide +kernel
theorem dX2_empty_15 : decode cX2_empty 15 = .ok (.iload_n 1, 1) := by decide +kernel
theorem dX2_empty_16 : decode cX2_empty 16 = .ok (.iconst 0, 1) := by decide +kernel
theorem dX2_empty_17 : decode cX2_empty 17 = .ok (.bastore, 1) := by decide +kernel
theorem dX2_empty_18 : decode cX2_empty 18 = .ok (.iinc 1 1, 3) := by decide +kernel
theorem dX2_empty_21 : decode cX2_empty 21 = .ok (.goto (-19), 3) := by decide +kernel
theorem dX2_empty_24 : decode cX2_empty 24 = .ok (.return_, 1) := by decide +kernel
set_option maxRecDepth 20000 in
theorem ggX2_become_X2_contains : GoodIn wsX2_become wsX2_contains := goodIn_ca (goodIn_r _ [6, 1, 7, 8, 9, 5, 10, 11] (by decide +kernel) (by decide +kernel)) (goodIn_sub (fun _ h => List.mem_cons_of_mem _ (List.mem_append_right _ h)) (by decide +kernel))
set_option maxRecDepth 20000 in
theorem gX2_become_X2_contains : GoodIn wsX2_become (wsV RX2 19 RX2 yX2_contains wsX2_contains) := goodIn_app (goodIn_of _ (by decide +kernel)) ggX2_become_X2_contains
theorem dX2_become_0 : decode cX2_become 0 = .ok (.iconst 0, 1) := by decide +kernel
theorem dX2_become_1 : decode cX2_become 1 = .ok (.istore_n 2, 1) := by decide +kernel
theorem dX2_become_2 : decode cX2_become 2 = .ok (.iconst 0, 1) := by decide +kernel
theorem dX2_become_3 : decode cX2_become 3 = .ok (.istore_n 3, 1) := by decide +kernel
theorem dX2_become_4 : decode cX2_become 4 = .ok (.iload_n 3, 1) := by decide +kernel
theorem dX2_become_5 : decode cX2_become 5 = .ok (.aload_n 0, 1) := by decide +kernel
theorem dX2_become_6 : decode cX2_become 6 = .ok (.getfield 9, 3) := by decide +kernel
theorem dX2_become_9 : decode cX2_become 9 = .ok (.arraylength, 1) := by decide +kernel
theorem dX2_become_10 : decode cX2_become 10 = .ok (.if_icmp .ge 41, 3) := by decide +kernel
theorem dX2_become_13 : decode cX2_become 13 = .ok (.aload_n 1, 1) := by decide +kernel
theorem dX2_become_14 : decode cX2_become 14 = .ok (.iload_n 3, 1) := by decide +kernel
theorem dX2_become_15 : decode cX2_become 15 = .ok (.invokevirtual 19, 3) := by decide +kernel
theorem dX2_become_18 : decode cX2_become 18 = .ok (.istore 4, 2) := by decide +kernel
theorem dX2_become_20 : decode cX2_become 20 = .ok (.iload 4, 2) := by decide +kernel
theorem dX2_become_22 : decode cX2_become 22 = .ok (.ifCond .eq 15, 3) := by decide +kernel
theorem dX2_become_25 : decode cX2_become 25 = .ok (.aload_n 0, 1) := by decide +kernel
theorem dX2_become_26 : decode cX2_become 26 = .ok (.getfield 9, 3) := by decide +kernel
theorem dX2_become_29 : decode cX2_become 29 = .ok (.iload_n 3, 1) := by decide +kernel
theorem dX2_become_30 : decode cX2_become 30 = .ok (.baload, 1) := by decide +kernel
theorem dX2_become_31 : decode cX2_become 31 = .ok (.ifCond .ne 6, 3) := by decide +kernel
theorem dX2_become_34 : decode cX2_become 34 = .ok (.iinc 2 1, 3) := by decide +kernel
theorem dX2_become_37 : decode cX2_become 37 = .ok (.aload_n 0, 1) := by decide +kernel
theorem dX2_become_38 : decode cX2_become 38 = .ok (.getfield 9, 3) := by decide +kernel
theorem dX2_become_41 : decode cX2_become 41 = .ok (.iload_n 3, 1) := by decide +kernel
theorem dX2_become_42 : decode cX2_become 42 = .ok (.iload 4, 2) := by decide +kernel
theorem dX2_become_44 : decode cX2_become 44 = .ok (.bastore, 1) := by decide +kernel
theorem dX2_become_45 : decode cX2_become 45 = .ok (.iinc 3 1, 3) := by decide +kernel
theorem dX2_become_48 : decode cX2_become 48 = .ok (.goto (-44), 3) := by decide +kernel
theorem dX2_become_51 : decode cX2_become 51 = .ok (.iload_n 2, 1) := by decide +kernel
theorem dX2_become_52 : decode cX2_become 52 = .ok (.ireturn, 1) := by decide +kernel
set_option maxRecDepth 20000 in
theorem ggX3_init_X2_init : GoodIn wsX3_init wsX2_init := goodIn_r _ [11, 12, 2, 3, 13, 14, 26] (by decide +kernel) (by decide +kernel)
set_option maxRecDepth 20000 in
theorem gX3_init_X2_init_n17 : GoodIn wsX3_init (wsX2_init) := ggX3_init_X2_init
set_option maxRecDepth 20000 in
theorem ggX3_init_X3_productOf : GoodIn wsX3_init wsX3_productOf := goodIn_ca (goodIn_ca (goodIn_r _ [19, 20, 21, 22, 18, 23, 5, 24, 25] (by decide +kernel) (by decide +kernel)) (goodIn_sub (fun _ h => List.mem_cons_of_mem _ (List.mem_append_right _ h)) (by decide +kernel))) (goodIn_sub (fun _ h => List.mem_cons_of_mem _ (List.mem_append_left _ (List.mem_append_right _ h))) (by decide +kernel))
set_option maxRecDepth 20000 in
theorem gX3_init_X3_productOf : GoodIn wsX3_init (wsV RX3 22 RX3 yX3_productOf wsX3_productOf) := goodIn_app (goodIn_of _ (by decide +kernel)) ggX3_init_X3_productOf
theorem dX3_init_0 : decode cX3_init 0 = .ok (.aload_n 0, 1) := by decide +kernel
theorem dX3_init_1 : decode cX3_init 1 = .ok (.invokespecial 3, 3) := by decide +kernel
theorem dX3_init_4 : decode cX3_init 4 = .ok (.aload_n 0, 1) := by decide +kernel
theorem dX3_init_5 : decode cX3_init 5 = .ok (.sipush 256, 3) := by decide +kernel
theorem dX3_init_8 : decode cX3_init 8 = .ok (.newarray .int, 2) := by decide +kernel
theorem dX3_init_10 : decode cX3_init 10 = .ok (.putfield 11, 3) := by decide +kernel
theorem dX3_init_13 : decode cX3_init 13 = .ok (.aload_n 0, 1) := by decide +kernel
theorem dX3_init_14 : decode cX3_init 14 = .ok (.new 15, 3) := by decide +kernel
theorem dX3_init_17 : decode cX3_init 17 = .ok (.dup, 1) := by decide +kernel
theorem dX3_init_18 : decode cX3_init 18 = .ok (.invokespecial 17, 3) := by decide +kernel
theorem dX3_init_21 : decode cX3_init 21 = .ok (.putfield 18, 3) := by decide +kernel
theorem dX3_init_24 : decode cX3_init 24 = .ok (.iconst 0, 1) := by decide +kernel
theorem dX3_init_25 : decode cX3_init 25 = .ok (.istore_n 1, 1) := by decide +kernel
theorem dX3_init_26 : decode cX3_init 26 = .ok (.iload_n 1, 1) := by decide +kernel
theorem dX3_init_27 : decode cX3_init 27 = .ok (.bipush 16, 2) := by decide +kernel
theorem dX3_init_29 : decode cX3_init 29 = .ok (.if_icmp .ge 40, 3) := by decide +kernel
theorem dX3_init_32 : decode cX3_init 32 = .ok (.iconst 0, 1) := by decide +kernel
theorem dX3_init_33 : decode cX3_init 33 = .ok (.istore_n 2, 1) := by decide +kernel
theorem dX3_init_34 : decode cX3_init 34 = .ok (.iload_n 2, 1) := by decide +kernel
theorem dX3_init_35 : decode cX3_init 35 = .ok (.bipush 16, 2) := by decide +kernel
theorem dX3_init_37 : decode cX3_init 37 = .ok (.if_icmp .ge 26, 3) := by decide +kernel
theorem dX3_init_40 : decode cX3_init 40 = .ok (.aload_n 0, 1) := by decide +kernel
theorem dX3_init_41 : decode cX3_init 41 = .ok (.getfield 11, 3) := by decide +kernel
theorem dX3_init_44 : decode cX3_init 44 = .ok (.bipush 16, 2) := by decide +kernel
theorem dX3_init_46 : decode cX3_init 46 = .ok (.iload_n 1, 1) := by decide +kernel
theorem dX3_init_47 : decode cX3_init 47 = .ok (.imul, 1) := by decide +kernel
theorem dX3_init_48 : decode cX3_init 48 = .ok (.iload_n 2, 1) := by decide +kernel
theorem dX3_init_49 : decode cX3_init 49 = .ok (.iadd, 1) := by decide +kernel
theorem dX3_init_50 : decode cX3_init 50 = .ok (.aload_n 0, 1) := by decide +kernel
theorem dX3_init_51 : decode cX3_init 51 = .ok (.iload_n 1, 1) := by decide +kernel
theorem dX3_init_52 : decode cX3_init 52 = .ok (.iload_n 2, 1) := by decide +kernel
theorem dX3_init_53 : decode cX3_init 53 = .ok (.invokevirtual 22, 3) := by decide +kernel
theorem dX3_init_56 : decode cX3_init 56 = .ok (.iastore, 1) := by decide +kernel
theorem dX3_init_57 : decode cX3_init 57 = .ok (.iinc 2 1, 3) := by decide +kernel
theorem dX3_init_60 : decode cX3_init 60 = .ok (.goto (-26), 3) := by decide +kernel
theorem dX3_init_63 : decode cX3_init 63 = .ok (.iinc 1 1, 3) := by decide +kernel
theorem dX3_init_66 : decode cX3_init 66 = .ok (.goto (-40), 3) := by decide +kernel
theorem dX3_init_69 : decode cX3_init 69 = .ok (.return_, 1) := by decide +kernel
set_option maxRecDepth 20000 in
theorem ggX3_productOf_X3_smallProduct : GoodIn wsX3_productOf wsX3_smallProduct := goodIn_ca (goodIn_r _ [5, 6, 7, 8] (by decide +kernel) (by decide +kernel)) (goodIn_sub (fun _ h => List.mem_cons_of_mem _ (List.mem_append_right _ h)) (by decide +kernel))
set_option maxRecDepth 20000 in
theorem gX3_productOf_X3_smallProduct : GoodIn wsX3_productOf (wsV RX3 26 RX3 yX3_smallProduct wsX3_smallProduct) := goodIn_app (goodIn_of _ (by decide +kernel)) ggX3_productOf_X3_smallProduct
theorem dX3_productOf_0 : decode cX3_productOf 0 = .ok (.iload_n 1, 1) := by decide +kernel
theorem dX3_productOf_1 : decode cX3_productOf 1 = .ok (.iconst 2, 1) := by decide +kernel
theorem dX3_productOf_2 : decode cX3_productOf 2 = .ok (.if_icmp .lt 8, 3) := by decide +kernel
theorem dX3_productOf_5 : decode cX3_productOf 5 = .ok (.iload_n 2, 1) := by decide +kernel
theorem dX3_productOf_6 : decode cX3_productOf 6 = .ok (.iconst 2, 1) := by decide +kernel
theorem dX3_productOf_7 : decode cX3_productOf 7 = .ok (.if_icmp .ge 7, 3) := by decide +kernel
theorem dX3_productOf_10 : decode cX3_productOf 10 = .ok (.iload_n 1, 1) := by decide +kernel
theorem dX3_productOf_11 : decode cX3_productOf 11 = .ok (.iload_n 2, 1) := by decide +kernel
theorem dX3_productOf_12 : decode cX3_productOf 12 = .ok (.imul, 1) := by decide +kernel
theorem dX3_productOf_13 : decode cX3_productOf 13 = .ok (.ireturn, 1) := by decide +kernel
theorem dX3_productOf_14 : decode cX3_productOf 14 = .ok (.iload_n 1, 1) := by decide +kernel
theorem dX3_productOf_15 : decode cX3_productOf 15 = .ok (.iload_n 2, 1) := by decide +kernel
theorem dX3_productOf_16 : decode cX3_productOf 16 = .ok (.if_icmp .le 7, 3) := by decide +kernel
theorem dX3_productOf_19 : decode cX3_productOf 19 = .ok (.iload_n 1, 1) := by decide +kernel
theorem dX3_productOf_20 : decode cX3_productOf 20 = .ok (.goto 4, 3) := by decide +kernel
theorem dX3_productOf_23 : decode cX3_productOf 23 = .ok (.iload_n 2, 1) := by decide +kernel
theorem dX3_productOf_24 : decode cX3_productOf 24 = .ok (.istore_n 3, 1) := by decide +kernel
theorem dX3_productOf_25 : decode cX3_productOf 25 = .ok (.iload_n 3, 1) := by decide +kernel
theorem dX3_productOf_26 : decode cX3_productOf 26 = .ok (.bipush 16, 2) := by decide +kernel
theorem dX3_productOf_28 : decode cX3_productOf 28 = .ok (.if_icmp .lt 8, 3) := by decide +kernel
theorem dX3_productOf_31 : decode cX3_productOf 31 = .ok (.bipush 16, 2) := by decide +kernel
theorem dX3_productOf_33 : decode cX3_productOf 33 = .ok (.goto 13, 3) := by decide +kernel
theorem dX3_productOf_36 : decode cX3_productOf 36 = .ok (.iload_n 3, 1) := by decide +kernel
theorem dX3_productOf_37 : decode cX3_productOf 37 = .ok (.iconst 4, 1) := by decide +kernel
theorem dX3_productOf_38 : decode cX3_productOf 38 = .ok (.if_icmp .lt 7, 3) := by decide +kernel
theorem dX3_productOf_41 : decode cX3_productOf 41 = .ok (.iconst 4, 1) := by decide +kernel
theorem dX3_productOf_42 : decode cX3_productOf 42 = .ok (.goto 4, 3) := by decide +kernel
theorem dX3_productOf_45 : decode cX3_productOf 45 = .ok (.iconst 2, 1) := by decide +kernel
theorem dX3_productOf_46 : decode cX3_productOf 46 = .ok (.istore 4, 2) := by decide +kernel
theorem dX3_productOf_48 : decode cX3_productOf 48 = .ok (.iload_n 1, 1) := by decide +kernel
theorem dX3_productOf_49 : decode cX3_productOf 49 = .ok (.iload 4, 2) := by decide +kernel
theorem dX3_productOf_51 : decode cX3_productOf 51 = .ok (.idiv, 1) := by decide +kernel
theorem dX3_productOf_52 : decode cX3_productOf 52 = .ok (.istore 5, 2) := by decide +kernel
theorem dX3_productOf_54 : decode cX3_productOf 54 = .ok (.iload_n 1, 1) := by decide +kernel
theorem dX3_productOf_55 : decode cX3_productOf 55 = .ok (.iload 4, 2) := by decide +kernel
theorem dX3_productOf_57 : decode cX3_productOf 57 = .ok (.irem, 1) := by decide +kernel
theorem dX3_productOf_58 : decode cX3_productOf 58 = .ok (.istore 6, 2) := by decide +kernel
theorem dX3_productOf_60 : decode cX3_productOf 60 = .ok (.iload_n 2, 1) := by decide +kernel
theorem dX3_productOf_61 : decode cX3_productOf 61 = .ok (.iload 4, 2) := by decide +kernel
theorem dX3_productOf_63 : decode cX3_productOf 63 = .ok (.idiv, 1) := by decide +kernel
theorem dX3_productOf_64 : decode cX3_productOf 64 = .ok (.istore 7, 2) := by decide +kernel
theorem dX3_productOf_66 : decode cX3_productOf 66 = .ok (.iload_n 2, 1) := by decide +kernel
theorem dX3_productOf_67 : decode cX3_productOf 67 = .ok (.iload 4, 2) := by decide +kernel
theorem dX3_productOf_69 : decode cX3_productOf 69 = .ok (.irem, 1) := by decide +kernel
theorem dX3_productOf_70 : decode cX3_productOf 70 = .ok (.istore 8, 2) := by decide +kernel
theorem dX3_productOf_72 : decode cX3_productOf 72 = .ok (.aload_n 0, 1) := by decide +kernel
theorem dX3_productOf_73 : decode cX3_productOf 73 = .ok (.iload 5, 2) := by decide +kernel
theorem dX3_productOf_75 : decode cX3_productOf 75 = .ok (.iload 7, 2) := by decide +kernel
theorem dX3_productOf_77 : decode cX3_productOf 77 = .ok (.invokevirtual 26, 3) := by decide +kernel
theorem dX3_productOf_80 : decode cX3_productOf 80 = .ok (.istore 9, 2) := by decide +kernel
theorem dX3_productOf_82 : decode cX3_productOf 82 = .ok (.iload 9, 2) := by decide +kernel
theorem dX3_productOf_84 : decode cX3_productOf 84 = .ok (.aload_n 0, 1) := by decide +kernel
theorem dX3_productOf_85 : decode cX3_productOf 85 = .ok (.iload 5, 2) := by decide +kernel
theorem dX3_productOf_87 : decode cX3_productOf 87 = .ok (.iload 8, 2) := by decide +kernel
theorem dX3_productOf_89 : decode cX3_productOf 89 = .ok (.invokevirtual 26, 3) := by decide +kernel
theorem dX3_productOf_92 : decode cX3_productOf 92 = .ok (.ixor, 1) := by decide +kernel
theorem dX3_productOf_93 : decode cX3_productOf 93 = .ok (.aload_n 0, 1) := by decide +kernel
theorem dX3_productOf_94 : decode cX3_productOf 94 = .ok (.iload 6, 2) := by decide +kernel
theorem dX3_productOf_96 : decode cX3_productOf 96 = .ok (.iload 7, 2) := by decide +kernel
theorem dX3_productOf_98 : decode cX3_productOf 98 = .ok (.invokevirtual 26, 3) := by decide +kernel
theorem dX3_productOf_101 : decode cX3_productOf 101 = .ok (.ixor, 1) := by decide +kernel
theorem dX3_productOf_102 : decode cX3_productOf 102 = .ok (.istore 10, 2) := by decide +kernel
theorem dX3_productOf_104 : decode cX3_productOf 104 = .ok (.iload 4, 2) := by decide +kernel
theorem dX3_productOf_106 : decode cX3_productOf 106 = .ok (.iload 10, 2) := by decide +kernel
theorem dX3_productOf_108 : decode cX3_productOf 108 = .ok (.imul, 1) := by decide +kernel
theorem dX3_productOf_109 : decode cX3_productOf 109 = .ok (.aload_n 0, 1) := by decide +kernel
theorem dX3_productOf_110 : decode cX3_productOf 110 = .ok (.iload 6, 2) := by decide +kernel
theorem dX3_productOf_112 : decode cX3_productOf 112 = .ok (.iload 8, 2) := by decide +kernel
theorem dX3_productOf_114 : decode cX3_productOf 114 = .ok (.invokevirtual 26, 3) := by decide +kernel
theorem dX3_productOf_117 : decode cX3_productOf 117 = .ok (.ixor, 1) := by decide +kernel
theorem dX3_productOf_118 : decode cX3_productOf 118 = .ok (.aload_n 0, 1) := by decide +kernel
theorem dX3_productOf_119 : decode cX3_productOf 119 = .ok (.iload 9, 2) := by decide +kernel
theorem dX3_productOf_121 : decode cX3_productOf 121 = .ok (.iload 4, 2) := by decide +kernel
theorem dX3_productOf_123 : decode cX3_productOf 123 = .ok (.iconst 2, 1) := by decide +kernel
theorem dX3_productOf_124 : decode cX3_productOf 124 = .ok (.idiv, 1) := by decide +kernel
theorem dX3_productOf_125 : decode cX3_productOf 125 = .ok (.invokevirtual 26, 3) := by decide +kernel
theorem dX3_productOf_128 : decode cX3_productOf 128 = .ok (.ixor, 1) := by decide +kernel
theorem dX3_productOf_129 : decode cX3_productOf 129 = .ok (.ireturn, 1) := by decide +kernel
theorem dX3_smallProduct_0 : decode cX3_smallProduct 0 = .ok (.iload_n 1, 1) := by decide +kernel
theorem dX3_smallProduct_1 : decode cX3_smallProduct 1 = .ok (.ifCond .lt 23, 3) := by decide +kernel
theorem dX3_smallProduct_4 : decode cX3_smallProduct 4 = .ok (.iload_n 1, 1) := by decide +kernel
theorem dX3_smallProduct_5 : decode cX3_smallProduct 5 = .ok (.bipush 16, 2) := by decide +kernel
theorem dX3_smallProduct_7 : decode cX3_smallProduct 7 = .ok (.if_icmp .ge 17, 3) := by decide +kernel
theorem dX3_smallProduct_10 : decode cX3_smallProduct 10 = .ok (.iload_n 2, 1) := by decide +kernel
theorem dX3_smallProduct_11 : decode cX3_smallProduct 11 = .ok (.ifCond .lt 13, 3) := by decide +kernel
theorem dX3_smallProduct_14 : decode cX3_smallProduct 14 = .ok (.iload_n 2, 1) := by decide +kernel
theorem dX3_smallProduct_15 : decode cX3_smallProduct 15 = .ok (.bipush 16, 2) := by decide +kernel
theorem dX3_smallProduct_17 : decode cX3_smallProduct 17 = .ok (.if_icmp .ge 7, 3) := by decide +kernel
theorem dX3_smallProduct_20 : decode cX3_smallProduct 20 = .ok (.iconst 1, 1) := by decide +kernel
theorem dX3_smallProduct_21 : decode cX3_smallProduct 21 = .ok (.goto 4, 3) := by decide +kernel
theorem dX3_smallProduct_24 : decode cX3_smallProduct 24 = .ok (.iconst 0, 1) := by decide +kernel
theorem dX3_smallProduct_25 : decode cX3_smallProduct 25 = .ok (.istore_n 3, 1) := by decide +kernel
theorem dX3_smallProduct_26 : decode cX3_smallProduct 26 = .ok (.iload_n 3, 1) := by decide +kernel
theorem dX3_smallProduct_27 : decode cX3_smallProduct 27 = .ok (.ifCond .eq 17, 3) := by decide +kernel
theorem dX3_smallProduct_30 : decode cX3_smallProduct 30 = .ok (.aload_n 0, 1) := by decide +kernel
theorem dX3_smallProduct_31 : decode cX3_smallProduct 31 = .ok (.getfield 11, 3) := by decide +kernel
theorem dX3_smallProduct_34 : decode cX3_smallProduct 34 = .ok (.bipush 16, 2) := by decide +kernel
theorem dX3_smallProduct_36 : decode cX3_smallProduct 36 = .ok (.iload_n 1, 1) := by decide +kernel
theorem dX3_smallProduct_37 : decode cX3_smallProduct 37 = .ok (.imul, 1) := by decide +kernel
theorem dX3_smallProduct_38 : decode cX3_smallProduct 38 = .ok (.iload_n 2, 1) := by decide +kernel
theorem dX3_smallProduct_39 : decode cX3_smallProduct 39 = .ok (.iadd, 1) := by decide +kernel
theorem dX3_smallProduct_40 : decode cX3_smallProduct 40 = .ok (.iaload, 1) := by decide +kernel
theorem dX3_smallProduct_41 : decode cX3_smallProduct 41 = .ok (.goto 4, 3) := by decide +kernel
theorem dX3_smallProduct_44 : decode cX3_smallProduct 44 = .ok (.iconst 0, 1) := by decide +kernel
theorem dX3_smallProduct_45 : decode cX3_smallProduct 45 = .ok (.ireturn, 1) := by decide +kernel
set_option maxRecDepth 20000 in
theorem ggX3_squareOf_X3_productOf : GoodIn wsX3_squareOf wsX3_productOf := goodIn_ca (goodIn_ca (goodIn_r _ [5, 6, 7, 8, 4, 9, 10, 11, 12] (by decide +kernel) (by decide +kernel)) (goodIn_sub (fun _ h => List.mem_cons_of_mem _ (List.mem_append_left _ (List.mem_append_right _ h))) (by decide +kernel))) (goodIn_sub (fun _ h => List.mem_cons_of_mem _ (List.mem_append_right _ h)) (by decide +kernel))
set_option maxRecDepth 20000 in
theorem gX3_squareOf_X3_productOf : GoodIn wsX3_squareOf (wsV RX3 22 RX3 yX3_productOf wsX3_productOf) := goodIn_app (goodIn_of _ (by decide +kernel)) ggX3_squareOf_X3_productOf
theorem dX3_squareOf_0 : decode cX3_squareOf 0 = .ok (.aload_n 0, 1) := by decide +kernel
theorem dX3_squareOf_1 : decode cX3_squareOf 1 = .ok (.iload_n 1, 1) := by decide +kernel
theorem dX3_squareOf_2 : decode cX3_squareOf 2 = .ok (.iload_n 1, 1) := by decide +kernel
theorem dX3_squareOf_3 : decode cX3_squareOf 3 = .ok (.invokevirtual 22, 3) := by decide +kernel
theorem dX3_squareOf_6 : decode cX3_squareOf 6 = .ok (.ireturn, 1) := by decide +kernel
set_option maxRecDepth 20000 in
theorem ggX3_powerOf_X3_productOf : GoodIn wsX3_powerOf wsX3_productOf := goodIn_ca (goodIn_ca (goodIn_r _ [5, 6, 7, 8, 4, 9, 10, 15, 16] (by decide +kernel) (by decide +kernel)) (goodIn_sub (fun _ h => List.mem_cons_of_mem _ (List.mem_append_left _ (List.mem_append_right _ h))) (by decide +kernel))) (goodIn_sub (fun _ h => List.mem_cons_of_mem _ (List.mem_append_right _ h)) (by decide +kernel))
set_option maxRecDepth 20000 in
theorem gX3_powerOf_X3_productOf : GoodIn wsX3_powerOf (wsV RX3 22 RX3 yX3_productOf wsX3_productOf) := goodIn_app (goodIn_of _ (by decide +kernel)) ggX3_powerOf_X3_productOf
set_option maxRecDepth 20000 in
theorem ggX3_powerOf_X3_squareOf : GoodIn wsX3_powerOf wsX3_squareOf := goodIn_ca (goodIn_ca (goodIn_r _ [14, 1, 2, 3, 4, 5, 6, 7, 8, 9, 10, 15, 16] (by decide +kernel) (by decide +kernel)) (goodIn_sub (fun _ h => List.mem_cons_of_mem _ (List.mem_append_left _ (List.mem_append_right _ h))) (by decide +kernel))) (goodIn_sub (fun _ h => List.mem_cons_of_mem _ (List.mem_append_right _ h)) (by decide +kernel))
set_option maxRecDepth 20000 in
theorem gX3_powerOf_X3_squareOf : GoodIn wsX3_powerOf (wsV RX3 29 RX3 yX3_squareOf wsX3_squareOf) := goodIn_app (goodIn_of _ (by decide +kernel)) ggX3_powerOf_X3_squareOf
theorem dX3_powerOf_0 : decode cX3_powerOf 0 = .ok (.iconst 1, 1) := by decide +kernel
theorem dX3_powerOf_1 : decode cX3_powerOf 1 = .ok (.istore_n 3, 1) := by decide +kernel
theorem dX3_powerOf_2 : decode cX3_powerOf 2 = .ok (.iload_n 1, 1) := by decide +kernel
theorem dX3_powerOf_3 : decode cX3_powerOf 3 = .ok (.istore 4, 2) := by decide +kernel
theorem dX3_powerOf_5 : decode cX3_powerOf 5 = .ok (.iload_n 2, 1) := by decide +kernel
theorem dX3_powerOf_6 : decode cX3_powerOf 6 = .ok (.istore 5, 2) := by decide +kernel
theorem dX3_powerOf_8 : decode cX3_powerOf 8 = .ok (.iload 5, 2) := by decide +kernel
theorem dX3_powerOf_10 : decode cX3_powerOf 10 = .ok (.ifCond .le 36, 3) := by decide +kernel
theorem dX3_powerOf_13 : decode cX3_powerOf 13 = .ok (.iload 5, 2) := by decide +kernel
theorem dX3_powerOf_15 : decode cX3_powerOf 15 = .ok (.iconst 2, 1) := by decide +kernel
theorem dX3_powerOf_16 : decode cX3_powerOf 16 = .ok (.irem, 1) := by decide +kernel
theorem dX3_powerOf_17 : decode cX3_powerOf 17 = .ok (.iconst 1, 1) := by decide +kernel
theorem dX3_powerOf_18 : decode cX3_powerOf 18 = .ok (.if_icmp .ne 11, 3) := by decide +kernel
theorem dX3_powerOf_21 : decode cX3_powerOf 21 = .ok (.aload_n 0, 1) := by decide +kernel
theorem dX3_powerOf_22 : decode cX3_powerOf 22 = .ok (.iload_n 3, 1) := by decide +kernel
theorem dX3_powerOf_23 : decode cX3_powerOf 23 = .ok (.iload 4, 2) := by decide +kernel
theorem dX3_powerOf_25 : decode cX3_powerOf 25 = .ok (.invokevirtual 22, 3) := by decide +kernel
theorem dX3_powerOf_28 : decode cX3_powerOf 28 = .ok (.istore_n 3, 1) := by decide +kernel
theorem dX3_powerOf_29 : decode cX3_powerOf 29 = .ok (.aload_n 0, 1) := by decide +kernel
theorem dX3_powerOf_30 : decode cX3_powerOf 30 = .ok (.iload 4, 2) := by decide +kernel
theorem dX3_powerOf_32 : decode cX3_powerOf 32 = .ok (.invokevirtual 29, 3) := by decide +kernel
theorem dX3_powerOf_35 : decode cX3_powerOf 35 = .ok (.istore 4, 2) := by decide +kernel
theorem dX3_powerOf_37 : decode cX3_powerOf 37 = .ok (.iload 5, 2) := by decide +kernel
theorem dX3_powerOf_39 : decode cX3_powerOf 39 = .ok (.iconst 2, 1) := by decide +kernel
theorem dX3_powerOf_40 : decode cX3_powerOf 40 = .ok (.idiv, 1) := by decide +kernel
theorem dX3_powerOf_41 : decode cX3_powerOf 41 = .ok (.istore 5, 2) := by decide +kernel
theorem dX3_powerOf_43 : decode cX3_powerOf 43 = .ok (.goto (-35), 3) := by decide +kernel
theorem dX3_powerOf_46 : decode cX3_powerOf 46 = .ok (.iload_n 3, 1) := by decide +kernel
theorem dX3_powerOf_47 : decode cX3_powerOf 47 = .ok (.ireturn, 1) := by decide +kernel
set_option maxRecDepth 20000 in
theorem ggX3_rootOf_X3_powerOf : GoodIn wsX3_rootOf wsX3_powerOf := goodIn_ca (goodIn_ca (goodIn_r _ [5, 6, 7, 8, 4, 9, 10, 11, 12, 13, 14, 15, 16, 17, 18, 19, 20] (by decide +kernel) (by decide +kernel)) (goodIn_sub (fun _ h => List.mem_cons_of_mem _ (List.mem_append_left _ (List.mem_append_right _ h))) (by decide +kernel))) (goodIn_sub (fun _ h => List.mem_cons_of_mem _ (List.mem_append_right _ h)) (by decide +kernel))
set_option maxRecDepth 20000 in
theorem gX3_rootOf_X3_powerOf : GoodIn wsX3_rootOf (wsV RX3 33 RX3 yX3_powerOf wsX3_powerOf) := goodIn_app (goodIn_of _ (by decide +kernel)) ggX3_rootOf_X3_powerOf
theorem dX3_rootOf_0 : decode cX3_rootOf 0 = .ok (.aload_n 0, 1) := by decide +kernel
theorem dX3_rootOf_1 : decode cX3_rootOf 1 = .ok (.iload_n 1, 1) := by decide +kernel
theorem dX3_rootOf_2 : decode cX3_rootOf 2 = .ok (.sipush 128, 3) := by decide +kernel
theorem dX3_rootOf_5 : decode cX3_rootOf 5 = .ok (.invokevirtual 33, 3) := by decide +kernel
theorem dX3_rootOf_8 : decode cX3_rootOf 8 = .ok (.ireturn, 1) := by decide +kernel
set_option maxRecDepth 20000 in
theorem ggX3_quotientOf_X3_powerOf : GoodIn wsX3_quotientOf wsX3_powerOf := goodIn_ca (goodIn_ca (goodIn_r _ [5, 6, 7, 8, 4, 9, 10, 11, 12, 13, 14, 15, 16, 17, 18, 19, 20] (by decide +kernel) (by decide +kernel)) (goodIn_sub (fun _ h => List.mem_cons_of_mem _ (List.mem_append_left _ (List.mem_append_right _ h))) (by decide +kernel))) (goodIn_sub (fun _ h => List.mem_cons_of_mem _ (List.mem_append_right _ h)) (by decide +kernel))
set_option maxRecDepth 20000 in
theorem gX3_quotientOf_X3_powerOf : GoodIn wsX3_quotientOf (wsV RX3 33 RX3 yX3_powerOf wsX3_powerOf) := goodIn_app (goodIn_of _ (by decide +kernel)) ggX3_quotientOf_X3_powerOf
set_option maxRecDepth 20000 in
theorem ggX3_quotientOf_X3_productOf : GoodIn wsX3_quotientOf wsX3_productOf := goodIn_ca (goodIn_ca (goodIn_r _ [9, 10, 11, 12, 4, 13, 14, 19, 20] (by decide +kernel) (by decide +kernel)) (goodIn_sub (fun _ h => List.mem_cons_of_mem _ (List.mem_append_left _ (List.mem_append_right _ h))) (by decide +kernel))) (goodIn_sub (fun _ h => List.mem_cons_of_mem _ (List.mem_append_right _ h)) (by decide +kernel))
set_option maxRecDepth 20000 in
theorem gX3_quotientOf_X3_productOf : GoodIn wsX3_quotientOf (wsV RX3 22 RX3 yX3_productOf wsX3_productOf) := goodIn_app (goodIn_of _ (by decide +kernel)) ggX3_quotientOf_X3_productOf
theorem dX3_quotientOf_0 : decode cX3_quotientOf 0 = .ok (.aload_n 0, 1) := by decide +kernel
theorem dX3_quotientOf_1 : decode cX3_quotientOf 1 = .ok (.iload_n 1, 1) := by decide +kernel
theorem dX3_quotientOf_2 : decode cX3_quotientOf 2 = .ok (.aload_n 0, 1) := by decide +kernel
theorem dX3_quotientOf_3 : decode cX3_quotientOf 3 = .ok (.iload_n 2, 1) := by decide +kernel
theorem dX3_quotientOf_4 : decode cX3_quotientOf 4 = .ok (.sipush 254, 3) := by decide +kernel
theorem dX3_quotientOf_7 : decode cX3_quotientOf 7 = .ok (.invokevirtual 33, 3) := by decide +kernel
theorem dX3_quotientOf_10 : decode cX3_quotientOf 10 = .ok (.invokevirtual 22, 3) := by decide +kernel
theorem dX3_quotientOf_13 : decode cX3_quotientOf 13 = .ok (.ireturn, 1) := by decide +kernel
set_option maxRecDepth 20000 in
theorem ggX3_solutionOf_X3_squareOf : GoodIn wsX3_solutionOf wsX3_squareOf := goodIn_ca (goodIn_ca (goodIn_r _ [5, 6, 7, 8, 4, 9, 10, 11, 12, 13, 14, 15, 16] (by decide +kernel) (by decide +kernel)) (goodIn_sub (fun _ h => List.mem_cons_of_mem _ (List.mem_append_left _ (List.mem_append_right _ h))) (by decide +kernel))) (goodIn_sub (fun _ h => List.mem_cons_of_mem _ (List.mem_append_right _ h)) (by decide +kernel))
set_option maxRecDepth 20000 in
theorem gX3_solutionOf_X3_squareOf : GoodIn wsX3_solutionOf (wsV RX3 29 RX3 yX3_squareOf wsX3_squareOf) := goodIn_app (goodIn_of _ (by decide +kernel)) ggX3_solutionOf_X3_squareOf
theorem dX3_solutionOf_0 : decode cX3_solutionOf 0 = .ok (.iconst (-1), 1) := by decide +kernel
theorem dX3_solutionOf_1 : decode cX3_solutionOf 1 = .ok (.istore_n 3, 1) := by decide +kernel
theorem dX3_solutionOf_2 : decode cX3_solutionOf 2 = .ok (.iconst 0, 1) := by decide +kernel
theorem dX3_solutionOf_3 : decode cX3_solutionOf 3 = .ok (.istore 4, 2) := by decide +kernel
theorem dX3_solutionOf_5 : decode cX3_solutionOf 5 = .ok (.iload 4, 2) := by decide +kernel
theorem dX3_solutionOf_7 : decode cX3_solutionOf 7 = .ok (.sipush 256, 3) := by decide +kernel
theorem dX3_solutionOf_10 : decode cX3_solutionOf 10 = .ok (.if_icmp .ge 46, 3) := by decide +kernel
theorem dX3_solutionOf_13 : decode cX3_solutionOf 13 = .ok (.iload_n 3, 1) := by decide +kernel
theorem dX3_solutionOf_14 : decode cX3_solutionOf 14 = .ok (.iconst (-1), 1) := by decide +kernel
theorem dX3_solutionOf_15 : decode cX3_solutionOf 15 = .ok (.if_icmp .eq 7, 3) := by decide +kernel
theorem dX3_solutionOf_18 : decode cX3_solutionOf 18 = .ok (.iload_n 2, 1) := by decide +kernel
theorem dX3_solutionOf_19 : decode cX3_solutionOf 19 = .ok (.ifCond .eq 7, 3) := by decide +kernel
theorem dX3_solutionOf_22 : decode cX3_solutionOf 22 = .ok (.iconst 1, 1) := by decide +kernel
theorem dX3_solutionOf_23 : decode cX3_solutionOf 23 = .ok (.goto 4, 3) := by decide +kernel
theorem dX3_solutionOf_26 : decode cX3_solutionOf 26 = .ok (.iconst 0, 1) := by decide +kernel
theorem dX3_solutionOf_27 : decode cX3_solutionOf 27 = .ok (.istore 5, 2) := by decide +kernel
theorem dX3_solutionOf_29 : decode cX3_solutionOf 29 = .ok (.iload 5, 2) := by decide +kernel
theorem dX3_solutionOf_31 : decode cX3_solutionOf 31 = .ok (.ifCond .eq 19, 3) := by decide +kernel
theorem dX3_solutionOf_34 : decode cX3_solutionOf 34 = .ok (.aload_n 0, 1) := by decide +kernel
theorem dX3_solutionOf_35 : decode cX3_solutionOf 35 = .ok (.iload 4, 2) := by decide +kernel
theorem dX3_solutionOf_37 : decode cX3_solutionOf 37 = .ok (.invokevirtual 29, 3) := by decide +kernel
theorem dX3_solutionOf_40 : decode cX3_solutionOf 40 = .ok (.iload 4, 2) := by decide +kernel
theorem dX3_solutionOf_42 : decode cX3_solutionOf 42 = .ok (.ixor, 1) := by decide +kernel
theorem dX3_solutionOf_43 : decode cX3_solutionOf 43 = .ok (.iload_n 1, 1) := by decide +kernel
theorem dX3_solutionOf_44 : decode cX3_solutionOf 44 = .ok (.if_icmp .ne 6, 3) := by decide +kernel
theorem dX3_solutionOf_47 : decode cX3_solutionOf 47 = .ok (.iload 4, 2) := by decide +kernel
theorem dX3_solutionOf_49 : decode cX3_solutionOf 49 = .ok (.istore_n 3, 1) := by decide +kernel
theorem dX3_solutionOf_50 : decode cX3_solutionOf 50 = .ok (.iinc 4 1, 3) := by decide +kernel
theorem dX3_solutionOf_53 : decode cX3_solutionOf 53 = .ok (.goto (-48), 3) := by decide +kernel
theorem dX3_solutionOf_56 : decode cX3_solutionOf 56 = .ok (.iload_n 3, 1) := by decide +kernel
theorem dX3_solutionOf_57 : decode cX3_solutionOf 57 = .ok (.ireturn, 1) := by decide +kernel
set_option maxRecDepth 20000 in
theorem ggX3_traceOf_X3_squareOf : GoodIn wsX3_traceOf wsX3_squareOf := goodIn_ca (goodIn_ca (goodIn_r _ [5, 6, 7, 8, 4, 9, 10, 11, 12, 13, 14, 15, 16] (by decide +kernel) (by decide +kernel)) (goodIn_sub (fun _ h => List.mem_cons_of_mem _ (List.mem_append_left _ (List.mem_append_right _ h))) (by decide +kernel))) (goodIn_sub (fun _ h => List.mem_cons_of_mem _ (List.mem_append_right _ h)) (by decide +kernel))
set_option maxRecDepth 20000 in
theorem gX3_traceOf_X3_squareOf : GoodIn wsX3_traceOf (wsV RX3 29 RX3 yX3_squareOf wsX3_squareOf) := goodIn_app (goodIn_of _ (by decide +kernel)) ggX3_traceOf_X3_squareOf
theorem dX3_traceOf_0 : decode cX3_traceOf 0 = .ok (.iconst 0, 1) := by decide +kernel
theorem dX3_traceOf_1 : decode cX3_traceOf 1 = .ok (.istore_n 2, 1) := by decide +kernel
theorem dX3_traceOf_2 : decode cX3_traceOf 2 = .ok (.iload_n 1, 1) := by decide +kernel
theorem dX3_traceOf_3 : decode cX3_traceOf 3 = .ok (.istore_n 3, 1) := by decide +kernel
theorem dX3_traceOf_4 : decode cX3_traceOf 4 = .ok (.iconst 0, 1) := by decide +kernel
theorem dX3_traceOf_5 : decode cX3_traceOf 5 = .ok (.istore 4, 2) := by decide +kernel
theorem dX3_traceOf_7 : decode cX3_traceOf 7 = .ok (.iload 4, 2) := by decide +kernel
theorem dX3_traceOf_9 : decode cX3_traceOf 9 = .ok (.bipush 8, 2) := by decide +kernel
theorem dX3_traceOf_11 : decode cX3_traceOf 11 = .ok (.if_icmp .ge 19, 3) := by decide +kernel
theorem dX3_traceOf_14 : decode cX3_traceOf 14 = .ok (.iload_n 2, 1) := by decide +kernel
theorem dX3_traceOf_15 : decode cX3_traceOf 15 = .ok (.iload_n 3, 1) := by decide +kernel
theorem dX3_traceOf_16 : decode cX3_traceOf 16 = .ok (.ixor, 1) := by decide +kernel
theorem dX3_traceOf_17 : decode cX3_traceOf 17 = .ok (.istore_n 2, 1) := by decide +kernel
theorem dX3_traceOf_18 : decode cX3_traceOf 18 = .ok (.aload_n 0, 1) := by decide +kernel
theorem dX3_traceOf_19 : decode cX3_traceOf 19 = .ok (.iload_n 3, 1) := by decide +kernel
theorem dX3_traceOf_20 : decode cX3_traceOf 20 = .ok (.invokevirtual 29, 3) := by decide +kernel
theorem dX3_traceOf_23 : decode cX3_traceOf 23 = .ok (.istore_n 3, 1) := by decide +kernel
theorem dX3_traceOf_24 : decode cX3_traceOf 24 = .ok (.iinc 4 1, 3) := by decide +kernel
theorem dX3_traceOf_27 : decode cX3_traceOf 27 = .ok (.goto (-20), 3) := by decide +kernel
theorem dX3_traceOf_30 : decode cX3_traceOf 30 = .ok (.iload_n 2, 1) := by decide +kernel
theorem dX3_traceOf_31 : decode cX3_traceOf 31 = .ok (.ireturn, 1) := by decide +kernel
set_option maxRecDepth 20000 in
theorem ggX3_orderOf_X3_productOf : GoodIn wsX3_orderOf wsX3_productOf := goodIn_ca (goodIn_ca (goodIn_r _ [5, 6, 7, 8, 4, 9, 10, 11, 12] (by decide +kernel) (by decide +kernel)) (goodIn_sub (fun _ h => List.mem_cons_of_mem _ (List.mem_append_left _ (List.mem_append_right _ h))) (by decide +kernel))) (goodIn_sub (fun _ h => List.mem_cons_of_mem _ (List.mem_append_right _ h)) (by decide +kernel))
set_option maxRecDepth 20000 in
theorem gX3_orderOf_X3_productOf : GoodIn wsX3_orderOf (wsV RX3 22 RX3 yX3_productOf wsX3_productOf) := goodIn_app (goodIn_of _ (by decide +kernel)) ggX3_orderOf_X3_productOf
theorem dX3_orderOf_0 : decode cX3_orderOf 0 = .ok (.iconst 1, 1) := by decide +kernel
theorem dX3_orderOf_1 : decode cX3_orderOf 1 = .ok (.istore_n 2, 1) := by decide +kernel
theorem dX3_orderOf_2 : decode cX3_orderOf 2 = .ok (.iload_n 1, 1) := by decide +kernel
theorem dX3_orderOf_3 : decode cX3_orderOf 3 = .ok (.istore_n 3, 1) := by decide +kernel
theorem dX3_orderOf_4 : decode cX3_orderOf 4 = .ok (.iload_n 3, 1) := by decide +kernel
theorem dX3_orderOf_5 : decode cX3_orderOf 5 = .ok (.iconst 1, 1) := by decide +kernel
theorem dX3_orderOf_6 : decode cX3_orderOf 6 = .ok (.if_icmp .eq 23, 3) := by decide +kernel
theorem dX3_orderOf_9 : decode cX3_orderOf 9 = .ok (.iload_n 2, 1) := by decide +kernel
theorem dX3_orderOf_10 : decode cX3_orderOf 10 = .ok (.sipush 255, 3) := by decide +kernel
theorem dX3_orderOf_13 : decode cX3_orderOf 13 = .ok (.if_icmp .ge 16, 3) := by decide +kernel
theorem dX3_orderOf_16 : decode cX3_orderOf 16 = .ok (.aload_n 0, 1) := by decide +kernel
theorem dX3_orderOf_17 : decode cX3_orderOf 17 = .ok (.iload_n 3, 1) := by decide +kernel
theorem dX3_orderOf_18 : decode cX3_orderOf 18 = .ok (.iload_n 1, 1) := by decide +kernel
theorem dX3_orderOf_19 : decode cX3_orderOf 19 = .ok (.invokevirtual 22, 3) := by decide +kernel
theorem dX3_orderOf_22 : decode cX3_orderOf 22 = .ok (.istore_n 3, 1) := by decide +kernel
theorem dX3_orderOf_23 : decode cX3_orderOf 23 = .ok (.iinc 2 1, 3) := by decide +kernel
theorem dX3_orderOf_26 : decode cX3_orderOf 26 = .ok (.goto (-22), 3) := by decide +kernel
theorem dX3_orderOf_29 : decode cX3_orderOf 29 = .ok (.iload_n 2, 1) := by decide +kernel
theorem dX3_orderOf_30 : decode cX3_orderOf 30 = .ok (.ireturn, 1) := by decide +kernel
theorem dX3_fieldOf_0 : decode cX3_fieldOf 0 = .ok (.iload_n 1, 1) := by decide +kernel
theorem dX3_fieldOf_1 : decode cX3_fieldOf 1 = .ok (.iconst 2, 1) := by decide +kernel
theorem dX3_fieldOf_2 : decode cX3_fieldOf 2 = .ok (.if_icmp .ge 5, 3) := by decide +kernel
theorem dX3_fieldOf_5 : decode cX3_fieldOf 5 = .ok (.iconst 2, 1) := by decide +kernel
theorem dX3_fieldOf_6 : decode cX3_fieldOf 6 = .ok (.ireturn, 1) := by decide +kernel
theorem dX3_fieldOf_7 : decode cX3_fieldOf 7 = .ok (.iload_n 1, 1) := by decide +kernel
theorem dX3_fieldOf_8 : decode cX3_fieldOf 8 = .ok (.iconst 4, 1) := by decide +kernel
theorem dX3_fieldOf_9 : decode cX3_fieldOf 9 = .ok (.if_icmp .ge 5, 3) := by decide +kernel
theorem dX3_fieldOf_12 : decode cX3_fieldOf 12 = .ok (.iconst 4, 1) := by decide +kernel
theorem dX3_fieldOf_13 : decode cX3_fieldOf 13 = .ok (.ireturn, 1) := by decide +kernel
theorem dX3_fieldOf_14 : decode cX3_fieldOf 14 = .ok (.iload_n 1, 1) := by decide +kernel
theorem dX3_fieldOf_15 : decode cX3_fieldOf 15 = .ok (.bipush 16, 2) := by decide +kernel
theorem dX3_fieldOf_17 : decode cX3_fieldOf 17 = .ok (.if_icmp .ge 8, 3) := by decide +kernel
theorem dX3_fieldOf_20 : decode cX3_fieldOf 20 = .ok (.bipush 16, 2) := by decide +kernel
theorem dX3_fieldOf_22 : decode cX3_fieldOf 22 = .ok (.goto 6, 3) := by decide +kernel
theorem dX3_fieldOf_25 : decode cX3_fieldOf 25 = .ok (.sipush 256, 3) := by decide +kernel
theorem dX3_fieldOf_28 : decode cX3_fieldOf 28 = .ok (.ireturn, 1) := by decide +kernel
set_option maxRecDepth 20000 in
theorem ggX3_squaringsOf_X3_squareOf : GoodIn wsX3_squaringsOf wsX3_squareOf := goodIn_ca (goodIn_ca (goodIn_r _ [5, 6, 7, 8, 4, 9, 10, 11, 12, 13, 14, 15, 16] (by decide +kernel) (by decide +kernel)) (goodIn_sub (fun _ h => List.mem_cons_of_mem _ (List.mem_append_left _ (List.mem_append_right _ h))) (by decide +kernel))) (goodIn_sub (fun _ h => List.mem_cons_of_mem _ (List.mem_append_right _ h)) (by decide +kernel))
set_option maxRecDepth 20000 in
theorem gX3_squaringsOf_X3_squareOf : GoodIn wsX3_squaringsOf (wsV RX3 29 RX3 yX3_squareOf wsX3_squareOf) := goodIn_app (goodIn_of _ (by decide +kernel)) ggX3_squaringsOf_X3_squareOf
theorem dX3_squaringsOf_0 : decode cX3_squaringsOf 0 = .ok (.iconst 1, 1) := by decide +kernel
theorem dX3_squaringsOf_1 : decode cX3_squaringsOf 1 = .ok (.istore_n 2, 1) := by decide +kernel
theorem dX3_squaringsOf_2 : decode cX3_squaringsOf 2 = .ok (.aload_n 0, 1) := by decide +kernel
theorem dX3_squaringsOf_3 : decode cX3_squaringsOf 3 = .ok (.iload_n 1, 1) := by decide +kernel
theorem dX3_squaringsOf_4 : decode cX3_squaringsOf 4 = .ok (.invokevirtual 29, 3) := by decide +kernel
theorem dX3_squaringsOf_7 : decode cX3_squaringsOf 7 = .ok (.istore_n 3, 1) := by decide +kernel
theorem dX3_squaringsOf_8 : decode cX3_squaringsOf 8 = .ok (.iload_n 3, 1) := by decide +kernel
theorem dX3_squaringsOf_9 : decode cX3_squaringsOf 9 = .ok (.iload_n 1, 1) := by decide +kernel
theorem dX3_squaringsOf_10 : decode cX3_squaringsOf 10 = .ok (.if_icmp .eq 21, 3) := by decide +kernel
theorem dX3_squaringsOf_13 : decode cX3_squaringsOf 13 = .ok (.iload_n 2, 1) := by decide +kernel
theorem dX3_squaringsOf_14 : decode cX3_squaringsOf 14 = .ok (.bipush 8, 2) := by decide +kernel
theorem dX3_squaringsOf_16 : decode cX3_squaringsOf 16 = .ok (.if_icmp .ge 15, 3) := by decide +kernel
theorem dX3_squaringsOf_19 : decode cX3_squaringsOf 19 = .ok (.aload_n 0, 1) := by decide +kernel
theorem dX3_squaringsOf_20 : decode cX3_squaringsOf 20 = .ok (.iload_n 3, 1) := by decide +kernel
theorem dX3_squaringsOf_21 : decode cX3_squaringsOf 21 = .ok (.invokevirtual 29, 3) := by decide +kernel
theorem dX3_squaringsOf_24 : decode cX3_squaringsOf 24 = .ok (.istore_n 3, 1) := by decide +kernel
theorem dX3_squaringsOf_25 : decode cX3_squaringsOf 25 = .ok (.iinc 2 1, 3) := by decide +kernel
theorem dX3_squaringsOf_28 : decode cX3_squaringsOf 28 = .ok (.goto (-20), 3) := by decide +kernel
theorem dX3_squaringsOf_31 : decode cX3_squaringsOf 31 = .ok (.iload_n 2, 1) := by decide +kernel
theorem dX3_squaringsOf_32 : decode cX3_squaringsOf 32 = .ok (.ireturn, 1) := by decide +kernel
set_option maxRecDepth 20000 in
theorem ggX3_sumByTrying_X2_empty : GoodIn wsX3_sumByTrying wsX2_empty := goodIn_ca (goodIn_r _ [6, 7, 22] (by decide +kernel) (by decide +kernel)) (goodIn_sub (fun _ h => List.mem_cons_of_mem _ (List.mem_append_right _ h)) (by decide +kernel))
set_option maxRecDepth 20000 in
theorem gX3_sumByTrying_X2_empty : GoodIn wsX3_sumByTrying (wsV RX3 36 RX2 yX2_empty wsX2_empty) := goodIn_app (goodIn_of _ (by decide +kernel)) ggX3_sumByTrying_X2_empty
set_option maxRecDepth 20000 in
theorem ggX3_sumByTrying_X2_add : GoodIn wsX3_sumByTrying wsX2_add := goodIn_ca (goodIn_r _ [11, 7, 12, 13, 14, 5, 15, 22] (by decide +kernel) (by decide +kernel)) (goodIn_sub (fun _ h => List.mem_cons_of_mem _ (List.mem_append_right _ h)) (by decide +kernel))
set_option maxRecDepth 20000 in
theorem gX3_sumByTrying_X2_add : GoodIn wsX3_sumByTrying (wsV RX3 39 RX2 yX2_add wsX2_add) := goodIn_app (goodIn_of _ (by decide +kernel)) ggX3_sumByTrying_X2_add
set_option maxRecDepth 20000 in
theorem ggX3_sumByTrying_X2_leastAbsent : GoodIn wsX3_sumByTrying wsX2_leastAbsent := goodIn_ca (goodIn_r _ [19, 7, 22] (by decide +kernel) (by decide +kernel)) (goodIn_sub (fun _ h => List.mem_cons_of_mem _ (List.mem_append_right _ h)) (by decide +kernel))
set_option maxRecDepth 20000 in
theorem gX3_sumByTrying_X2_leastAbsent : GoodIn wsX3_sumByTrying (wsV RX3 43 RX2 yX2_leastAbsent wsX2_leastAbsent) := goodIn_app (goodIn_of _ (by decide +kernel)) ggX3_sumByTrying_X2_leastAbsent
theorem dX3_sumByTrying_0 : decode cX3_sumByTrying 0 = .ok (.aload_n 0, 1) := by decide +kernel
theorem dX3_sumByTrying_1 : decode cX3_sumByTrying 1 = .ok (.getfield 18, 3) := by decide +kernel
theorem dX3_sumByTrying_4 : decode cX3_sumByTrying 4 = .ok (.invokevirtual 36, 3) := by decide +kernel
theorem dX3_sumByTrying_7 : decode cX3_sumByTrying 7 = .ok (.iconst 0, 1) := by decide +kernel
theorem dX3_sumByTrying_8 : decode cX3_sumByTrying 8 = .ok (.istore_n 3, 1) := by decide +kernel
theorem dX3_sumByTrying_9 : decode cX3_sumByTrying 9 = .ok (.iload_n 3, 1) := by decide +kernel
theorem dX3_sumByTrying_10 : decode cX3_sumByTrying 10 = .ok (.iload_n 1, 1) := by decide +kernel
theorem dX3_sumByTrying_11 : decode cX3_sumByTrying 11 = .ok (.if_icmp .ge 20, 3) := by decide +kernel
theorem dX3_sumByTrying_14 : decode cX3_sumByTrying 14 = .ok (.aload_n 0, 1) := by decide +kernel
theorem dX3_sumByTrying_15 : decode cX3_sumByTrying 15 = .ok (.getfield 18, 3) := by decide +kernel
theorem dX3_sumByTrying_18 : decode cX3_sumByTrying 18 = .ok (.iload_n 3, 1) := by decide +kernel
theorem dX3_sumByTrying_19 : decode cX3_sumByTrying 19 = .ok (.iload_n 2, 1) := by decide +kernel
theorem dX3_sumByTrying_20 : decode cX3_sumByTrying 20 = .ok (.ixor, 1) := by decide +kernel
theorem dX3_sumByTrying_21 : decode cX3_sumByTrying 21 = .ok (.invokevirtual 39, 3) := by decide +kernel
theorem dX3_sumByTrying_24 : decode cX3_sumByTrying 24 = .ok (.pop, 1) := by decide +kernel
theorem dX3_sumByTrying_25 : decode cX3_sumByTrying 25 = .ok (.iinc 3 1, 3) := by decide +kernel
theorem dX3_sumByTrying_28 : decode cX3_sumByTrying 28 = .ok (.goto (-19), 3) := by decide +kernel
theorem dX3_sumByTrying_31 : decode cX3_sumByTrying 31 = .ok (.iconst 0, 1) := by decide +kernel
theorem dX3_sumByTrying_32 : decode cX3_sumByTrying 32 = .ok (.istore_n 3, 1) := by decide +kernel
theorem dX3_sumByTrying_33 : decode cX3_sumByTrying 33 = .ok (.iload_n 3, 1) := by decide +kernel
theorem dX3_sumByTrying_34 : decode cX3_sumByTrying 34 = .ok (.iload_n 2, 1) := by decide +kernel
theorem dX3_sumByTrying_35 : decode cX3_sumByTrying 35 = .ok (.if_icmp .ge 20, 3) := by decide +kernel
theorem dX3_sumByTrying_38 : decode cX3_sumByTrying 38 = .ok (.aload_n 0, 1) := by decide +kernel
theorem dX3_sumByTrying_39 : decode cX3_sumByTrying 39 = .ok (.getfield 18, 3) := by decide +kernel
theorem dX3_sumByTrying_42 : decode cX3_sumByTrying 42 = .ok (.iload_n 1, 1) := by decide +kernel
theorem dX3_sumByTrying_43 : decode cX3_sumByTrying 43 = .ok (.iload_n 3, 1) := by decide +kernel
theorem dX3_sumByTrying_44 : decode cX3_sumByTrying 44 = .ok (.ixor, 1) := by decide +kernel
theorem dX3_sumByTrying_45 : decode cX3_sumByTrying 45 = .ok (.invokevirtual 39, 3) := by decide +kernel
theorem dX3_sumByTrying_48 : decode cX3_sumByTrying 48 = .ok (.pop, 1) := by decide +kernel
theorem dX3_sumByTrying_49 : decode cX3_sumByTrying 49 = .ok (.iinc 3 1, 3) := by decide +kernel
theorem dX3_sumByTrying_52 : decode cX3_sumByTrying 52 = .ok (.goto (-19), 3) := by decide +kernel
theorem dX3_sumByTrying_55 : decode cX3_sumByTrying 55 = .ok (.aload_n 0, 1) := by decide +kernel
theorem dX3_sumByTrying_56 : decode cX3_sumByTrying 56 = .ok (.getfield 18, 3) := by decide +kernel
theorem dX3_sumByTrying_59 : decode cX3_sumByTrying 59 = .ok (.invokevirtual 43, 3) := by decide +kernel
theorem dX3_sumByTrying_62 : decode cX3_sumByTrying 62 = .ok (.ireturn, 1) := by decide +kernel
set_option maxRecDepth 20000 in
theorem ggX3_productByTrying_X2_empty : GoodIn wsX3_productByTrying wsX2_empty := goodIn_ca (goodIn_r _ [6, 7, 32] (by decide +kernel) (by decide +kernel)) (goodIn_sub (fun _ h => List.mem_cons_of_mem _ (List.mem_append_left _ (List.mem_append_right _ h))) (by decide +kernel))
set_option maxRecDepth 20000 in
theorem gX3_productByTrying_X2_empty : GoodIn wsX3_productByTrying (wsV RX3 36 RX2 yX2_empty wsX2_empty) := goodIn_app (goodIn_of _ (by decide +kernel)) ggX3_productByTrying_X2_empty
set_option maxRecDepth 20000 in
theorem ggX3_productByTrying_X3_productOf : GoodIn wsX3_productByTrying wsX3_productOf := goodIn_ca (goodIn_ca (goodIn_r _ [12, 13, 14, 15, 11, 16, 17, 30, 31] (by decide +kernel) (by decide +kernel)) (goodIn_sub (fun _ h => List.mem_cons_of_mem _ (List.mem_append_right _ h)) (by decide +kernel))) (goodIn_sub (fun _ h => List.mem_cons_of_mem _ (List.mem_append_left _ (List.mem_append_right _ h))) (by decide +kernel))
set_option maxRecDepth 20000 in
theorem gX3_productByTrying_X3_productOf : GoodIn wsX3_productByTrying (wsV RX3 22 RX3 yX3_productOf wsX3_productOf) := goodIn_app (goodIn_of _ (by decide +kernel)) ggX3_productByTrying_X3_productOf
set_option maxRecDepth 20000 in
theorem ggX3_productByTrying_X2_add : GoodIn wsX3_productByTrying wsX2_add := goodIn_ca (goodIn_r _ [21, 7, 22, 23, 24, 5, 25, 32] (by decide +kernel) (by decide +kernel)) (goodIn_sub (fun _ h => List.mem_cons_of_mem _ (List.mem_append_left _ (List.mem_append_right _ h))) (by decide +kernel))
set_option maxRecDepth 20000 in
theorem gX3_productByTrying_X2_add : GoodIn wsX3_productByTrying (wsV RX3 39 RX2 yX2_add wsX2_add) := goodIn_app (goodIn_of _ (by decide +kernel)) ggX3_productByTrying_X2_add
set_option maxRecDepth 20000 in
theorem ggX3_productByTrying_X2_leastAbsent : GoodIn wsX3_productByTrying wsX2_leastAbsent := goodIn_ca (goodIn_r _ [29, 7, 32] (by decide +kernel) (by decide +kernel)) (goodIn_sub (fun _ h => List.mem_cons_of_mem _ (List.mem_append_left _ (List.mem_append_right _ h))) (by decide +kernel))
set_option maxRecDepth 20000 in
theorem gX3_productByTrying_X2_leastAbsent : GoodIn wsX3_productByTrying (wsV RX3 43 RX2 yX2_leastAbsent wsX2_leastAbsent) := goodIn_app (goodIn_of _ (by decide +kernel)) ggX3_productByTrying_X2_leastAbsent
theorem dX3_productByTrying_0 : decode cX3_productByTrying 0 = .ok (.aload_n 0, 1) := by decide +kernel
theorem dX3_productByTrying_1 : decode cX3_productByTrying 1 = .ok (.getfield 18, 3) := by decide +kernel
theorem dX3_productByTrying_4 : decode cX3_productByTrying 4 = .ok (.invokevirtual 36, 3) := by decide +kernel
theorem dX3_productByTrying_7 : decode cX3_productByTrying 7 = .ok (.iconst 0, 1) := by decide +kernel
theorem dX3_productByTrying_8 : decode cX3_productByTrying 8 = .ok (.istore_n 3, 1) := by decide +kernel
theorem dX3_productByTrying_9 : decode cX3_productByTrying 9 = .ok (.iload_n 3, 1) := by decide +kernel
theorem dX3_productByTrying_10 : decode cX3_productByTrying 10 = .ok (.iload_n 1, 1) := by decide +kernel
theorem dX3_productByTrying_11 : decode cX3_productByTrying 11 = .ok (.if_icmp .ge 54, 3) := by decide +kernel
theorem dX3_productByTrying_14 : decode cX3_productByTrying 14 = .ok (.iconst 0, 1) := by decide +kernel
theorem dX3_productByTrying_15 : decode cX3_productByTrying 15 = .ok (.istore 4, 2) := by decide +kernel
theorem dX3_productByTrying_17 : decode cX3_productByTrying 17 = .ok (.iload 4, 2) := by decide +kernel
theorem dX3_productByTrying_19 : decode cX3_productByTrying 19 = .ok (.iload_n 2, 1) := by decide +kernel
theorem dX3_productByTrying_20 : decode cX3_productByTrying 20 = .ok (.if_icmp .ge 39, 3) := by decide +kernel
theorem dX3_productByTrying_23 : decode cX3_productByTrying 23 = .ok (.aload_n 0, 1) := by decide +kernel
theorem dX3_productByTrying_24 : decode cX3_productByTrying 24 = .ok (.getfield 18, 3) := by decide +kernel
theorem dX3_productByTrying_27 : decode cX3_productByTrying 27 = .ok (.aload_n 0, 1) := by decide +kernel
theorem dX3_productByTrying_28 : decode cX3_productByTrying 28 = .ok (.iload_n 3, 1) := by decide +kernel
theorem dX3_productByTrying_29 : decode cX3_productByTrying 29 = .ok (.iload_n 2, 1) := by decide +kernel
theorem dX3_productByTrying_30 : decode cX3_productByTrying 30 = .ok (.invokevirtual 22, 3) := by decide +kernel
theorem dX3_productByTrying_33 : decode cX3_productByTrying 33 = .ok (.aload_n 0, 1) := by decide +kernel
theorem dX3_productByTrying_34 : decode cX3_productByTrying 34 = .ok (.iload_n 1, 1) := by decide +kernel
theorem dX3_productByTrying_35 : decode cX3_productByTrying 35 = .ok (.iload 4, 2) := by decide +kernel
theorem dX3_productByTrying_37 : decode cX3_productByTrying 37 = .ok (.invokevirtual 22, 3) := by decide +kernel
theorem dX3_productByTrying_40 : decode cX3_productByTrying 40 = .ok (.ixor, 1) := by decide +kernel
theorem dX3_productByTrying_41 : decode cX3_productByTrying 41 = .ok (.aload_n 0, 1) := by decide +kernel
theorem dX3_productByTrying_42 : decode cX3_productByTrying 42 = .ok (.iload_n 3, 1) := by decide +kernel
theorem dX3_productByTrying_43 : decode cX3_productByTrying 43 = .ok (.iload 4, 2) := by decide +kernel
theorem dX3_productByTrying_45 : decode cX3_productByTrying 45 = .ok (.invokevirtual 22, 3) := by decide +kernel
theorem dX3_productByTrying_48 : decode cX3_productByTrying 48 = .ok (.ixor, 1) := by decide +kernel
theorem dX3_productByTrying_49 : decode cX3_productByTrying 49 = .ok (.invokevirtual 39, 3) := by decide +kernel
theorem dX3_productByTrying_52 : decode cX3_productByTrying 52 = .ok (.pop, 1) := by decide +kernel
theorem dX3_productByTrying_53 : decode cX3_productByTrying 53 = .ok (.iinc 4 1, 3) := by decide +kernel
theorem dX3_productByTrying_56 : decode cX3_productByTrying 56 = .ok (.goto (-39), 3) := by decide +kernel
theorem dX3_productByTrying_59 : decode cX3_productByTrying 59 = .ok (.iinc 3 1, 3) := by decide +kernel
theorem dX3_productByTrying_62 : decode cX3_productByTrying 62 = .ok (.goto (-53), 3) := by decide +kernel
theorem dX3_productByTrying_65 : decode cX3_productByTrying 65 = .ok (.aload_n 0, 1) := by decide +kernel
theorem dX3_productByTrying_66 : decode cX3_productByTrying 66 = .ok (.getfield 18, 3) := by decide +kernel
theorem dX3_productByTrying_69 : decode cX3_productByTrying 69 = .ok (.invokevirtual 43, 3) := by decide +kernel
theorem dX3_productByTrying_72 : decode cX3_productByTrying 72 = .ok (.ireturn, 1) := by decide +kernel
set_option maxRecDepth 20000 in
theorem ggX3_areClosedBelow_X3_productOf : GoodIn wsX3_areClosedBelow wsX3_productOf := goodIn_ca (goodIn_ca (goodIn_r _ [5, 6, 7, 8, 4, 9, 10, 11, 12] (by decide +kernel) (by decide +kernel)) (goodIn_sub (fun _ h => List.mem_cons_of_mem _ (List.mem_append_left _ (List.mem_append_right _ h))) (by decide +kernel))) (goodIn_sub (fun _ h => List.mem_cons_of_mem _ (List.mem_append_right _ h)) (by decide +kernel))
set_option maxRecDepth 20000 in
theorem gX3_areClosedBelow_X3_productOf : GoodIn wsX3_areClosedBelow (wsV RX3 22 RX3 yX3_productOf wsX3_productOf) := goodIn_app (goodIn_of _ (by decide +kernel)) ggX3_areClosedBelow_X3_productOf
theorem dX3_areClosedBelow_0 : decode cX3_areClosedBelow 0 = .ok (.iconst 0, 1) := by decide +kernel
theorem dX3_areClosedBelow_1 : decode cX3_areClosedBelow 1 = .ok (.istore_n 2, 1) := by decide +kernel
theorem dX3_areClosedBelow_2 : decode cX3_areClosedBelow 2 = .ok (.iload_n 2, 1) := by decide +kernel
theorem dX3_areClosedBelow_3 : decode cX3_areClosedBelow 3 = .ok (.iload_n 1, 1) := by decide +kernel
theorem dX3_areClosedBelow_4 : decode cX3_areClosedBelow 4 = .ok (.if_icmp .ge 41, 3) := by decide +kernel
theorem dX3_areClosedBelow_7 : decode cX3_areClosedBelow 7 = .ok (.iconst 0, 1) := by decide +kernel
theorem dX3_areClosedBelow_8 : decode cX3_areClosedBelow 8 = .ok (.istore_n 3, 1) := by decide +kernel
theorem dX3_areClosedBelow_9 : decode cX3_areClosedBelow 9 = .ok (.iload_n 3, 1) := by decide +kernel
theorem dX3_areClosedBelow_10 : decode cX3_areClosedBelow 10 = .ok (.iload_n 1, 1) := by decide +kernel
theorem dX3_areClosedBelow_11 : decode cX3_areClosedBelow 11 = .ok (.if_icmp .ge 28, 3) := by decide +kernel
theorem dX3_areClosedBelow_14 : decode cX3_areClosedBelow 14 = .ok (.iload_n 2, 1) := by decide +kernel
theorem dX3_areClosedBelow_15 : decode cX3_areClosedBelow 15 = .ok (.iload_n 3, 1) := by decide +kernel
theorem dX3_areClosedBelow_16 : decode cX3_areClosedBelow 16 = .ok (.ixor, 1) := by decide +kernel
theorem dX3_areClosedBelow_17 : decode cX3_areClosedBelow 17 = .ok (.iload_n 1, 1) := by decide +kernel
theorem dX3_areClosedBelow_18 : decode cX3_areClosedBelow 18 = .ok (.if_icmp .ge 13, 3) := by decide +kernel
theorem dX3_areClosedBelow_21 : decode cX3_areClosedBelow 21 = .ok (.aload_n 0, 1) := by decide +kernel
theorem dX3_areClosedBelow_22 : decode cX3_areClosedBelow 22 = .ok (.iload_n 2, 1) := by decide +kernel
theorem dX3_areClosedBelow_23 : decode cX3_areClosedBelow 23 = .ok (.iload_n 3, 1) := by decide +kernel
theorem dX3_areClosedBelow_24 : decode cX3_areClosedBelow 24 = .ok (.invokevirtual 22, 3) := by decide +kernel
theorem dX3_areClosedBelow_27 : decode cX3_areClosedBelow 27 = .ok (.iload_n 1, 1) := by decide +kernel
theorem dX3_areClosedBelow_28 : decode cX3_areClosedBelow 28 = .ok (.if_icmp .lt 5, 3) := by decide +kernel
theorem dX3_areClosedBelow_31 : decode cX3_areClosedBelow 31 = .ok (.iconst 0, 1) := by decide +kernel
theorem dX3_areClosedBelow_32 : decode cX3_areClosedBelow 32 = .ok (.ireturn, 1) := by decide +kernel
theorem dX3_areClosedBelow_33 : decode cX3_areClosedBelow 33 = .ok (.iinc 3 1, 3) := by decide +kernel
theorem dX3_areClosedBelow_36 : decode cX3_areClosedBelow 36 = .ok (.goto (-27), 3) := by decide +kernel
theorem dX3_areClosedBelow_39 : decode cX3_areClosedBelow 39 = .ok (.iinc 2 1, 3) := by decide +kernel
theorem dX3_areClosedBelow_42 : decode cX3_areClosedBelow 42 = .ok (.goto (-40), 3) := by decide +kernel
theorem dX3_areClosedBelow_45 : decode cX3_areClosedBelow 45 = .ok (.iconst 1, 1) := by decide +kernel
theorem dX3_areClosedBelow_46 : decode cX3_areClosedBelow 46 = .ok (.ireturn, 1) := by decide +kernel
set_option maxRecDepth 20000 in
theorem ggX3_haveInversesBelow_X3_hasInverseBelow : GoodIn wsX3_haveInversesBelow wsX3_hasInverseBelow := goodIn_ca (goodIn_ca (goodIn_r _ [5, 6, 7, 8, 4, 9, 10, 11, 12, 13, 14, 15, 16] (by decide +kernel) (by decide +kernel)) (goodIn_sub (fun _ h => List.mem_cons_of_mem _ (List.mem_append_left _ (List.mem_append_right _ h))) (by decide +kernel))) (goodIn_sub (fun _ h => List.mem_cons_of_mem _ (List.mem_append_right _ h)) (by decide +kernel))
set_option maxRecDepth 20000 in
theorem gX3_haveInversesBelow_X3_hasInverseBelow : GoodIn wsX3_haveInversesBelow (wsV RX3 47 RX3 yX3_hasInverseBelow wsX3_hasInverseBelow) := goodIn_app (goodIn_of _ (by decide +kernel)) ggX3_haveInversesBelow_X3_hasInverseBelow
theorem dX3_haveInversesBelow_0 : decode cX3_haveInversesBelow 0 = .ok (.iconst 1, 1) := by decide +kernel
theorem dX3_haveInversesBelow_1 : decode cX3_haveInversesBelow 1 = .ok (.istore_n 2, 1) := by decide +kernel
theorem dX3_haveInversesBelow_2 : decode cX3_haveInversesBelow 2 = .ok (.iload_n 2, 1) := by decide +kernel
theorem dX3_haveInversesBelow_3 : decode cX3_haveInversesBelow 3 = .ok (.iload_n 1, 1) := by decide +kernel
theorem dX3_haveInversesBelow_4 : decode cX3_haveInversesBelow 4 = .ok (.if_icmp .ge 20, 3) := by decide +kernel
theorem dX3_haveInversesBelow_7 : decode cX3_haveInversesBelow 7 = .ok (.aload_n 0, 1) := by decide +kernel
theorem dX3_haveInversesBelow_8 : decode cX3_haveInversesBelow 8 = .ok (.iload_n 2, 1) := by decide +kernel
theorem dX3_haveInversesBelow_9 : decode cX3_haveInversesBelow 9 = .ok (.iload_n 1, 1) := by decide +kernel
theorem dX3_haveInversesBelow_10 : decode cX3_haveInversesBelow 10 = .ok (.invokevirtual 47, 3) := by decide +kernel
theorem dX3_haveInversesBelow_13 : decode cX3_haveInversesBelow 13 = .ok (.ifCond .ne 5, 3) := by decide +kernel
theorem dX3_haveInversesBelow_16 : decode cX3_haveInversesBelow 16 = .ok (.iconst 0, 1) := by decide +kernel
theorem dX3_haveInversesBelow_17 : decode cX3_haveInversesBelow 17 = .ok (.ireturn, 1) := by decide +kernel
theorem dX3_haveInversesBelow_18 : decode cX3_haveInversesBelow 18 = .ok (.iinc 2 1, 3) := by decide +kernel
theorem dX3_haveInversesBelow_21 : decode cX3_haveInversesBelow 21 = .ok (.goto (-19), 3) := by decide +kernel
theorem dX3_haveInversesBelow_24 : decode cX3_haveInversesBelow 24 = .ok (.iconst 1, 1) := by decide +kernel
theorem dX3_haveInversesBelow_25 : decode cX3_haveInversesBelow 25 = .ok (.ireturn, 1) := by decide +kernel
set_option maxRecDepth 20000 in
theorem ggX3_hasInverseBelow_X3_productOf : GoodIn wsX3_hasInverseBelow wsX3_productOf := goodIn_ca (goodIn_ca (goodIn_r _ [5, 6, 7, 8, 4, 9, 10, 11, 12] (by decide +kernel) (by decide +kernel)) (goodIn_sub (fun _ h => List.mem_cons_of_mem _ (List.mem_append_left _ (List.mem_append_right _ h))) (by decide +kernel))) (goodIn_sub (fun _ h => List.mem_cons_of_mem _ (List.mem_append_right _ h)) (by decide +kernel))
set_option maxRecDepth 20000 in
theorem gX3_hasInverseBelow_X3_productOf : GoodIn wsX3_hasInverseBelow (wsV RX3 22 RX3 yX3_productOf wsX3_productOf) := goodIn_app (goodIn_of _ (by decide +kernel)) ggX3_hasInverseBelow_X3_productOf
theorem dX3_hasInverseBelow_0 : decode cX3_hasInverseBelow 0 = .ok (.iconst 0, 1) := by decide +kernel
theorem dX3_hasInverseBelow_1 : decode cX3_hasInverseBelow 1 = .ok (.istore_n 3, 1) := by decide +kernel
theorem dX3_hasInverseBelow_2 : decode cX3_hasInverseBelow 2 = .ok (.iload_n 3, 1) := by decide +kernel
theorem dX3_hasInverseBelow_3 : decode cX3_hasInverseBelow 3 = .ok (.iload_n 2, 1) := by decide +kernel
theorem dX3_hasInverseBelow_4 : decode cX3_hasInverseBelow 4 = .ok (.if_icmp .ge 21, 3) := by decide +kernel
theorem dX3_hasInverseBelow_7 : decode cX3_hasInverseBelow 7 = .ok (.aload_n 0, 1) := by decide +kernel
theorem dX3_hasInverseBelow_8 : decode cX3_hasInverseBelow 8 = .ok (.iload_n 1, 1) := by decide +kernel
theorem dX3_hasInverseBelow_9 : decode cX3_hasInverseBelow 9 = .ok (.iload_n 3, 1) := by decide +kernel
theorem dX3_hasInverseBelow_10 : decode cX3_hasInverseBelow 10 = .ok (.invokevirtual 22, 3) := by decide +kernel
theorem dX3_hasInverseBelow_13 : decode cX3_hasInverseBelow 13 = .ok (.iconst 1, 1) := by decide +kernel
theorem dX3_hasInverseBelow_14 : decode cX3_hasInverseBelow 14 = .ok (.if_icmp .ne 5, 3) := by decide +kernel
theorem dX3_hasInverseBelow_17 : decode cX3_hasInverseBelow 17 = .ok (.iconst 1, 1) := by decide +kernel
theorem dX3_hasInverseBelow_18 : decode cX3_hasInverseBelow 18 = .ok (.ireturn, 1) := by decide +kernel
theorem dX3_hasInverseBelow_19 : decode cX3_hasInverseBelow 19 = .ok (.iinc 3 1, 3) := by decide +kernel
theorem dX3_hasInverseBelow_22 : decode cX3_hasInverseBelow 22 = .ok (.goto (-20), 3) := by decide +kernel
theorem dX3_hasInverseBelow_25 : decode cX3_hasInverseBelow 25 = .ok (.iconst 0, 1) := by decide +kernel
theorem dX3_hasInverseBelow_26 : decode cX3_hasInverseBelow 26 = .ok (.ireturn, 1) := by decide +kernel
set_option maxRecDepth 20000 in
theorem ggX3_areTriesSound_X3_sumByTrying : GoodIn wsX3_areTriesSound wsX3_sumByTrying := goodIn_ca (goodIn_r _ [5, 6, 7, 8, 9, 10, 11, 12, 13, 14, 15, 16, 17, 18, 19, 20, 21, 22, 23, 24, 38, 39, 40] (by decide +kernel) (by decide +kernel)) (goodIn_sub (fun _ h => List.mem_cons_of_mem _ (List.mem_append_left _ (List.mem_append_right _ h))) (by decide +kernel))
set_option maxRecDepth 20000 in
theorem gX3_areTriesSound_X3_sumByTrying : GoodIn wsX3_areTriesSound (wsV RX3 51 RX3 yX3_sumByTrying wsX3_sumByTrying) := goodIn_app (goodIn_of _ (by decide +kernel)) ggX3_areTriesSound_X3_sumByTrying
set_option maxRecDepth 20000 in
theorem ggX3_areTriesSound_X3_productByTrying : GoodIn wsX3_areTriesSound wsX3_productByTrying := goodIn_ca (goodIn_ca (goodIn_r _ [28, 6, 7, 8, 9, 10, 11, 12, 29, 30, 31, 4, 32, 33, 34, 35, 36, 37, 13, 14, 15, 16, 17, 18, 19, 20, 21, 22, 23, 24, 38, 39, 40] (by decide +kernel) (by decide +kernel)) (goodIn_sub (fun _ h => List.mem_cons_of_mem _ (List.mem_append_left _ (List.mem_append_right _ h))) (by decide +kernel))) (goodIn_sub (fun _ h => List.mem_cons_of_mem _ (List.mem_append_right _ h)) (by decide +kernel))
set_option maxRecDepth 20000 in
theorem gX3_areTriesSound_X3_productByTrying : GoodIn wsX3_areTriesSound (wsV RX3 54 RX3 yX3_productByTrying wsX3_productByTrying) := goodIn_app (goodIn_of _ (by decide +kernel)) ggX3_areTriesSound_X3_productByTrying
set_option maxRecDepth 20000 in
theorem ggX3_areTriesSound_X3_productOf : GoodIn wsX3_areTriesSound wsX3_productOf := goodIn_ca (goodIn_ca (goodIn_r _ [32, 33, 34, 35, 4, 36, 37, 38, 39] (by decide +kernel) (by decide +kernel)) (goodIn_sub (fun _ h => List.mem_cons_of_mem _ (List.mem_append_right _ h)) (by decide +kernel))) (goodIn_sub (fun _ h => List.mem_cons_of_mem _ (List.mem_append_left _ (List.mem_append_right _ h))) (by decide +kernel))
set_option maxRecDepth 20000 in
theorem gX3_areTriesSound_X3_productOf : GoodIn wsX3_areTriesSound (wsV RX3 22 RX3 yX3_productOf wsX3_productOf) := goodIn_app (goodIn_of _ (by decide +kernel)) ggX3_areTriesSound_X3_productOf
theorem dX3_areTriesSound_0 : decode cX3_areTriesSound 0 = .ok (.iload_n 1, 1) := by decide +kernel
theorem dX3_areTriesSound_1 : decode cX3_areTriesSound 1 = .ok (.bipush 16, 2) := by decide +kernel
theorem dX3_areTriesSound_3 : decode cX3_areTriesSound 3 = .ok (.irem, 1) := by decide +kernel
theorem dX3_areTriesSound_4 : decode cX3_areTriesSound 4 = .ok (.istore_n 3, 1) := by decide +kernel
theorem dX3_areTriesSound_5 : decode cX3_areTriesSound 5 = .ok (.iload_n 2, 1) := by decide +kernel
theorem dX3_areTriesSound_6 : decode cX3_areTriesSound 6 = .ok (.bipush 16, 2) := by decide +kernel
theorem dX3_areTriesSound_8 : decode cX3_areTriesSound 8 = .ok (.irem, 1) := by decide +kernel
theorem dX3_areTriesSound_9 : decode cX3_areTriesSound 9 = .ok (.istore 4, 2) := by decide +kernel
theorem dX3_areTriesSound_11 : decode cX3_areTriesSound 11 = .ok (.aload_n 0, 1) := by decide +kernel
theorem dX3_areTriesSound_12 : decode cX3_areTriesSound 12 = .ok (.iload_n 1, 1) := by decide +kernel
theorem dX3_areTriesSound_13 : decode cX3_areTriesSound 13 = .ok (.iload_n 2, 1) := by decide +kernel
theorem dX3_areTriesSound_14 : decode cX3_areTriesSound 14 = .ok (.invokevirtual 51, 3) := by decide +kernel
theorem dX3_areTriesSound_17 : decode cX3_areTriesSound 17 = .ok (.iload_n 1, 1) := by decide +kernel
theorem dX3_areTriesSound_18 : decode cX3_areTriesSound 18 = .ok (.iload_n 2, 1) := by decide +kernel
theorem dX3_areTriesSound_19 : decode cX3_areTriesSound 19 = .ok (.ixor, 1) := by decide +kernel
theorem dX3_areTriesSound_20 : decode cX3_areTriesSound 20 = .ok (.if_icmp .ne 24, 3) := by decide +kernel
theorem dX3_areTriesSound_23 : decode cX3_areTriesSound 23 = .ok (.aload_n 0, 1) := by decide +kernel
theorem dX3_areTriesSound_24 : decode cX3_areTriesSound 24 = .ok (.iload_n 3, 1) := by decide +kernel
theorem dX3_areTriesSound_25 : decode cX3_areTriesSound 25 = .ok (.iload 4, 2) := by decide +kernel
theorem dX3_areTriesSound_27 : decode cX3_areTriesSound 27 = .ok (.invokevirtual 54, 3) := by decide +kernel
theorem dX3_areTriesSound_30 : decode cX3_areTriesSound 30 = .ok (.aload_n 0, 1) := by decide +kernel
theorem dX3_areTriesSound_31 : decode cX3_areTriesSound 31 = .ok (.iload_n 3, 1) := by decide +kernel
theorem dX3_areTriesSound_32 : decode cX3_areTriesSound 32 = .ok (.iload 4, 2) := by decide +kernel
theorem dX3_areTriesSound_34 : decode cX3_areTriesSound 34 = .ok (.invokevirtual 22, 3) := by decide +kernel
theorem dX3_areTriesSound_37 : decode cX3_areTriesSound 37 = .ok (.if_icmp .ne 7, 3) := by decide +kernel
theorem dX3_areTriesSound_40 : decode cX3_areTriesSound 40 = .ok (.iconst 1, 1) := by decide +kernel
theorem dX3_areTriesSound_41 : decode cX3_areTriesSound 41 = .ok (.goto 4, 3) := by decide +kernel
theorem dX3_areTriesSound_44 : decode cX3_areTriesSound 44 = .ok (.iconst 0, 1) := by decide +kernel
theorem dX3_areTriesSound_45 : decode cX3_areTriesSound 45 = .ok (.ireturn, 1) := by decide +kernel
set_option maxRecDepth 20000 in
theorem ggX3_areProductsSound_X3_productOf : GoodIn wsX3_areProductsSound wsX3_productOf := goodIn_ca (goodIn_ca (goodIn_r _ [5, 6, 7, 8, 4, 9, 10, 11, 12] (by decide +kernel) (by decide +kernel)) (goodIn_sub (fun _ h => List.mem_cons_of_mem _ (List.mem_append_left _ (List.mem_append_right _ h))) (by decide +kernel))) (goodIn_sub (fun _ h => List.mem_cons_of_mem _ (List.mem_append_right _ h)) (by decide +kernel))
set_option maxRecDepth 20000 in
theorem gX3_areProductsSound_X3_productOf : GoodIn wsX3_areProductsSound (wsV RX3 22 RX3 yX3_productOf wsX3_productOf) := goodIn_app (goodIn_of _ (by decide +kernel)) ggX3_areProductsSound_X3_productOf
theorem dX3_areProductsSound_0 : decode cX3_areProductsSound 0 = .ok (.aload_n 0, 1) := by decide +kernel
theorem dX3_areProductsSound_1 : decode cX3_areProductsSound 1 = .ok (.iload_n 1, 1) := by decide +kernel
theorem dX3_areProductsSound_2 : decode cX3_areProductsSound 2 = .ok (.iload_n 2, 1) := by decide +kernel
theorem dX3_areProductsSound_3 : decode cX3_areProductsSound 3 = .ok (.invokevirtual 22, 3) := by decide +kernel
theorem dX3_areProductsSound_6 : decode cX3_areProductsSound 6 = .ok (.aload_n 0, 1) := by decide +kernel
theorem dX3_areProductsSound_7 : decode cX3_areProductsSound 7 = .ok (.iload_n 2, 1) := by decide +kernel
theorem dX3_areProductsSound_8 : decode cX3_areProductsSound 8 = .ok (.iload_n 1, 1) := by decide +kernel
theorem dX3_areProductsSound_9 : decode cX3_areProductsSound 9 = .ok (.invokevirtual 22, 3) := by decide +kernel
theorem dX3_areProductsSound_12 : decode cX3_areProductsSound 12 = .ok (.if_icmp .ne 26, 3) := by decide +kernel
theorem dX3_areProductsSound_15 : decode cX3_areProductsSound 15 = .ok (.aload_n 0, 1) := by decide +kernel
theorem dX3_areProductsSound_16 : decode cX3_areProductsSound 16 = .ok (.iload_n 1, 1) := by decide +kernel
theorem dX3_areProductsSound_17 : decode cX3_areProductsSound 17 = .ok (.iload_n 2, 1) := by decide +kernel
theorem dX3_areProductsSound_18 : decode cX3_areProductsSound 18 = .ok (.iconst 1, 1) := by decide +kernel
theorem dX3_areProductsSound_19 : decode cX3_areProductsSound 19 = .ok (.ixor, 1) := by decide +kernel
theorem dX3_areProductsSound_20 : decode cX3_areProductsSound 20 = .ok (.invokevirtual 22, 3) := by decide +kernel
theorem dX3_areProductsSound_23 : decode cX3_areProductsSound 23 = .ok (.aload_n 0, 1) := by decide +kernel
theorem dX3_areProductsSound_24 : decode cX3_areProductsSound 24 = .ok (.iload_n 1, 1) := by decide +kernel
theorem dX3_areProductsSound_25 : decode cX3_areProductsSound 25 = .ok (.iload_n 2, 1) := by decide +kernel
theorem dX3_areProductsSound_26 : decode cX3_areProductsSound 26 = .ok (.invokevirtual 22, 3) := by decide +kernel
theorem dX3_areProductsSound_29 : decode cX3_areProductsSound 29 = .ok (.iload_n 1, 1) := by decide +kernel
theorem dX3_areProductsSound_30 : decode cX3_areProductsSound 30 = .ok (.ixor, 1) := by decide +kernel
theorem dX3_areProductsSound_31 : decode cX3_areProductsSound 31 = .ok (.if_icmp .ne 7, 3) := by decide +kernel
theorem dX3_areProductsSound_34 : decode cX3_areProductsSound 34 = .ok (.iconst 1, 1) := by decide +kernel
theorem dX3_areProductsSound_35 : decode cX3_areProductsSound 35 = .ok (.goto 4, 3) := by decide +kernel
theorem dX3_areProductsSound_38 : decode cX3_areProductsSound 38 = .ok (.iconst 0, 1) := by decide +kernel
theorem dX3_areProductsSound_39 : decode cX3_areProductsSound 39 = .ok (.ireturn, 1) := by decide +kernel
set_option maxRecDepth 20000 in
theorem ggX3_areSquaresSound_X3_squareOf : GoodIn wsX3_areSquaresSound wsX3_squareOf := goodIn_ca (goodIn_ca (goodIn_r _ [5, 6, 7, 8, 4, 9, 10, 11, 12, 13, 14, 23, 24] (by decide +kernel) (by decide +kernel)) (goodIn_sub (fun _ h => List.mem_cons_of_mem _ (List.mem_append_left _ (List.mem_append_right _ h))) (by decide +kernel))) (goodIn_sub (fun _ h => List.mem_cons_of_mem _ (List.mem_append_right _ h)) (by decide +kernel))
set_option maxRecDepth 20000 in
theorem gX3_areSquaresSound_X3_squareOf : GoodIn wsX3_areSquaresSound (wsV RX3 29 RX3 yX3_squareOf wsX3_squareOf) := goodIn_app (goodIn_of _ (by decide +kernel)) ggX3_areSquaresSound_X3_squareOf
set_option maxRecDepth 20000 in
theorem ggX3_areSquaresSound_X3_rootOf : GoodIn wsX3_areSquaresSound wsX3_rootOf := goodIn_ca (goodIn_ca (goodIn_r _ [18, 19, 20, 21, 4, 22, 6, 7, 8, 9, 10, 11, 12, 13, 14, 1, 2, 3, 5, 23, 24] (by decide +kernel) (by decide +kernel)) (goodIn_sub (fun _ h => List.mem_cons_of_mem _ (List.mem_append_left _ (List.mem_append_right _ h))) (by decide +kernel))) (goodIn_sub (fun _ h => List.mem_cons_of_mem _ (List.mem_append_right _ h)) (by decide +kernel))
set_option maxRecDepth 20000 in
theorem gX3_areSquaresSound_X3_rootOf : GoodIn wsX3_areSquaresSound (wsV RX3 57 RX3 yX3_rootOf wsX3_rootOf) := goodIn_app (goodIn_of _ (by decide +kernel)) ggX3_areSquaresSound_X3_rootOf
theorem dX3_areSquaresSound_0 : decode cX3_areSquaresSound 0 = .ok (.aload_n 0, 1) := by decide +kernel
theorem dX3_areSquaresSound_1 : decode cX3_areSquaresSound 1 = .ok (.iload_n 1, 1) := by decide +kernel
theorem dX3_areSquaresSound_2 : decode cX3_areSquaresSound 2 = .ok (.iload_n 2, 1) := by decide +kernel
theorem dX3_areSquaresSound_3 : decode cX3_areSquaresSound 3 = .ok (.ixor, 1) := by decide +kernel
theorem dX3_areSquaresSound_4 : decode cX3_areSquaresSound 4 = .ok (.invokevirtual 29, 3) := by decide +kernel
theorem dX3_areSquaresSound_7 : decode cX3_areSquaresSound 7 = .ok (.aload_n 0, 1) := by decide +kernel
theorem dX3_areSquaresSound_8 : decode cX3_areSquaresSound 8 = .ok (.iload_n 1, 1) := by decide +kernel
theorem dX3_areSquaresSound_9 : decode cX3_areSquaresSound 9 = .ok (.invokevirtual 29, 3) := by decide +kernel
theorem dX3_areSquaresSound_12 : decode cX3_areSquaresSound 12 = .ok (.aload_n 0, 1) := by decide +kernel
theorem dX3_areSquaresSound_13 : decode cX3_areSquaresSound 13 = .ok (.iload_n 2, 1) := by decide +kernel
theorem dX3_areSquaresSound_14 : decode cX3_areSquaresSound 14 = .ok (.invokevirtual 29, 3) := by decide +kernel
theorem dX3_areSquaresSound_17 : decode cX3_areSquaresSound 17 = .ok (.ixor, 1) := by decide +kernel
theorem dX3_areSquaresSound_18 : decode cX3_areSquaresSound 18 = .ok (.if_icmp .ne 20, 3) := by decide +kernel
theorem dX3_areSquaresSound_21 : decode cX3_areSquaresSound 21 = .ok (.aload_n 0, 1) := by decide +kernel
theorem dX3_areSquaresSound_22 : decode cX3_areSquaresSound 22 = .ok (.aload_n 0, 1) := by decide +kernel
theorem dX3_areSquaresSound_23 : decode cX3_areSquaresSound 23 = .ok (.iload_n 1, 1) := by decide +kernel
theorem dX3_areSquaresSound_24 : decode cX3_areSquaresSound 24 = .ok (.invokevirtual 57, 3) := by decide +kernel
theorem dX3_areSquaresSound_27 : decode cX3_areSquaresSound 27 = .ok (.invokevirtual 29, 3) := by decide +kernel
theorem dX3_areSquaresSound_30 : decode cX3_areSquaresSound 30 = .ok (.iload_n 1, 1) := by decide +kernel
theorem dX3_areSquaresSound_31 : decode cX3_areSquaresSound 31 = .ok (.if_icmp .ne 7, 3) := by decide +kernel
theorem dX3_areSquaresSound_34 : decode cX3_areSquaresSound 34 = .ok (.iconst 1, 1) := by decide +kernel
theorem dX3_areSquaresSound_35 : decode cX3_areSquaresSound 35 = .ok (.goto 4, 3) := by decide +kernel
theorem dX3_areSquaresSound_38 : decode cX3_areSquaresSound 38 = .ok (.iconst 0, 1) := by decide +kernel
theorem dX3_areSquaresSound_39 : decode cX3_areSquaresSound 39 = .ok (.ireturn, 1) := by decide +kernel
set_option maxRecDepth 20000 in
theorem ggX3_isQuotientSound_X3_quotientOf : GoodIn wsX3_isQuotientSound wsX3_quotientOf := goodIn_ca (goodIn_ca (goodIn_r _ [5, 6, 7, 8, 4, 9, 10, 11, 12, 13, 14, 15, 16, 17, 18, 19, 20, 21, 22, 23, 24] (by decide +kernel) (by decide +kernel)) (goodIn_sub (fun _ h => List.mem_cons_of_mem _ (List.mem_append_left _ (List.mem_append_right _ h))) (by decide +kernel))) (goodIn_sub (fun _ h => List.mem_cons_of_mem _ (List.mem_append_right _ h)) (by decide +kernel))
set_option maxRecDepth 20000 in
theorem gX3_isQuotientSound_X3_quotientOf : GoodIn wsX3_isQuotientSound (wsV RX3 60 RX3 yX3_quotientOf wsX3_quotientOf) := goodIn_app (goodIn_of _ (by decide +kernel)) ggX3_isQuotientSound_X3_quotientOf
set_option maxRecDepth 20000 in
theorem ggX3_isQuotientSound_X3_productOf : GoodIn wsX3_isQuotientSound wsX3_productOf := goodIn_ca (goodIn_ca (goodIn_r _ [13, 14, 15, 16, 4, 17, 18, 23, 24] (by decide +kernel) (by decide +kernel)) (goodIn_sub (fun _ h => List.mem_cons_of_mem _ (List.mem_append_left _ (List.mem_append_right _ h))) (by decide +kernel))) (goodIn_sub (fun _ h => List.mem_cons_of_mem _ (List.mem_append_right _ h)) (by decide +kernel))
set_option maxRecDepth 20000 in
theorem gX3_isQuotientSound_X3_productOf : GoodIn wsX3_isQuotientSound (wsV RX3 22 RX3 yX3_productOf wsX3_productOf) := goodIn_app (goodIn_of _ (by decide +kernel)) ggX3_isQuotientSound_X3_productOf
theorem dX3_isQuotientSound_0 : decode cX3_isQuotientSound 0 = .ok (.iload_n 2, 1) := by decide +kernel
theorem dX3_isQuotientSound_1 : decode cX3_isQuotientSound 1 = .ok (.ifCond .eq 18, 3) := by decide +kernel
theorem dX3_isQuotientSound_4 : decode cX3_isQuotientSound 4 = .ok (.aload_n 0, 1) := by decide +kernel
theorem dX3_isQuotientSound_5 : decode cX3_isQuotientSound 5 = .ok (.aload_n 0, 1) := by decide +kernel
theorem dX3_isQuotientSound_6 : decode cX3_isQuotientSound 6 = .ok (.iload_n 1, 1) := by decide +kernel
theorem dX3_isQuotientSound_7 : decode cX3_isQuotientSound 7 = .ok (.iload_n 2, 1) := by decide +kernel
theorem dX3_isQuotientSound_8 : decode cX3_isQuotientSound 8 = .ok (.invokevirtual 60, 3) := by decide +kernel
theorem dX3_isQuotientSound_11 : decode cX3_isQuotientSound 11 = .ok (.iload_n 2, 1) := by decide +kernel
theorem dX3_isQuotientSound_12 : decode cX3_isQuotientSound 12 = .ok (.invokevirtual 22, 3) := by decide +kernel
theorem dX3_isQuotientSound_15 : decode cX3_isQuotientSound 15 = .ok (.iload_n 1, 1) := by decide +kernel
theorem dX3_isQuotientSound_16 : decode cX3_isQuotientSound 16 = .ok (.if_icmp .ne 7, 3) := by decide +kernel
theorem dX3_isQuotientSound_19 : decode cX3_isQuotientSound 19 = .ok (.iconst 1, 1) := by decide +kernel
theorem dX3_isQuotientSound_20 : decode cX3_isQuotientSound 20 = .ok (.goto 4, 3) := by decide +kernel
theorem dX3_isQuotientSound_23 : decode cX3_isQuotientSound 23 = .ok (.iconst 0, 1) := by decide +kernel
theorem dX3_isQuotientSound_24 : decode cX3_isQuotientSound 24 = .ok (.ireturn, 1) := by decide +kernel
set_option maxRecDepth 20000 in
theorem ggX3_areTracesSound_X3_traceOf : GoodIn wsX3_areTracesSound wsX3_traceOf := goodIn_ca (goodIn_ca (goodIn_r _ [5, 6, 7, 8, 4, 9, 10, 11, 12, 13, 14, 15, 16, 17, 18, 19, 20] (by decide +kernel) (by decide +kernel)) (goodIn_sub (fun _ h => List.mem_cons_of_mem _ (List.mem_append_left _ (List.mem_append_right _ h))) (by decide +kernel))) (goodIn_sub (fun _ h => List.mem_cons_of_mem _ (List.mem_append_right _ h)) (by decide +kernel))
set_option maxRecDepth 20000 in
theorem gX3_areTracesSound_X3_traceOf : GoodIn wsX3_areTracesSound (wsV RX3 63 RX3 yX3_traceOf wsX3_traceOf) := goodIn_app (goodIn_of _ (by decide +kernel)) ggX3_areTracesSound_X3_traceOf
theorem dX3_areTracesSound_0 : decode cX3_areTracesSound 0 = .ok (.aload_n 0, 1) := by decide +kernel
theorem dX3_areTracesSound_1 : decode cX3_areTracesSound 1 = .ok (.iload_n 1, 1) := by decide +kernel
theorem dX3_areTracesSound_2 : decode cX3_areTracesSound 2 = .ok (.iload_n 2, 1) := by decide +kernel
theorem dX3_areTracesSound_3 : decode cX3_areTracesSound 3 = .ok (.ixor, 1) := by decide +kernel
theorem dX3_areTracesSound_4 : decode cX3_areTracesSound 4 = .ok (.invokevirtual 63, 3) := by decide +kernel
theorem dX3_areTracesSound_7 : decode cX3_areTracesSound 7 = .ok (.aload_n 0, 1) := by decide +kernel
theorem dX3_areTracesSound_8 : decode cX3_areTracesSound 8 = .ok (.iload_n 1, 1) := by decide +kernel
theorem dX3_areTracesSound_9 : decode cX3_areTracesSound 9 = .ok (.invokevirtual 63, 3) := by decide +kernel
theorem dX3_areTracesSound_12 : decode cX3_areTracesSound 12 = .ok (.aload_n 0, 1) := by decide +kernel
theorem dX3_areTracesSound_13 : decode cX3_areTracesSound 13 = .ok (.iload_n 2, 1) := by decide +kernel
theorem dX3_areTracesSound_14 : decode cX3_areTracesSound 14 = .ok (.invokevirtual 63, 3) := by decide +kernel
theorem dX3_areTracesSound_17 : decode cX3_areTracesSound 17 = .ok (.ixor, 1) := by decide +kernel
theorem dX3_areTracesSound_18 : decode cX3_areTracesSound 18 = .ok (.if_icmp .ne 7, 3) := by decide +kernel
theorem dX3_areTracesSound_21 : decode cX3_areTracesSound 21 = .ok (.iconst 1, 1) := by decide +kernel
theorem dX3_areTracesSound_22 : decode cX3_areTracesSound 22 = .ok (.goto 4, 3) := by decide +kernel
theorem dX3_areTracesSound_25 : decode cX3_areTracesSound 25 = .ok (.iconst 0, 1) := by decide +kernel
theorem dX3_areTracesSound_26 : decode cX3_areTracesSound 26 = .ok (.ireturn, 1) := by decide +kernel
theorem dX4_init_0 : decode cX4_init 0 = .ok (.aload_n 0, 1) := by decide +kernel
theorem dX4_init_1 : decode cX4_init 1 = .ok (.invokespecial 3, 3) := by decide +kernel
theorem dX4_init_4 : decode cX4_init 4 = .ok (.aload_n 0, 1) := by decide +kernel
theorem dX4_init_5 : decode cX4_init 5 = .ok (.bipush 8, 2) := by decide +kernel
theorem dX4_init_7 : decode cX4_init 7 = .ok (.newarray .int, 2) := by decide +kernel
theorem dX4_init_9 : decode cX4_init 9 = .ok (.putfield 11, 3) := by decide +kernel
theorem dX4_init_12 : decode cX4_init 12 = .ok (.aload_n 0, 1) := by decide +kernel
theorem dX4_init_13 : decode cX4_init 13 = .ok (.bipush 8, 2) := by decide +kernel
theorem dX4_init_15 : decode cX4_init 15 = .ok (.newarray .int, 2) := by decide +kernel
theorem dX4_init_17 : decode cX4_init 17 = .ok (.putfield 15, 3) := by decide +kernel
theorem dX4_init_20 : decode cX4_init 20 = .ok (.aload_n 0, 1) := by decide +kernel
theorem dX4_init_21 : decode cX4_init 21 = .ok (.bipush 8, 2) := by decide +kernel
theorem dX4_init_23 : decode cX4_init 23 = .ok (.newarray .int, 2) := by decide +kernel
theorem dX4_init_25 : decode cX4_init 25 = .ok (.putfield 18, 3) := by decide +kernel
theorem dX4_init_28 : decode cX4_init 28 = .ok (.aload_n 0, 1) := by decide +kernel
theorem dX4_init_29 : decode cX4_init 29 = .ok (.iconst 0, 1) := by decide +kernel
theorem dX4_init_30 : decode cX4_init 30 = .ok (.putfield 21, 3) := by decide +kernel
theorem dX4_init_33 : decode cX4_init 33 = .ok (.aload_n 0, 1) := by decide +kernel
theorem dX4_init_34 : decode cX4_init 34 = .ok (.iconst 0, 1) := by decide +kernel
theorem dX4_init_35 : decode cX4_init 35 = .ok (.putfield 25, 3) := by decide +kernel
theorem dX4_init_38 : decode cX4_init 38 = .ok (.return_, 1) := by decide +kernel
theorem dX4_requireRegister_0 : decode cX4_requireRegister 0 = .ok (.iload_n 1, 1) := by decide +kernel
theorem dX4_requireRegister_1 : decode cX4_requireRegister 1 = .ok (.ifCond .lt 12, 3) := by decide +kernel
theorem dX4_requireRegister_4 : decode cX4_requireRegister 4 = .ok (.iload_n 1, 1) := by decide +kernel
theorem dX4_requireRegister_5 : decode cX4_requireRegister 5 = .ok (.aload_n 0, 1) := by decide +kernel
theorem dX4_requireRegister_6 : decode cX4_requireRegister 6 = .ok (.getfield 11, 3) := by decide +kernel
theorem dX4_requireRegister_9 : decode cX4_requireRegister 9 = .ok (.arraylength, 1) := by decide +kernel
theorem dX4_requireRegister_10 : decode cX4_requireRegister 10 = .ok (.if_icmp .lt 13, 3) := by decide +kernel
theorem dX4_requireRegister_13 : decode cX4_requireRegister 13 = .ok (.new 28, 3) := by decide +kernel
theorem dX4_requireRegister_16 : decode cX4_requireRegister 16 = .ok (.dup, 1) := by decide +kernel
theorem dX4_requireRegister_17 : decode cX4_requireRegister 17 = .ok (.ldc 30, 2) := by decide +kernel
theorem dX4_requireRegister_19 : decode cX4_requireRegister 19 = .ok (.invokespecial 32, 3) := by decide +kernel
theorem dX4_requireRegister_22 : decode cX4_requireRegister 22 = .ok (.athrow, 1) := by decide +kernel
theorem dX4_requireRegister_23 : decode cX4_requireRegister 23 = .ok (.return_, 1) := by decide +kernel
set_option maxRecDepth 20000 in
theorem ggX4_numberOf_X4_requireRegister : GoodIn wsX4_numberOf wsX4_requireRegister := goodIn_ca (goodIn_r _ [6, 7, 8, 1, 9, 10, 11, 12, 13] (by decide +kernel) (by decide +kernel)) (goodIn_sub (fun _ h => List.mem_cons_of_mem _ (List.mem_append_right _ h)) (by decide +kernel))
set_option maxRecDepth 20000 in
theorem gX4_numberOf_X4_requireRegister : GoodIn wsX4_numberOf (wsV RX4 35 RX4 yX4_requireRegister wsX4_requireRegister) := goodIn_app (goodIn_of _ (by decide +kernel)) ggX4_numberOf_X4_requireRegister
theorem dX4_numberOf_0 : decode cX4_numberOf 0 = .ok (.aload_n 0, 1) := by decide +kernel
theorem dX4_numberOf_1 : decode cX4_numberOf 1 = .ok (.iload_n 1, 1) := by decide +kernel
theorem dX4_numberOf_2 : decode cX4_numberOf 2 = .ok (.invokevirtual 35, 3) := by decide +kernel
theorem dX4_numberOf_5 : decode cX4_numberOf 5 = .ok (.aload_n 0, 1) := by decide +kernel
theorem dX4_numberOf_6 : decode cX4_numberOf 6 = .ok (.getfield 11, 3) := by decide +kernel
theorem dX4_numberOf_9 : decode cX4_numberOf 9 = .ok (.iload_n 1, 1) := by decide +kernel
theorem dX4_numberOf_10 : decode cX4_numberOf 10 = .ok (.iaload, 1) := by decide +kernel
theorem dX4_numberOf_11 : decode cX4_numberOf 11 = .ok (.ireturn, 1) := by decide +kernel
set_option maxRecDepth 20000 in
theorem ggX4_store_X4_requireRegister : GoodIn wsX4_store wsX4_requireRegister := goodIn_ca (goodIn_r _ [6, 7, 8, 1, 9, 10, 11, 12, 13] (by decide +kernel) (by decide +kernel)) (goodIn_sub (fun _ h => List.mem_cons_of_mem _ (List.mem_append_right _ h)) (by decide +kernel))
set_option maxRecDepth 20000 in
theorem gX4_store_X4_requireRegister : GoodIn wsX4_store (wsV RX4 35 RX4 yX4_requireRegister wsX4_requireRegister) := goodIn_app (goodIn_of _ (by decide +kernel)) ggX4_store_X4_requireRegister
theorem dX4_store_0 : decode cX4_store 0 = .ok (.aload_n 0, 1) := by decide +kernel
theorem dX4_store_1 : decode cX4_store 1 = .ok (.iload_n 1, 1) := by decide +kernel
theorem dX4_store_2 : decode cX4_store 2 = .ok (.invokevirtual 35, 3) := by decide +kernel
theorem dX4_store_5 : decode cX4_store 5 = .ok (.aload_n 0, 1) := by decide +kernel
theorem dX4_store_6 : decode cX4_store 6 = .ok (.getfield 11, 3) := by decide +kernel
theorem dX4_store_9 : decode cX4_store 9 = .ok (.iload_n 1, 1) := by decide +kernel
theorem dX4_store_10 : decode cX4_store 10 = .ok (.iload_n 2, 1) := by decide +kernel
theorem dX4_store_11 : decode cX4_store 11 = .ok (.iastore, 1) := by decide +kernel
theorem dX4_store_12 : decode cX4_store 12 = .ok (.return_, 1) := by decide +kernel
set_option maxRecDepth 20000 in
theorem ggX4_change_X4_numberOf : GoodIn wsX4_change wsX4_numberOf := goodIn_ca (goodIn_ca (goodIn_r _ [13, 14, 15, 16, 17, 12, 18, 19, 20, 29, 30, 31, 32, 33] (by decide +kernel) (by decide +kernel)) (goodIn_sub (fun _ h => List.mem_cons_of_mem _ (List.mem_append_left _ (List.mem_append_right _ h))) (by decide +kernel))) (goodIn_sub (fun _ h => List.mem_cons_of_mem _ (List.mem_append_right _ h)) (by decide +kernel))
set_option maxRecDepth 20000 in
theorem gX4_change_X4_numberOf : GoodIn wsX4_change (wsV RX4 39 RX4 yX4_numberOf wsX4_numberOf) := goodIn_app (goodIn_of _ (by decide +kernel)) ggX4_change_X4_numberOf
set_option maxRecDepth 20000 in
theorem ggX4_change_J9_floorMod_7cf53 : GoodIn wsX4_change wsJ9_floorMod_7cf53 := goodIn_r _ [24] (by decide +kernel) (by decide +kernel)
set_option maxRecDepth 20000 in
theorem gX4_change_J9_floorMod_7cf53 : GoodIn wsX4_change (va_wsS RX4 43 yJ9_floorMod_7cf53 wsJ9_floorMod_7cf53) := goodIn_app (goodIn_of _ (by decide +kernel)) ggX4_change_J9_floorMod_7cf53
set_option maxRecDepth 20000 in
theorem ggX4_change_X4_store : GoodIn wsX4_change wsX4_store := goodIn_ca (goodIn_ca (goodIn_r _ [28, 14, 15, 16, 17, 12, 18, 19, 20, 29, 30, 31, 32, 33] (by decide +kernel) (by decide +kernel)) (goodIn_sub (fun _ h => List.mem_cons_of_mem _ (List.mem_append_left _ (List.mem_append_right _ h))) (by decide +kernel))) (goodIn_sub (fun _ h => List.mem_cons_of_mem _ (List.mem_append_right _ h)) (by decide +kernel))
set_option maxRecDepth 20000 in
theorem gX4_change_X4_store : GoodIn wsX4_change (wsV RX4 52 RX4 yX4_store wsX4_store) := goodIn_app (goodIn_of _ (by decide +kernel)) ggX4_change_X4_store
theorem dX4_change_0 : decode cX4_change 0 = .ok (.aload_n 0, 1) := by decide +kernel
theorem dX4_change_1 : decode cX4_change 1 = .ok (.iload_n 1, 1) := by decide +kernel
theorem dX4_change_2 : decode cX4_change 2 = .ok (.invokevirtual 39, 3) := by decide +kernel
theorem dX4_change_5 : decode cX4_change 5 = .ok (.istore_n 3, 1) := by decide +kernel
theorem dX4_change_6 : decode cX4_change 6 = .ok (.aload_n 0, 1) := by decide +kernel
theorem dX4_change_7 : decode cX4_change 7 = .ok (.getfield 21, 3) := by decide +kernel
theorem dX4_change_10 : decode cX4_change 10 = .ok (.bipush 8, 2) := by decide +kernel
theorem dX4_change_12 : decode cX4_change 12 = .ok (.invokestatic 43, 3) := by decide +kernel
theorem dX4_change_15 : decode cX4_change 15 = .ok (.istore 4, 2) := by decide +kernel
theorem dX4_change_17 : decode cX4_change 17 = .ok (.aload_n 0, 1) := by decide +kernel
theorem dX4_change_18 : decode cX4_change 18 = .ok (.getfield 15, 3) := by decide +kernel
theorem dX4_change_21 : decode cX4_change 21 = .ok (.iload 4, 2) := by decide +kernel
theorem dX4_change_23 : decode cX4_change 23 = .ok (.iload_n 1, 1) := by decide +kernel
theorem dX4_change_24 : decode cX4_change 24 = .ok (.iastore, 1) := by decide +kernel
theorem dX4_change_25 : decode cX4_change 25 = .ok (.aload_n 0, 1) := by decide +kernel
theorem dX4_change_26 : decode cX4_change 26 = .ok (.getfield 18, 3) := by decide +kernel
theorem dX4_change_29 : decode cX4_change 29 = .ok (.iload 4, 2) := by decide +kernel
theorem dX4_change_31 : decode cX4_change 31 = .ok (.iload_n 3, 1) := by decide +kernel
theorem dX4_change_32 : decode cX4_change 32 = .ok (.iastore, 1) := by decide +kernel
theorem dX4_change_33 : decode cX4_change 33 = .ok (.aload_n 0, 1) := by decide +kernel
theorem dX4_change_34 : decode cX4_change 34 = .ok (.dup, 1) := by decide +kernel
theorem dX4_change_35 : decode cX4_change 35 = .ok (.getfield 21, 3) := by decide +kernel
theorem dX4_change_38 : decode cX4_change 38 = .ok (.iconst 1, 1) := by decide +kernel
theorem dX4_change_39 : decode cX4_change 39 = .ok (.iadd, 1) := by decide +kernel
theorem dX4_change_40 : decode cX4_change 40 = .ok (.putfield 21, 3) := by decide +kernel
theorem dX4_change_43 : decode cX4_change 43 = .ok (.aload_n 0, 1) := by decide +kernel
theorem dX4_change_44 : decode cX4_change 44 = .ok (.aload_n 0, 1) := by decide +kernel
theorem dX4_change_45 : decode cX4_change 45 = .ok (.getfield 25, 3) := by decide +kernel
theorem dX4_change_48 : decode cX4_change 48 = .ok (.iconst 1, 1) := by decide +kernel
theorem dX4_change_49 : decode cX4_change 49 = .ok (.iadd, 1) := by decide +kernel
theorem dX4_change_50 : decode cX4_change 50 = .ok (.bipush 8, 2) := by decide +kernel
theorem dX4_change_52 : decode cX4_change 52 = .ok (.invokestatic 49, 3) := by decide +kernel
theorem dX4_change_55 : decode cX4_change 55 = .ok (.putfield 25, 3) := by decide +kernel
theorem dX4_change_58 : decode cX4_change 58 = .ok (.aload_n 0, 1) := by decide +kernel
theorem dX4_change_59 : decode cX4_change 59 = .ok (.iload_n 1, 1) := by decide +kernel
theorem dX4_change_60 : decode cX4_change 60 = .ok (.iload_n 2, 1) := by decide +kernel
theorem dX4_change_61 : decode cX4_change 61 = .ok (.invokevirtual 52, 3) := by decide +kernel
theorem dX4_change_64 : decode cX4_change 64 = .ok (.iload_n 2, 1) := by decide +kernel
theorem dX4_change_65 : decode cX4_change 65 = .ok (.ireturn, 1) := by decide +kernel
set_option maxRecDepth 20000 in
theorem ggX4_takeBack_J9_floorMod_7cf53 : GoodIn wsX4_takeBack wsJ9_floorMod_7cf53 := goodIn_r _ [8] (by decide +kernel) (by decide +kernel)
set_option maxRecDepth 20000 in
theorem gX4_takeBack_J9_floorMod_7cf53 : GoodIn wsX4_takeBack (va_wsS RX4 43 yJ9_floorMod_7cf53 wsJ9_floorMod_7cf53) := goodIn_app (goodIn_of _ (by decide +kernel)) ggX4_takeBack_J9_floorMod_7cf53
set_option maxRecDepth 20000 in
theorem ggX4_takeBack_X4_store : GoodIn wsX4_takeBack wsX4_store := goodIn_ca (goodIn_ca (goodIn_r _ [13, 14, 15, 16, 17, 12, 18, 19, 20, 21, 22, 23, 24, 25] (by decide +kernel) (by decide +kernel)) (goodIn_sub (fun _ h => List.mem_cons_of_mem _ (List.mem_append_left _ (List.mem_append_right _ h))) (by decide +kernel))) (goodIn_sub (fun _ h => List.mem_cons_of_mem _ (List.mem_append_right _ h)) (by decide +kernel))
set_option maxRecDepth 20000 in
theorem gX4_takeBack_X4_store : GoodIn wsX4_takeBack (wsV RX4 52 RX4 yX4_store wsX4_store) := goodIn_app (goodIn_of _ (by decide +kernel)) ggX4_takeBack_X4_store
theorem dX4_takeBack_0 : decode cX4_takeBack 0 = .ok (.aload_n 0, 1) := by decide +kernel
theorem dX4_takeBack_1 : decode cX4_takeBack 1 = .ok (.getfield 25, 3) := by decide +kernel
theorem dX4_takeBack_4 : decode cX4_takeBack 4 = .ok (.ifCond .ne 5, 3) := by decide +kernel
theorem dX4_takeBack_7 : decode cX4_takeBack 7 = .ok (.iconst (-1), 1) := by decide +kernel
theorem dX4_takeBack_8 : decode cX4_takeBack 8 = .ok (.ireturn, 1) := by decide +kernel
theorem dX4_takeBack_9 : decode cX4_takeBack 9 = .ok (.aload_n 0, 1) := by decide +kernel
theorem dX4_takeBack_10 : decode cX4_takeBack 10 = .ok (.dup, 1) := by decide +kernel
theorem dX4_takeBack_11 : decode cX4_takeBack 11 = .ok (.getfield 25, 3) := by decide +kernel
theorem dX4_takeBack_14 : decode cX4_takeBack 14 = .ok (.iconst 1, 1) := by decide +kernel
theorem dX4_takeBack_15 : decode cX4_takeBack 15 = .ok (.isub, 1) := by decide +kernel
theorem dX4_takeBack_16 : decode cX4_takeBack 16 = .ok (.putfield 25, 3) := by decide +kernel
theorem dX4_takeBack_19 : decode cX4_takeBack 19 = .ok (.aload_n 0, 1) := by decide +kernel
theorem dX4_takeBack_20 : decode cX4_takeBack 20 = .ok (.dup, 1) := by decide +kernel
theorem dX4_takeBack_21 : decode cX4_takeBack 21 = .ok (.getfield 21, 3) := by decide +kernel
theorem dX4_takeBack_24 : decode cX4_takeBack 24 = .ok (.iconst 1, 1) := by decide +kernel
theorem dX4_takeBack_25 : decode cX4_takeBack 25 = .ok (.isub, 1) := by decide +kernel
theorem dX4_takeBack_26 : decode cX4_takeBack 26 = .ok (.putfield 21, 3) := by decide +kernel
theorem dX4_takeBack_29 : decode cX4_takeBack 29 = .ok (.aload_n 0, 1) := by decide +kernel
theorem dX4_takeBack_30 : decode cX4_takeBack 30 = .ok (.getfield 21, 3) := by decide +kernel
theorem dX4_takeBack_33 : decode cX4_takeBack 33 = .ok (.bipush 8, 2) := by decide +kernel
theorem dX4_takeBack_35 : decode cX4_takeBack 35 = .ok (.invokestatic 43, 3) := by decide +kernel
theorem dX4_takeBack_38 : decode cX4_takeBack 38 = .ok (.istore_n 1, 1) := by decide +kernel
theorem dX4_takeBack_39 : decode cX4_takeBack 39 = .ok (.aload_n 0, 1) := by decide +kernel
theorem dX4_takeBack_40 : decode cX4_takeBack 40 = .ok (.aload_n 0, 1) := by decide +kernel
theorem dX4_takeBack_41 : decode cX4_takeBack 41 = .ok (.getfield 15, 3) := by decide +kernel
theorem dX4_takeBack_44 : decode cX4_takeBack 44 = .ok (.iload_n 1, 1) := by decide +kernel
theorem dX4_takeBack_45 : decode cX4_takeBack 45 = .ok (.iaload, 1) := by decide +kernel
theorem dX4_takeBack_46 : decode cX4_takeBack 46 = .ok (.aload_n 0, 1) := by decide +kernel
theorem dX4_takeBack_47 : decode cX4_takeBack 47 = .ok (.getfield 18, 3) := by decide +kernel
theorem dX4_takeBack_50 : decode cX4_takeBack 50 = .ok (.iload_n 1, 1) := by decide +kernel
theorem dX4_takeBack_51 : decode cX4_takeBack 51 = .ok (.iaload, 1) := by decide +kernel
theorem dX4_takeBack_52 : decode cX4_takeBack 52 = .ok (.invokevirtual 52, 3) := by decide +kernel
theorem dX4_takeBack_55 : decode cX4_takeBack 55 = .ok (.aload_n 0, 1) := by decide +kernel
theorem dX4_takeBack_56 : decode cX4_takeBack 56 = .ok (.getfield 15, 3) := by decide +kernel
theorem dX4_takeBack_59 : decode cX4_takeBack 59 = .ok (.iload_n 1, 1) := by decide +kernel
theorem dX4_takeBack_60 : decode cX4_takeBack 60 = .ok (.iaload, 1) := by decide +kernel
theorem dX4_takeBack_61 : decode cX4_takeBack 61 = .ok (.ireturn, 1) := by decide +kernel
theorem dX4_countKept_0 : decode cX4_countKept 0 = .ok (.aload_n 0, 1) := by decide +kernel
theorem dX4_countKept_1 : decode cX4_countKept 1 = .ok (.getfield 25, 3) := by decide +kernel
theorem dX4_countKept_4 : decode cX4_countKept 4 = .ok (.ireturn, 1) := by decide +kernel
theorem dX4_total_0 : decode cX4_total 0 = .ok (.iconst 0, 1) := by decide +kernel
theorem dX4_total_1 : decode cX4_total 1 = .ok (.istore_n 1, 1) := by decide +kernel
theorem dX4_total_2 : decode cX4_total 2 = .ok (.aload_n 0, 1) := by decide +kernel
theorem dX4_total_3 : decode cX4_total 3 = .ok (.getfield 11, 3) := by decide +kernel
theorem dX4_total_6 : decode cX4_total 6 = .ok (.astore_n 2, 1) := by decide +kernel
theorem dX4_total_7 : decode cX4_total 7 = .ok (.aload_n 2, 1) := by decide +kernel
theorem dX4_total_8 : decode cX4_total 8 = .ok (.arraylength, 1) := by decide +kernel
theorem dX4_total_9 : decode cX4_total 9 = .ok (.istore_n 3, 1) := by decide +kernel
theorem dX4_total_10 : decode cX4_total 10 = .ok (.iconst 0, 1) := by decide +kernel
theorem dX4_total_11 : decode cX4_total 11 = .ok (.istore 4, 2) := by decide +kernel
theorem dX4_total_13 : decode cX4_total 13 = .ok (.iload 4, 2) := by decide +kernel
theorem dX4_total_15 : decode cX4_total 15 = .ok (.iload_n 3, 1) := by decide +kernel
theorem dX4_total_16 : decode cX4_total 16 = .ok (.if_icmp .ge 20, 3) := by decide +kernel
theorem dX4_total_19 : decode cX4_total 19 = .ok (.aload_n 2, 1) := by decide +kernel
theorem dX4_total_20 : decode cX4_total 20 = .ok (.iload 4, 2) := by decide +kernel
theorem dX4_total_22 : decode cX4_total 22 = .ok (.iaload, 1) := by decide +kernel
theorem dX4_total_23 : decode cX4_total 23 = .ok (.istore 5, 2) := by decide +kernel
theorem dX4_total_25 : decode cX4_total 25 = .ok (.iload_n 1, 1) := by decide +kernel
theorem dX4_total_26 : decode cX4_total 26 = .ok (.iload 5, 2) := by decide +kernel
theorem dX4_total_28 : decode cX4_total 28 = .ok (.iadd, 1) := by decide +kernel
theorem dX4_total_29 : decode cX4_total 29 = .ok (.istore_n 1, 1) := by decide +kernel
theorem dX4_total_30 : decode cX4_total 30 = .ok (.iinc 4 1, 3) := by decide +kernel
theorem dX4_total_33 : decode cX4_total 33 = .ok (.goto (-20), 3) := by decide +kernel
theorem dX4_total_36 : decode cX4_total 36 = .ok (.iload_n 1, 1) := by decide +kernel
theorem dX4_total_37 : decode cX4_total 37 = .ok (.ireturn, 1) := by decide +kernel
set_option maxRecDepth 20000 in
theorem ggX4_numbersMixedInto_X5_mixed : GoodIn wsX4_numbersMixedInto wsX5_mixed := goodIn_r _ [4, 5] (by decide +kernel) (by decide +kernel)
set_option maxRecDepth 20000 in
theorem gX4_numbersMixedInto_X5_mixed_n56 : GoodIn wsX4_numbersMixedInto (wsX5_mixed) := ggX4_numbersMixedInto_X5_mixed
theorem dX4_numbersMixedInto_0 : decode cX4_numbersMixedInto 0 = .ok (.lload_n 1, 1) := by decide +kernel
theorem dX4_numbersMixedInto_1 : decode cX4_numbersMixedInto 1 = .ok (.lstore_n 3, 1) := by decide +kernel
theorem dX4_numbersMixedInto_2 : decode cX4_numbersMixedInto 2 = .ok (.aload_n 0, 1) := by decide +kernel
theorem dX4_numbersMixedInto_3 : decode cX4_numbersMixedInto 3 = .ok (.getfield 11, 3) := by decide +kernel
theorem dX4_numbersMixedInto_6 : decode cX4_numbersMixedInto 6 = .ok (.astore 5, 2) := by decide +kernel
theorem dX4_numbersMixedInto_8 : decode cX4_numbersMixedInto 8 = .ok (.aload 5, 2) := by decide +kernel
theorem dX4_numbersMixedInto_10 : decode cX4_numbersMixedInto 10 = .ok (.arraylength, 1) := by decide +kernel
theorem dX4_numbersMixedInto_11 : decode cX4_numbersMixedInto 11 = .ok (.istore 6, 2) := by decide +kernel
theorem dX4_numbersMixedInto_13 : decode cX4_numbersMixedInto 13 = .ok (.iconst 0, 1) := by decide +kernel
theorem dX4_numbersMixedInto_14 : decode cX4_numbersMixedInto 14 = .ok (.istore 7, 2) := by decide +kernel
theorem dX4_numbersMixedInto_16 : decode cX4_numbersMixedInto 16 = .ok (.iload 7, 2) := by decide +kernel
theorem dX4_numbersMixedInto_18 : decode cX4_numbersMixedInto 18 = .ok (.iload 6, 2) := by decide +kernel
theorem dX4_numbersMixedInto_20 : decode cX4_numbersMixedInto 20 = .ok (.if_icmp .ge 23, 3) := by decide +kernel
theorem dX4_numbersMixedInto_23 : decode cX4_numbersMixedInto 23 = .ok (.aload 5, 2) := by decide +kernel
theorem dX4_numbersMixedInto_25 : decode cX4_numbersMixedInto 25 = .ok (.iload 7, 2) := by decide +kernel
theorem dX4_numbersMixedInto_27 : decode cX4_numbersMixedInto 27 = .ok (.iaload, 1) := by decide +kernel
theorem dX4_numbersMixedInto_28 : decode cX4_numbersMixedInto 28 = .ok (.istore 8, 2) := by decide +kernel
theorem dX4_numbersMixedInto_30 : decode cX4_numbersMixedInto 30 = .ok (.lload_n 3, 1) := by decide +kernel
theorem dX4_numbersMixedInto_31 : decode cX4_numbersMixedInto 31 = .ok (.iload 8, 2) := by decide +kernel
theorem dX4_numbersMixedInto_33 : decode cX4_numbersMixedInto 33 = .ok (.invokestatic 56, 3) := by decide +kernel
theorem dX4_numbersMixedInto_36 : decode cX4_numbersMixedInto 36 = .ok (.lstore_n 3, 1) := by decide +kernel
theorem dX4_numbersMixedInto_37 : decode cX4_numbersMixedInto 37 = .ok (.iinc 7 1, 3) := by decide +kernel
theorem dX4_numbersMixedInto_40 : decode cX4_numbersMixedInto 40 = .ok (.goto (-24), 3) := by decide +kernel
theorem dX4_numbersMixedInto_43 : decode cX4_numbersMixedInto 43 = .ok (.lload_n 3, 1) := by decide +kernel
theorem dX4_numbersMixedInto_44 : decode cX4_numbersMixedInto 44 = .ok (.lreturn, 1) := by decide +kernel
