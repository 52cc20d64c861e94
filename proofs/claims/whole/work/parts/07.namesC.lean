theorem dX6_init_0 : decode cX6_init 0 = .ok (.aload_n 0, 1) := by decide +kernel
theorem dX6_init_1 : decode cX6_init 1 = .ok (.invokespecial 1, 3) := by decide +kernel
theorem dX6_init_4 : decode cX6_init 4 = .ok (.aload_n 0, 1) := by decide +kernel
theorem dX6_init_5 : decode cX6_init 5 = .ok (.bipush 8, 2) := by decide +kernel
theorem dX6_init_7 : decode cX6_init 7 = .ok (.newarray .int, 2) := by decide +kernel
theorem dX6_init_9 : decode cX6_init 9 = .ok (.putfield 9, 3) := by decide +kernel
theorem dX6_init_12 : decode cX6_init 12 = .ok (.aload_n 0, 1) := by decide +kernel
theorem dX6_init_13 : decode cX6_init 13 = .ok (.bipush 8, 2) := by decide +kernel
theorem dX6_init_15 : decode cX6_init 15 = .ok (.newarray .int, 2) := by decide +kernel
theorem dX6_init_17 : decode cX6_init 17 = .ok (.putfield 13, 3) := by decide +kernel
theorem dX6_init_20 : decode cX6_init 20 = .ok (.aload_n 0, 1) := by decide +kernel
theorem dX6_init_21 : decode cX6_init 21 = .ok (.bipush 8, 2) := by decide +kernel
theorem dX6_init_23 : decode cX6_init 23 = .ok (.newarray .int, 2) := by decide +kernel
theorem dX6_init_25 : decode cX6_init 25 = .ok (.putfield 16, 3) := by decide +kernel
theorem dX6_init_28 : decode cX6_init 28 = .ok (.aload_n 0, 1) := by decide +kernel
theorem dX6_init_29 : decode cX6_init 29 = .ok (.sipush 256, 3) := by decide +kernel
theorem dX6_init_32 : decode cX6_init 32 = .ok (.newarray .boolean, 2) := by decide +kernel
theorem dX6_init_34 : decode cX6_init 34 = .ok (.putfield 19, 3) := by decide +kernel
theorem dX6_init_37 : decode cX6_init 37 = .ok (.aload_n 0, 1) := by decide +kernel
theorem dX6_init_38 : decode cX6_init 38 = .ok (.sipush 512, 3) := by decide +kernel
theorem dX6_init_41 : decode cX6_init 41 = .ok (.newarray .int, 2) := by decide +kernel
theorem dX6_init_43 : decode cX6_init 43 = .ok (.putfield 23, 3) := by decide +kernel
theorem dX6_init_46 : decode cX6_init 46 = .ok (.return_, 1) := by decide +kernel
theorem dX6_thrown_0 : decode cX6_thrown 0 = .ok (.aload_n 0, 1) := by decide +kernel
theorem dX6_thrown_1 : decode cX6_thrown 1 = .ok (.getfield 26, 3) := by decide +kernel
theorem dX6_thrown_4 : decode cX6_thrown 4 = .ok (.ireturn, 1) := by decide +kernel
theorem dX6_fails_0 : decode cX6_fails 0 = .ok (.aload_n 0, 1) := by decide +kernel
theorem dX6_fails_1 : decode cX6_fails 1 = .ok (.aload_n 0, 1) := by decide +kernel
theorem dX6_fails_2 : decode cX6_fails 2 = .ok (.getfield 26, 3) := by decide +kernel
theorem dX6_fails_5 : decode cX6_fails 5 = .ok (.ifCond .ne 11, 3) := by decide +kernel
theorem dX6_fails_8 : decode cX6_fails 8 = .ok (.iload_n 1, 1) := by decide +kernel
theorem dX6_fails_9 : decode cX6_fails 9 = .ok (.ifCond .eq 7, 3) := by decide +kernel
theorem dX6_fails_12 : decode cX6_fails 12 = .ok (.iload_n 2, 1) := by decide +kernel
theorem dX6_fails_13 : decode cX6_fails 13 = .ok (.goto 7, 3) := by decide +kernel
theorem dX6_fails_16 : decode cX6_fails 16 = .ok (.aload_n 0, 1) := by decide +kernel
theorem dX6_fails_17 : decode cX6_fails 17 = .ok (.getfield 26, 3) := by decide +kernel
theorem dX6_fails_20 : decode cX6_fails 20 = .ok (.putfield 26, 3) := by decide +kernel
theorem dX6_fails_23 : decode cX6_fails 23 = .ok (.aload_n 0, 1) := by decide +kernel
theorem dX6_fails_24 : decode cX6_fails 24 = .ok (.getfield 26, 3) := by decide +kernel
theorem dX6_fails_27 : decode cX6_fails 27 = .ok (.ifCond .le 7, 3) := by decide +kernel
theorem dX6_fails_30 : decode cX6_fails 30 = .ok (.iconst 1, 1) := by decide +kernel
theorem dX6_fails_31 : decode cX6_fails 31 = .ok (.goto 4, 3) := by decide +kernel
theorem dX6_fails_34 : decode cX6_fails 34 = .ok (.iconst 0, 1) := by decide +kernel
theorem dX6_fails_35 : decode cX6_fails 35 = .ok (.ireturn, 1) := by decide +kernel
theorem dX6_isRegister_0 : decode cX6_isRegister 0 = .ok (.iload_n 0, 1) := by decide +kernel
theorem dX6_isRegister_1 : decode cX6_isRegister 1 = .ok (.ifCond .lt 13, 3) := by decide +kernel
theorem dX6_isRegister_4 : decode cX6_isRegister 4 = .ok (.iload_n 0, 1) := by decide +kernel
theorem dX6_isRegister_5 : decode cX6_isRegister 5 = .ok (.bipush 8, 2) := by decide +kernel
theorem dX6_isRegister_7 : decode cX6_isRegister 7 = .ok (.if_icmp .ge 7, 3) := by decide +kernel
theorem dX6_isRegister_10 : decode cX6_isRegister 10 = .ok (.iconst 1, 1) := by decide +kernel
theorem dX6_isRegister_11 : decode cX6_isRegister 11 = .ok (.goto 4, 3) := by decide +kernel
theorem dX6_isRegister_14 : decode cX6_isRegister 14 = .ok (.iconst 0, 1) := by decide +kernel
theorem dX6_isRegister_15 : decode cX6_isRegister 15 = .ok (.ireturn, 1) := by decide +kernel
theorem dX6_isNumber_0 : decode cX6_isNumber 0 = .ok (.iload_n 0, 1) := by decide +kernel
theorem dX6_isNumber_1 : decode cX6_isNumber 1 = .ok (.ifCond .lt 12, 3) := by decide +kernel
theorem dX6_isNumber_4 : decode cX6_isNumber 4 = .ok (.iload_n 0, 1) := by decide +kernel
theorem dX6_isNumber_5 : decode cX6_isNumber 5 = .ok (.iload_n 1, 1) := by decide +kernel
theorem dX6_isNumber_6 : decode cX6_isNumber 6 = .ok (.if_icmp .ge 7, 3) := by decide +kernel
theorem dX6_isNumber_9 : decode cX6_isNumber 9 = .ok (.iconst 1, 1) := by decide +kernel
theorem dX6_isNumber_10 : decode cX6_isNumber 10 = .ok (.goto 4, 3) := by decide +kernel
theorem dX6_isNumber_13 : decode cX6_isNumber 13 = .ok (.iconst 0, 1) := by decide +kernel
theorem dX6_isNumber_14 : decode cX6_isNumber 14 = .ok (.ireturn, 1) := by decide +kernel
set_option maxRecDepth 20000 in
theorem ggX6_areNone_X6_isRegister : GoodIn wsX6_areNone wsX6_isRegister := goodIn_r _ [5] (by decide +kernel) (by decide +kernel)
set_option maxRecDepth 20000 in
theorem gX6_areNone_X6_isRegister : GoodIn wsX6_areNone (va_wsS RX6 30 yX6_isRegister wsX6_isRegister) := goodIn_app (goodIn_of _ (by decide +kernel)) ggX6_areNone_X6_isRegister
set_option maxRecDepth 20000 in
theorem ggX6_areNone_X6_fails : GoodIn wsX6_areNone wsX6_fails := goodIn_r _ [9, 1, 10, 11, 12, 13, 14, 15, 16, 17] (by decide +kernel) (by decide +kernel)
set_option maxRecDepth 20000 in
theorem gX6_areNone_X6_fails : GoodIn wsX6_areNone (wsV RX6 34 RX6 yX6_fails wsX6_fails) := goodIn_app (goodIn_of _ (by decide +kernel)) ggX6_areNone_X6_fails
theorem dX6_areNone_0 : decode cX6_areNone 0 = .ok (.aload_n 0, 1) := by decide +kernel
theorem dX6_areNone_1 : decode cX6_areNone 1 = .ok (.iconst 0, 1) := by decide +kernel
theorem dX6_areNone_2 : decode cX6_areNone 2 = .ok (.putfield 26, 3) := by decide +kernel
theorem dX6_areNone_5 : decode cX6_areNone 5 = .ok (.aload_n 0, 1) := by decide +kernel
theorem dX6_areNone_6 : decode cX6_areNone 6 = .ok (.iload_n 1, 1) := by decide +kernel
theorem dX6_areNone_7 : decode cX6_areNone 7 = .ok (.invokestatic 30, 3) := by decide +kernel
theorem dX6_areNone_10 : decode cX6_areNone 10 = .ok (.ifCond .eq 17, 3) := by decide +kernel
theorem dX6_areNone_13 : decode cX6_areNone 13 = .ok (.iload_n 2, 1) := by decide +kernel
theorem dX6_areNone_14 : decode cX6_areNone 14 = .ok (.invokestatic 30, 3) := by decide +kernel
theorem dX6_areNone_17 : decode cX6_areNone 17 = .ok (.ifCond .eq 10, 3) := by decide +kernel
theorem dX6_areNone_20 : decode cX6_areNone 20 = .ok (.iload_n 3, 1) := by decide +kernel
theorem dX6_areNone_21 : decode cX6_areNone 21 = .ok (.invokestatic 30, 3) := by decide +kernel
theorem dX6_areNone_24 : decode cX6_areNone 24 = .ok (.ifCond .ne 7, 3) := by decide +kernel
theorem dX6_areNone_27 : decode cX6_areNone 27 = .ok (.iconst 1, 1) := by decide +kernel
theorem dX6_areNone_28 : decode cX6_areNone 28 = .ok (.goto 4, 3) := by decide +kernel
theorem dX6_areNone_31 : decode cX6_areNone 31 = .ok (.iconst 0, 1) := by decide +kernel
theorem dX6_areNone_32 : decode cX6_areNone 32 = .ok (.iconst 1, 1) := by decide +kernel
theorem dX6_areNone_33 : decode cX6_areNone 33 = .ok (.invokevirtual 34, 3) := by decide +kernel
theorem dX6_areNone_36 : decode cX6_areNone 36 = .ok (.ireturn, 1) := by decide +kernel
theorem dX6_sumOf_0 : decode cX6_sumOf 0 = .ok (.iconst 0, 1) := by decide +kernel
theorem dX6_sumOf_1 : decode cX6_sumOf 1 = .ok (.istore_n 2, 1) := by decide +kernel
theorem dX6_sumOf_2 : decode cX6_sumOf 2 = .ok (.iconst 1, 1) := by decide +kernel
theorem dX6_sumOf_3 : decode cX6_sumOf 3 = .ok (.istore_n 3, 1) := by decide +kernel
theorem dX6_sumOf_4 : decode cX6_sumOf 4 = .ok (.iload_n 3, 1) := by decide +kernel
theorem dX6_sumOf_5 : decode cX6_sumOf 5 = .ok (.sipush 256, 3) := by decide +kernel
theorem dX6_sumOf_8 : decode cX6_sumOf 8 = .ok (.if_icmp .ge 57, 3) := by decide +kernel
theorem dX6_sumOf_11 : decode cX6_sumOf 11 = .ok (.iload_n 0, 1) := by decide +kernel
theorem dX6_sumOf_12 : decode cX6_sumOf 12 = .ok (.iload_n 3, 1) := by decide +kernel
theorem dX6_sumOf_13 : decode cX6_sumOf 13 = .ok (.idiv, 1) := by decide +kernel
theorem dX6_sumOf_14 : decode cX6_sumOf 14 = .ok (.iconst 2, 1) := by decide +kernel
theorem dX6_sumOf_15 : decode cX6_sumOf 15 = .ok (.irem, 1) := by decide +kernel
theorem dX6_sumOf_16 : decode cX6_sumOf 16 = .ok (.iconst 1, 1) := by decide +kernel
theorem dX6_sumOf_17 : decode cX6_sumOf 17 = .ok (.if_icmp .ne 7, 3) := by decide +kernel
theorem dX6_sumOf_20 : decode cX6_sumOf 20 = .ok (.iconst 1, 1) := by decide +kernel
theorem dX6_sumOf_21 : decode cX6_sumOf 21 = .ok (.goto 4, 3) := by decide +kernel
theorem dX6_sumOf_24 : decode cX6_sumOf 24 = .ok (.iconst 0, 1) := by decide +kernel
theorem dX6_sumOf_25 : decode cX6_sumOf 25 = .ok (.istore 4, 2) := by decide +kernel
theorem dX6_sumOf_27 : decode cX6_sumOf 27 = .ok (.iload_n 1, 1) := by decide +kernel
theorem dX6_sumOf_28 : decode cX6_sumOf 28 = .ok (.iload_n 3, 1) := by decide +kernel
theorem dX6_sumOf_29 : decode cX6_sumOf 29 = .ok (.idiv, 1) := by decide +kernel
theorem dX6_sumOf_30 : decode cX6_sumOf 30 = .ok (.iconst 2, 1) := by decide +kernel
theorem dX6_sumOf_31 : decode cX6_sumOf 31 = .ok (.irem, 1) := by decide +kernel
theorem dX6_sumOf_32 : decode cX6_sumOf 32 = .ok (.iconst 1, 1) := by decide +kernel
theorem dX6_sumOf_33 : decode cX6_sumOf 33 = .ok (.if_icmp .ne 7, 3) := by decide +kernel
theorem dX6_sumOf_36 : decode cX6_sumOf 36 = .ok (.iconst 1, 1) := by decide +kernel
theorem dX6_sumOf_37 : decode cX6_sumOf 37 = .ok (.goto 4, 3) := by decide +kernel
theorem dX6_sumOf_40 : decode cX6_sumOf 40 = .ok (.iconst 0, 1) := by decide +kernel
theorem dX6_sumOf_41 : decode cX6_sumOf 41 = .ok (.istore 5, 2) := by decide +kernel
theorem dX6_sumOf_43 : decode cX6_sumOf 43 = .ok (.iload_n 2, 1) := by decide +kernel
theorem dX6_sumOf_44 : decode cX6_sumOf 44 = .ok (.iload 4, 2) := by decide +kernel
theorem dX6_sumOf_46 : decode cX6_sumOf 46 = .ok (.iload 5, 2) := by decide +kernel
theorem dX6_sumOf_48 : decode cX6_sumOf 48 = .ok (.if_icmp .eq 7, 3) := by decide +kernel
theorem dX6_sumOf_51 : decode cX6_sumOf 51 = .ok (.iload_n 3, 1) := by decide +kernel
theorem dX6_sumOf_52 : decode cX6_sumOf 52 = .ok (.goto 4, 3) := by decide +kernel
theorem dX6_sumOf_55 : decode cX6_sumOf 55 = .ok (.iconst 0, 1) := by decide +kernel
theorem dX6_sumOf_56 : decode cX6_sumOf 56 = .ok (.iadd, 1) := by decide +kernel
theorem dX6_sumOf_57 : decode cX6_sumOf 57 = .ok (.istore_n 2, 1) := by decide +kernel
theorem dX6_sumOf_58 : decode cX6_sumOf 58 = .ok (.iload_n 3, 1) := by decide +kernel
theorem dX6_sumOf_59 : decode cX6_sumOf 59 = .ok (.iconst 2, 1) := by decide +kernel
theorem dX6_sumOf_60 : decode cX6_sumOf 60 = .ok (.imul, 1) := by decide +kernel
theorem dX6_sumOf_61 : decode cX6_sumOf 61 = .ok (.istore_n 3, 1) := by decide +kernel
theorem dX6_sumOf_62 : decode cX6_sumOf 62 = .ok (.goto (-58), 3) := by decide +kernel
theorem dX6_sumOf_65 : decode cX6_sumOf 65 = .ok (.iload_n 2, 1) := by decide +kernel
theorem dX6_sumOf_66 : decode cX6_sumOf 66 = .ok (.ireturn, 1) := by decide +kernel
set_option maxRecDepth 20000 in
theorem ggX6_productOf_X6_productOf : GoodIn wsX6_productOf wsX6_productOf := goodIn_ca (goodIn_r _ [0, 1, 2, 3, 4, 5, 6] (by decide +kernel) (by decide +kernel)) (goodIn_sub (fun _ h => List.mem_cons_of_mem _ (List.mem_append_right _ h)) (by decide +kernel))
set_option maxRecDepth 20000 in
theorem gX6_productOf_X6_productOf : GoodIn wsX6_productOf (va_wsS RX6 38 yX6_productOf wsX6_productOf) := goodIn_app (goodIn_of _ (by decide +kernel)) ggX6_productOf_X6_productOf
set_option maxRecDepth 20000 in
theorem ggX6_productOf_X6_sumOf : GoodIn wsX6_productOf wsX6_sumOf := goodIn_ca (goodIn_r _ [6] (by decide +kernel) (by decide +kernel)) (goodIn_sub (fun _ h => List.mem_cons_of_mem _ (List.mem_append_right _ h)) (by decide +kernel))
set_option maxRecDepth 20000 in
theorem gX6_productOf_X6_sumOf : GoodIn wsX6_productOf (va_wsS RX6 42 yX6_sumOf wsX6_sumOf) := goodIn_app (goodIn_of _ (by decide +kernel)) ggX6_productOf_X6_sumOf
theorem dX6_productOf_0 : decode cX6_productOf 0 = .ok (.iload_n 0, 1) := by decide +kernel
theorem dX6_productOf_1 : decode cX6_productOf 1 = .ok (.iconst 2, 1) := by decide +kernel
theorem dX6_productOf_2 : decode cX6_productOf 2 = .ok (.if_icmp .lt 8, 3) := by decide +kernel
theorem dX6_productOf_5 : decode cX6_productOf 5 = .ok (.iload_n 1, 1) := by decide +kernel
theorem dX6_productOf_6 : decode cX6_productOf 6 = .ok (.iconst 2, 1) := by decide +kernel
theorem dX6_productOf_7 : decode cX6_productOf 7 = .ok (.if_icmp .ge 7, 3) := by decide +kernel
theorem dX6_productOf_10 : decode cX6_productOf 10 = .ok (.iload_n 0, 1) := by decide +kernel
theorem dX6_productOf_11 : decode cX6_productOf 11 = .ok (.iload_n 1, 1) := by decide +kernel
theorem dX6_productOf_12 : decode cX6_productOf 12 = .ok (.imul, 1) := by decide +kernel
theorem dX6_productOf_13 : decode cX6_productOf 13 = .ok (.ireturn, 1) := by decide +kernel
theorem dX6_productOf_14 : decode cX6_productOf 14 = .ok (.iload_n 0, 1) := by decide +kernel
theorem dX6_productOf_15 : decode cX6_productOf 15 = .ok (.iload_n 1, 1) := by decide +kernel
theorem dX6_productOf_16 : decode cX6_productOf 16 = .ok (.if_icmp .le 7, 3) := by decide +kernel
theorem dX6_productOf_19 : decode cX6_productOf 19 = .ok (.iload_n 0, 1) := by decide +kernel
theorem dX6_productOf_20 : decode cX6_productOf 20 = .ok (.goto 4, 3) := by decide +kernel
theorem dX6_productOf_23 : decode cX6_productOf 23 = .ok (.iload_n 1, 1) := by decide +kernel
theorem dX6_productOf_24 : decode cX6_productOf 24 = .ok (.istore_n 2, 1) := by decide +kernel
theorem dX6_productOf_25 : decode cX6_productOf 25 = .ok (.iload_n 2, 1) := by decide +kernel
theorem dX6_productOf_26 : decode cX6_productOf 26 = .ok (.bipush 16, 2) := by decide +kernel
theorem dX6_productOf_28 : decode cX6_productOf 28 = .ok (.if_icmp .lt 8, 3) := by decide +kernel
theorem dX6_productOf_31 : decode cX6_productOf 31 = .ok (.bipush 16, 2) := by decide +kernel
theorem dX6_productOf_33 : decode cX6_productOf 33 = .ok (.goto 13, 3) := by decide +kernel
theorem dX6_productOf_36 : decode cX6_productOf 36 = .ok (.iload_n 2, 1) := by decide +kernel
theorem dX6_productOf_37 : decode cX6_productOf 37 = .ok (.iconst 4, 1) := by decide +kernel
theorem dX6_productOf_38 : decode cX6_productOf 38 = .ok (.if_icmp .lt 7, 3) := by decide +kernel
theorem dX6_productOf_41 : decode cX6_productOf 41 = .ok (.iconst 4, 1) := by decide +kernel
theorem dX6_productOf_42 : decode cX6_productOf 42 = .ok (.goto 4, 3) := by decide +kernel
theorem dX6_productOf_45 : decode cX6_productOf 45 = .ok (.iconst 2, 1) := by decide +kernel
theorem dX6_productOf_46 : decode cX6_productOf 46 = .ok (.istore_n 3, 1) := by decide +kernel
theorem dX6_productOf_47 : decode cX6_productOf 47 = .ok (.iload_n 0, 1) := by decide +kernel
theorem dX6_productOf_48 : decode cX6_productOf 48 = .ok (.iload_n 3, 1) := by decide +kernel
theorem dX6_productOf_49 : decode cX6_productOf 49 = .ok (.idiv, 1) := by decide +kernel
theorem dX6_productOf_50 : decode cX6_productOf 50 = .ok (.istore 4, 2) := by decide +kernel
theorem dX6_productOf_52 : decode cX6_productOf 52 = .ok (.iload_n 0, 1) := by decide +kernel
theorem dX6_productOf_53 : decode cX6_productOf 53 = .ok (.iload_n 3, 1) := by decide +kernel
theorem dX6_productOf_54 : decode cX6_productOf 54 = .ok (.irem, 1) := by decide +kernel
theorem dX6_productOf_55 : decode cX6_productOf 55 = .ok (.istore 5, 2) := by decide +kernel
theorem dX6_productOf_57 : decode cX6_productOf 57 = .ok (.iload_n 1, 1) := by decide +kernel
theorem dX6_productOf_58 : decode cX6_productOf 58 = .ok (.iload_n 3, 1) := by decide +kernel
theorem dX6_productOf_59 : decode cX6_productOf 59 = .ok (.idiv, 1) := by decide +kernel
theorem dX6_productOf_60 : decode cX6_productOf 60 = .ok (.istore 6, 2) := by decide +kernel
theorem dX6_productOf_62 : decode cX6_productOf 62 = .ok (.iload_n 1, 1) := by decide +kernel
theorem dX6_productOf_63 : decode cX6_productOf 63 = .ok (.iload_n 3, 1) := by decide +kernel
theorem dX6_productOf_64 : decode cX6_productOf 64 = .ok (.irem, 1) := by decide +kernel
theorem dX6_productOf_65 : decode cX6_productOf 65 = .ok (.istore 7, 2) := by decide +kernel
theorem dX6_productOf_67 : decode cX6_productOf 67 = .ok (.iload 4, 2) := by decide +kernel
theorem dX6_productOf_69 : decode cX6_productOf 69 = .ok (.iload 6, 2) := by decide +kernel
theorem dX6_productOf_71 : decode cX6_productOf 71 = .ok (.invokestatic 38, 3) := by decide +kernel
theorem dX6_productOf_74 : decode cX6_productOf 74 = .ok (.istore 8, 2) := by decide +kernel
theorem dX6_productOf_76 : decode cX6_productOf 76 = .ok (.iload_n 3, 1) := by decide +kernel
theorem dX6_productOf_77 : decode cX6_productOf 77 = .ok (.iload 8, 2) := by decide +kernel
theorem dX6_productOf_79 : decode cX6_productOf 79 = .ok (.iload 4, 2) := by decide +kernel
theorem dX6_productOf_81 : decode cX6_productOf 81 = .ok (.iload 7, 2) := by decide +kernel
theorem dX6_productOf_83 : decode cX6_productOf 83 = .ok (.invokestatic 38, 3) := by decide +kernel
theorem dX6_productOf_86 : decode cX6_productOf 86 = .ok (.invokestatic 42, 3) := by decide +kernel
theorem dX6_productOf_89 : decode cX6_productOf 89 = .ok (.iload 5, 2) := by decide +kernel
theorem dX6_productOf_91 : decode cX6_productOf 91 = .ok (.iload 6, 2) := by decide +kernel
theorem dX6_productOf_93 : decode cX6_productOf 93 = .ok (.invokestatic 38, 3) := by decide +kernel
theorem dX6_productOf_96 : decode cX6_productOf 96 = .ok (.invokestatic 42, 3) := by decide +kernel
theorem dX6_productOf_99 : decode cX6_productOf 99 = .ok (.imul, 1) := by decide +kernel
theorem dX6_productOf_100 : decode cX6_productOf 100 = .ok (.istore 9, 2) := by decide +kernel
theorem dX6_productOf_102 : decode cX6_productOf 102 = .ok (.iload 9, 2) := by decide +kernel
theorem dX6_productOf_104 : decode cX6_productOf 104 = .ok (.iload 5, 2) := by decide +kernel
theorem dX6_productOf_106 : decode cX6_productOf 106 = .ok (.iload 7, 2) := by decide +kernel
theorem dX6_productOf_108 : decode cX6_productOf 108 = .ok (.invokestatic 38, 3) := by decide +kernel
theorem dX6_productOf_111 : decode cX6_productOf 111 = .ok (.iload 8, 2) := by decide +kernel
theorem dX6_productOf_113 : decode cX6_productOf 113 = .ok (.iload_n 3, 1) := by decide +kernel
theorem dX6_productOf_114 : decode cX6_productOf 114 = .ok (.iconst 2, 1) := by decide +kernel
theorem dX6_productOf_115 : decode cX6_productOf 115 = .ok (.idiv, 1) := by decide +kernel
theorem dX6_productOf_116 : decode cX6_productOf 116 = .ok (.invokestatic 38, 3) := by decide +kernel
theorem dX6_productOf_119 : decode cX6_productOf 119 = .ok (.invokestatic 42, 3) := by decide +kernel
theorem dX6_productOf_122 : decode cX6_productOf 122 = .ok (.invokestatic 42, 3) := by decide +kernel
theorem dX6_productOf_125 : decode cX6_productOf 125 = .ok (.ireturn, 1) := by decide +kernel
set_option maxRecDepth 20000 in
theorem ggX6_powerOf_X6_productOf : GoodIn wsX6_powerOf wsX6_productOf := goodIn_ca (goodIn_r _ [4, 1, 2, 3, 5, 6, 7] (by decide +kernel) (by decide +kernel)) (goodIn_sub (fun _ h => List.mem_cons_of_mem _ (List.mem_append_right _ h)) (by decide +kernel))
set_option maxRecDepth 20000 in
theorem gX6_powerOf_X6_productOf : GoodIn wsX6_powerOf (va_wsS RX6 38 yX6_productOf wsX6_productOf) := goodIn_app (goodIn_of _ (by decide +kernel)) ggX6_powerOf_X6_productOf
theorem dX6_powerOf_0 : decode cX6_powerOf 0 = .ok (.iconst 1, 1) := by decide +kernel
theorem dX6_powerOf_1 : decode cX6_powerOf 1 = .ok (.istore_n 2, 1) := by decide +kernel
theorem dX6_powerOf_2 : decode cX6_powerOf 2 = .ok (.iload_n 0, 1) := by decide +kernel
theorem dX6_powerOf_3 : decode cX6_powerOf 3 = .ok (.istore_n 3, 1) := by decide +kernel
theorem dX6_powerOf_4 : decode cX6_powerOf 4 = .ok (.iload_n 1, 1) := by decide +kernel
theorem dX6_powerOf_5 : decode cX6_powerOf 5 = .ok (.istore 4, 2) := by decide +kernel
theorem dX6_powerOf_7 : decode cX6_powerOf 7 = .ok (.iload 4, 2) := by decide +kernel
theorem dX6_powerOf_9 : decode cX6_powerOf 9 = .ok (.ifCond .le 36, 3) := by decide +kernel
theorem dX6_powerOf_12 : decode cX6_powerOf 12 = .ok (.iload 4, 2) := by decide +kernel
theorem dX6_powerOf_14 : decode cX6_powerOf 14 = .ok (.iconst 2, 1) := by decide +kernel
theorem dX6_powerOf_15 : decode cX6_powerOf 15 = .ok (.irem, 1) := by decide +kernel
theorem dX6_powerOf_16 : decode cX6_powerOf 16 = .ok (.iconst 1, 1) := by decide +kernel
theorem dX6_powerOf_17 : decode cX6_powerOf 17 = .ok (.if_icmp .ne 11, 3) := by decide +kernel
theorem dX6_powerOf_20 : decode cX6_powerOf 20 = .ok (.iload_n 2, 1) := by decide +kernel
theorem dX6_powerOf_21 : decode cX6_powerOf 21 = .ok (.iload_n 3, 1) := by decide +kernel
theorem dX6_powerOf_22 : decode cX6_powerOf 22 = .ok (.invokestatic 38, 3) := by decide +kernel
theorem dX6_powerOf_25 : decode cX6_powerOf 25 = .ok (.goto 4, 3) := by decide +kernel
theorem dX6_powerOf_28 : decode cX6_powerOf 28 = .ok (.iload_n 2, 1) := by decide +kernel
theorem dX6_powerOf_29 : decode cX6_powerOf 29 = .ok (.istore_n 2, 1) := by decide +kernel
theorem dX6_powerOf_30 : decode cX6_powerOf 30 = .ok (.iload_n 3, 1) := by decide +kernel
theorem dX6_powerOf_31 : decode cX6_powerOf 31 = .ok (.iload_n 3, 1) := by decide +kernel
theorem dX6_powerOf_32 : decode cX6_powerOf 32 = .ok (.invokestatic 38, 3) := by decide +kernel
theorem dX6_powerOf_35 : decode cX6_powerOf 35 = .ok (.istore_n 3, 1) := by decide +kernel
theorem dX6_powerOf_36 : decode cX6_powerOf 36 = .ok (.iload 4, 2) := by decide +kernel
theorem dX6_powerOf_38 : decode cX6_powerOf 38 = .ok (.iconst 2, 1) := by decide +kernel
theorem dX6_powerOf_39 : decode cX6_powerOf 39 = .ok (.idiv, 1) := by decide +kernel
theorem dX6_powerOf_40 : decode cX6_powerOf 40 = .ok (.istore 4, 2) := by decide +kernel
theorem dX6_powerOf_42 : decode cX6_powerOf 42 = .ok (.goto (-35), 3) := by decide +kernel
theorem dX6_powerOf_45 : decode cX6_powerOf 45 = .ok (.iload_n 2, 1) := by decide +kernel
theorem dX6_powerOf_46 : decode cX6_powerOf 46 = .ok (.ireturn, 1) := by decide +kernel
set_option maxRecDepth 20000 in
theorem ggX6_rootOf_X6_productOf : GoodIn wsX6_rootOf wsX6_productOf := goodIn_ca (goodIn_r _ [4, 1, 2, 3, 5, 6, 7] (by decide +kernel) (by decide +kernel)) (goodIn_sub (fun _ h => List.mem_cons_of_mem _ (List.mem_append_right _ h)) (by decide +kernel))
set_option maxRecDepth 20000 in
theorem gX6_rootOf_X6_productOf : GoodIn wsX6_rootOf (va_wsS RX6 38 yX6_productOf wsX6_productOf) := goodIn_app (goodIn_of _ (by decide +kernel)) ggX6_rootOf_X6_productOf
theorem dX6_rootOf_0 : decode cX6_rootOf 0 = .ok (.iconst 0, 1) := by decide +kernel
theorem dX6_rootOf_1 : decode cX6_rootOf 1 = .ok (.istore_n 1, 1) := by decide +kernel
theorem dX6_rootOf_2 : decode cX6_rootOf 2 = .ok (.iload_n 1, 1) := by decide +kernel
theorem dX6_rootOf_3 : decode cX6_rootOf 3 = .ok (.iload_n 1, 1) := by decide +kernel
theorem dX6_rootOf_4 : decode cX6_rootOf 4 = .ok (.invokestatic 38, 3) := by decide +kernel
theorem dX6_rootOf_7 : decode cX6_rootOf 7 = .ok (.iload_n 0, 1) := by decide +kernel
theorem dX6_rootOf_8 : decode cX6_rootOf 8 = .ok (.if_icmp .eq 9, 3) := by decide +kernel
theorem dX6_rootOf_11 : decode cX6_rootOf 11 = .ok (.iinc 1 1, 3) := by decide +kernel
theorem dX6_rootOf_14 : decode cX6_rootOf 14 = .ok (.goto (-12), 3) := by decide +kernel
theorem dX6_rootOf_17 : decode cX6_rootOf 17 = .ok (.iload_n 1, 1) := by decide +kernel
theorem dX6_rootOf_18 : decode cX6_rootOf 18 = .ok (.ireturn, 1) := by decide +kernel
set_option maxRecDepth 20000 in
theorem ggX6_quotientOf_X6_productOf : GoodIn wsX6_quotientOf wsX6_productOf := goodIn_ca (goodIn_r _ [4, 1, 2, 3, 5, 6, 7] (by decide +kernel) (by decide +kernel)) (goodIn_sub (fun _ h => List.mem_cons_of_mem _ (List.mem_append_right _ h)) (by decide +kernel))
set_option maxRecDepth 20000 in
theorem gX6_quotientOf_X6_productOf : GoodIn wsX6_quotientOf (va_wsS RX6 38 yX6_productOf wsX6_productOf) := goodIn_app (goodIn_of _ (by decide +kernel)) ggX6_quotientOf_X6_productOf
theorem dX6_quotientOf_0 : decode cX6_quotientOf 0 = .ok (.iconst 0, 1) := by decide +kernel
theorem dX6_quotientOf_1 : decode cX6_quotientOf 1 = .ok (.istore_n 2, 1) := by decide +kernel
theorem dX6_quotientOf_2 : decode cX6_quotientOf 2 = .ok (.iload_n 2, 1) := by decide +kernel
theorem dX6_quotientOf_3 : decode cX6_quotientOf 3 = .ok (.iload_n 1, 1) := by decide +kernel
theorem dX6_quotientOf_4 : decode cX6_quotientOf 4 = .ok (.invokestatic 38, 3) := by decide +kernel
theorem dX6_quotientOf_7 : decode cX6_quotientOf 7 = .ok (.iload_n 0, 1) := by decide +kernel
theorem dX6_quotientOf_8 : decode cX6_quotientOf 8 = .ok (.if_icmp .eq 9, 3) := by decide +kernel
theorem dX6_quotientOf_11 : decode cX6_quotientOf 11 = .ok (.iinc 2 1, 3) := by decide +kernel
theorem dX6_quotientOf_14 : decode cX6_quotientOf 14 = .ok (.goto (-12), 3) := by decide +kernel
theorem dX6_quotientOf_17 : decode cX6_quotientOf 17 = .ok (.iload_n 2, 1) := by decide +kernel
theorem dX6_quotientOf_18 : decode cX6_quotientOf 18 = .ok (.ireturn, 1) := by decide +kernel
set_option maxRecDepth 20000 in
theorem ggX6_traceOf_X6_sumOf : GoodIn wsX6_traceOf wsX6_sumOf := goodIn_ca (goodIn_r _ [4] (by decide +kernel) (by decide +kernel)) (goodIn_sub (fun _ h => List.mem_cons_of_mem _ (List.mem_append_right _ h)) (by decide +kernel))
set_option maxRecDepth 20000 in
theorem gX6_traceOf_X6_sumOf : GoodIn wsX6_traceOf (va_wsS RX6 42 yX6_sumOf wsX6_sumOf) := goodIn_app (goodIn_of _ (by decide +kernel)) ggX6_traceOf_X6_sumOf
set_option maxRecDepth 20000 in
theorem ggX6_traceOf_X6_productOf : GoodIn wsX6_traceOf wsX6_productOf := goodIn_ca (goodIn_r _ [7, 5, 6, 3, 1, 2, 4] (by decide +kernel) (by decide +kernel)) (goodIn_sub (fun _ h => List.mem_cons_of_mem _ (List.mem_append_right _ h)) (by decide +kernel))
set_option maxRecDepth 20000 in
theorem gX6_traceOf_X6_productOf : GoodIn wsX6_traceOf (va_wsS RX6 38 yX6_productOf wsX6_productOf) := goodIn_app (goodIn_of _ (by decide +kernel)) ggX6_traceOf_X6_productOf
theorem dX6_traceOf_0 : decode cX6_traceOf 0 = .ok (.iconst 0, 1) := by decide +kernel
theorem dX6_traceOf_1 : decode cX6_traceOf 1 = .ok (.istore_n 1, 1) := by decide +kernel
theorem dX6_traceOf_2 : decode cX6_traceOf 2 = .ok (.iload_n 0, 1) := by decide +kernel
theorem dX6_traceOf_3 : decode cX6_traceOf 3 = .ok (.istore_n 2, 1) := by decide +kernel
theorem dX6_traceOf_4 : decode cX6_traceOf 4 = .ok (.iconst 0, 1) := by decide +kernel
theorem dX6_traceOf_5 : decode cX6_traceOf 5 = .ok (.istore_n 3, 1) := by decide +kernel
theorem dX6_traceOf_6 : decode cX6_traceOf 6 = .ok (.iload_n 3, 1) := by decide +kernel
theorem dX6_traceOf_7 : decode cX6_traceOf 7 = .ok (.bipush 8, 2) := by decide +kernel
theorem dX6_traceOf_9 : decode cX6_traceOf 9 = .ok (.if_icmp .ge 21, 3) := by decide +kernel
theorem dX6_traceOf_12 : decode cX6_traceOf 12 = .ok (.iload_n 1, 1) := by decide +kernel
theorem dX6_traceOf_13 : decode cX6_traceOf 13 = .ok (.iload_n 2, 1) := by decide +kernel
theorem dX6_traceOf_14 : decode cX6_traceOf 14 = .ok (.invokestatic 42, 3) := by decide +kernel
theorem dX6_traceOf_17 : decode cX6_traceOf 17 = .ok (.istore_n 1, 1) := by decide +kernel
theorem dX6_traceOf_18 : decode cX6_traceOf 18 = .ok (.iload_n 2, 1) := by decide +kernel
theorem dX6_traceOf_19 : decode cX6_traceOf 19 = .ok (.iload_n 2, 1) := by decide +kernel
theorem dX6_traceOf_20 : decode cX6_traceOf 20 = .ok (.invokestatic 38, 3) := by decide +kernel
theorem dX6_traceOf_23 : decode cX6_traceOf 23 = .ok (.istore_n 2, 1) := by decide +kernel
theorem dX6_traceOf_24 : decode cX6_traceOf 24 = .ok (.iinc 3 1, 3) := by decide +kernel
theorem dX6_traceOf_27 : decode cX6_traceOf 27 = .ok (.goto (-21), 3) := by decide +kernel
theorem dX6_traceOf_30 : decode cX6_traceOf 30 = .ok (.iload_n 1, 1) := by decide +kernel
theorem dX6_traceOf_31 : decode cX6_traceOf 31 = .ok (.ireturn, 1) := by decide +kernel
theorem dX6_leastOutOf_0 : decode cX6_leastOutOf 0 = .ok (.iconst 0, 1) := by decide +kernel
theorem dX6_leastOutOf_1 : decode cX6_leastOutOf 1 = .ok (.istore_n 1, 1) := by decide +kernel
theorem dX6_leastOutOf_2 : decode cX6_leastOutOf 2 = .ok (.iload_n 1, 1) := by decide +kernel
theorem dX6_leastOutOf_3 : decode cX6_leastOutOf 3 = .ok (.aload_n 0, 1) := by decide +kernel
theorem dX6_leastOutOf_4 : decode cX6_leastOutOf 4 = .ok (.arraylength, 1) := by decide +kernel
theorem dX6_leastOutOf_5 : decode cX6_leastOutOf 5 = .ok (.if_icmp .ge 15, 3) := by decide +kernel
theorem dX6_leastOutOf_8 : decode cX6_leastOutOf 8 = .ok (.aload_n 0, 1) := by decide +kernel
theorem dX6_leastOutOf_9 : decode cX6_leastOutOf 9 = .ok (.iload_n 1, 1) := by decide +kernel
theorem dX6_leastOutOf_10 : decode cX6_leastOutOf 10 = .ok (.baload, 1) := by decide +kernel
theorem dX6_leastOutOf_11 : decode cX6_leastOutOf 11 = .ok (.ifCond .eq 9, 3) := by decide +kernel
theorem dX6_leastOutOf_14 : decode cX6_leastOutOf 14 = .ok (.iinc 1 1, 3) := by decide +kernel
theorem dX6_leastOutOf_17 : decode cX6_leastOutOf 17 = .ok (.goto (-15), 3) := by decide +kernel
theorem dX6_leastOutOf_20 : decode cX6_leastOutOf 20 = .ok (.iload_n 1, 1) := by decide +kernel
theorem dX6_leastOutOf_21 : decode cX6_leastOutOf 21 = .ok (.ireturn, 1) := by decide +kernel
set_option maxRecDepth 20000 in
theorem ggX6_triedSumOf_X6_sumOf : GoodIn wsX6_triedSumOf wsX6_sumOf := goodIn_ca (goodIn_r _ [5] (by decide +kernel) (by decide +kernel)) (goodIn_sub (fun _ h => List.mem_cons_of_mem _ (List.mem_append_right _ h)) (by decide +kernel))
set_option maxRecDepth 20000 in
theorem gX6_triedSumOf_X6_sumOf : GoodIn wsX6_triedSumOf (va_wsS RX6 42 yX6_sumOf wsX6_sumOf) := goodIn_app (goodIn_of _ (by decide +kernel)) ggX6_triedSumOf_X6_sumOf
set_option maxRecDepth 20000 in
theorem ggX6_triedSumOf_X6_leastOutOf : GoodIn wsX6_triedSumOf wsX6_leastOutOf := goodIn_ca (goodIn_r _ [8] (by decide +kernel) (by decide +kernel)) (goodIn_sub (fun _ h => List.mem_cons_of_mem _ (List.mem_append_left _ (List.mem_append_right _ h))) (by decide +kernel))
set_option maxRecDepth 20000 in
theorem gX6_triedSumOf_X6_leastOutOf : GoodIn wsX6_triedSumOf (va_wsS RX6 45 yX6_leastOutOf wsX6_leastOutOf) := goodIn_app (goodIn_of _ (by decide +kernel)) ggX6_triedSumOf_X6_leastOutOf
theorem dX6_triedSumOf_0 : decode cX6_triedSumOf 0 = .ok (.sipush 256, 3) := by decide +kernel
theorem dX6_triedSumOf_3 : decode cX6_triedSumOf 3 = .ok (.newarray .boolean, 2) := by decide +kernel
theorem dX6_triedSumOf_5 : decode cX6_triedSumOf 5 = .ok (.astore_n 2, 1) := by decide +kernel
theorem dX6_triedSumOf_6 : decode cX6_triedSumOf 6 = .ok (.iconst 0, 1) := by decide +kernel
theorem dX6_triedSumOf_7 : decode cX6_triedSumOf 7 = .ok (.istore_n 3, 1) := by decide +kernel
theorem dX6_triedSumOf_8 : decode cX6_triedSumOf 8 = .ok (.iload_n 3, 1) := by decide +kernel
theorem dX6_triedSumOf_9 : decode cX6_triedSumOf 9 = .ok (.iload_n 0, 1) := by decide +kernel
theorem dX6_triedSumOf_10 : decode cX6_triedSumOf 10 = .ok (.if_icmp .ge 17, 3) := by decide +kernel
theorem dX6_triedSumOf_13 : decode cX6_triedSumOf 13 = .ok (.aload_n 2, 1) := by decide +kernel
theorem dX6_triedSumOf_14 : decode cX6_triedSumOf 14 = .ok (.iload_n 3, 1) := by decide +kernel
theorem dX6_triedSumOf_15 : decode cX6_triedSumOf 15 = .ok (.iload_n 1, 1) := by decide +kernel
theorem dX6_triedSumOf_16 : decode cX6_triedSumOf 16 = .ok (.invokestatic 42, 3) := by decide +kernel
theorem dX6_triedSumOf_19 : decode cX6_triedSumOf 19 = .ok (.iconst 1, 1) := by decide +kernel
theorem dX6_triedSumOf_20 : decode cX6_triedSumOf 20 = .ok (.bastore, 1) := by decide +kernel
theorem dX6_triedSumOf_21 : decode cX6_triedSumOf 21 = .ok (.iinc 3 1, 3) := by decide +kernel
theorem dX6_triedSumOf_24 : decode cX6_triedSumOf 24 = .ok (.goto (-16), 3) := by decide +kernel
theorem dX6_triedSumOf_27 : decode cX6_triedSumOf 27 = .ok (.iconst 0, 1) := by decide +kernel
theorem dX6_triedSumOf_28 : decode cX6_triedSumOf 28 = .ok (.istore_n 3, 1) := by decide +kernel
theorem dX6_triedSumOf_29 : decode cX6_triedSumOf 29 = .ok (.iload_n 3, 1) := by decide +kernel
theorem dX6_triedSumOf_30 : decode cX6_triedSumOf 30 = .ok (.iload_n 1, 1) := by decide +kernel
theorem dX6_triedSumOf_31 : decode cX6_triedSumOf 31 = .ok (.if_icmp .ge 17, 3) := by decide +kernel
theorem dX6_triedSumOf_34 : decode cX6_triedSumOf 34 = .ok (.aload_n 2, 1) := by decide +kernel
theorem dX6_triedSumOf_35 : decode cX6_triedSumOf 35 = .ok (.iload_n 0, 1) := by decide +kernel
theorem dX6_triedSumOf_36 : decode cX6_triedSumOf 36 = .ok (.iload_n 3, 1) := by decide +kernel
theorem dX6_triedSumOf_37 : decode cX6_triedSumOf 37 = .ok (.invokestatic 42, 3) := by decide +kernel
theorem dX6_triedSumOf_40 : decode cX6_triedSumOf 40 = .ok (.iconst 1, 1) := by decide +kernel
theorem dX6_triedSumOf_41 : decode cX6_triedSumOf 41 = .ok (.bastore, 1) := by decide +kernel
theorem dX6_triedSumOf_42 : decode cX6_triedSumOf 42 = .ok (.iinc 3 1, 3) := by decide +kernel
theorem dX6_triedSumOf_45 : decode cX6_triedSumOf 45 = .ok (.goto (-16), 3) := by decide +kernel
theorem dX6_triedSumOf_48 : decode cX6_triedSumOf 48 = .ok (.aload_n 2, 1) := by decide +kernel
theorem dX6_triedSumOf_49 : decode cX6_triedSumOf 49 = .ok (.invokestatic 45, 3) := by decide +kernel
theorem dX6_triedSumOf_52 : decode cX6_triedSumOf 52 = .ok (.ireturn, 1) := by decide +kernel
set_option maxRecDepth 20000 in
theorem ggX6_triedProductOf_X6_productOf : GoodIn wsX6_triedProductOf wsX6_productOf := goodIn_ca (goodIn_r _ [5, 2, 3, 4, 6, 7, 8] (by decide +kernel) (by decide +kernel)) (goodIn_sub (fun _ h => List.mem_cons_of_mem _ (List.mem_append_right _ h)) (by decide +kernel))
set_option maxRecDepth 20000 in
theorem gX6_triedProductOf_X6_productOf : GoodIn wsX6_triedProductOf (va_wsS RX6 38 yX6_productOf wsX6_productOf) := goodIn_app (goodIn_of _ (by decide +kernel)) ggX6_triedProductOf_X6_productOf
set_option maxRecDepth 20000 in
theorem ggX6_triedProductOf_X6_sumOf : GoodIn wsX6_triedProductOf wsX6_sumOf := goodIn_ca (goodIn_r _ [8] (by decide +kernel) (by decide +kernel)) (goodIn_sub (fun _ h => List.mem_cons_of_mem _ (List.mem_append_right _ h)) (by decide +kernel))
set_option maxRecDepth 20000 in
theorem gX6_triedProductOf_X6_sumOf : GoodIn wsX6_triedProductOf (va_wsS RX6 42 yX6_sumOf wsX6_sumOf) := goodIn_app (goodIn_of _ (by decide +kernel)) ggX6_triedProductOf_X6_sumOf
set_option maxRecDepth 20000 in
theorem ggX6_triedProductOf_X6_leastOutOf : GoodIn wsX6_triedProductOf wsX6_leastOutOf := goodIn_ca (goodIn_r _ [11] (by decide +kernel) (by decide +kernel)) (goodIn_sub (fun _ h => List.mem_cons_of_mem _ (List.mem_append_left _ (List.mem_append_right _ h))) (by decide +kernel))
set_option maxRecDepth 20000 in
theorem gX6_triedProductOf_X6_leastOutOf : GoodIn wsX6_triedProductOf (va_wsS RX6 45 yX6_leastOutOf wsX6_leastOutOf) := goodIn_app (goodIn_of _ (by decide +kernel)) ggX6_triedProductOf_X6_leastOutOf
theorem dX6_triedProductOf_0 : decode cX6_triedProductOf 0 = .ok (.bipush 17, 2) := by decide +kernel
theorem dX6_triedProductOf_2 : decode cX6_triedProductOf 2 = .ok (.newarray .boolean, 2) := by decide +kernel
theorem dX6_triedProductOf_4 : decode cX6_triedProductOf 4 = .ok (.astore_n 2, 1) := by decide +kernel
theorem dX6_triedProductOf_5 : decode cX6_triedProductOf 5 = .ok (.iconst 0, 1) := by decide +kernel
theorem dX6_triedProductOf_6 : decode cX6_triedProductOf 6 = .ok (.istore_n 3, 1) := by decide +kernel
theorem dX6_triedProductOf_7 : decode cX6_triedProductOf 7 = .ok (.iload_n 3, 1) := by decide +kernel
theorem dX6_triedProductOf_8 : decode cX6_triedProductOf 8 = .ok (.iload_n 0, 1) := by decide +kernel
theorem dX6_triedProductOf_9 : decode cX6_triedProductOf 9 = .ok (.if_icmp .ge 50, 3) := by decide +kernel
theorem dX6_triedProductOf_12 : decode cX6_triedProductOf 12 = .ok (.iconst 0, 1) := by decide +kernel
theorem dX6_triedProductOf_13 : decode cX6_triedProductOf 13 = .ok (.istore 4, 2) := by decide +kernel
theorem dX6_triedProductOf_15 : decode cX6_triedProductOf 15 = .ok (.iload 4, 2) := by decide +kernel
theorem dX6_triedProductOf_17 : decode cX6_triedProductOf 17 = .ok (.iload_n 1, 1) := by decide +kernel
theorem dX6_triedProductOf_18 : decode cX6_triedProductOf 18 = .ok (.if_icmp .ge 35, 3) := by decide +kernel
theorem dX6_triedProductOf_21 : decode cX6_triedProductOf 21 = .ok (.aload_n 2, 1) := by decide +kernel
theorem dX6_triedProductOf_22 : decode cX6_triedProductOf 22 = .ok (.iload_n 3, 1) := by decide +kernel
theorem dX6_triedProductOf_23 : decode cX6_triedProductOf 23 = .ok (.iload_n 1, 1) := by decide +kernel
theorem dX6_triedProductOf_24 : decode cX6_triedProductOf 24 = .ok (.invokestatic 38, 3) := by decide +kernel
theorem dX6_triedProductOf_27 : decode cX6_triedProductOf 27 = .ok (.iload_n 0, 1) := by decide +kernel
theorem dX6_triedProductOf_28 : decode cX6_triedProductOf 28 = .ok (.iload 4, 2) := by decide +kernel
theorem dX6_triedProductOf_30 : decode cX6_triedProductOf 30 = .ok (.invokestatic 38, 3) := by decide +kernel
theorem dX6_triedProductOf_33 : decode cX6_triedProductOf 33 = .ok (.invokestatic 42, 3) := by decide +kernel
theorem dX6_triedProductOf_36 : decode cX6_triedProductOf 36 = .ok (.iload_n 3, 1) := by decide +kernel
theorem dX6_triedProductOf_37 : decode cX6_triedProductOf 37 = .ok (.iload 4, 2) := by decide +kernel
theorem dX6_triedProductOf_39 : decode cX6_triedProductOf 39 = .ok (.invokestatic 38, 3) := by decide +kernel
theorem dX6_triedProductOf_42 : decode cX6_triedProductOf 42 = .ok (.invokestatic 42, 3) := by decide +kernel
theorem dX6_triedProductOf_45 : decode cX6_triedProductOf 45 = .ok (.iconst 1, 1) := by decide +kernel
theorem dX6_triedProductOf_46 : decode cX6_triedProductOf 46 = .ok (.bastore, 1) := by decide +kernel
theorem dX6_triedProductOf_47 : decode cX6_triedProductOf 47 = .ok (.iinc 4 1, 3) := by decide +kernel
theorem dX6_triedProductOf_50 : decode cX6_triedProductOf 50 = .ok (.goto (-35), 3) := by decide +kernel
theorem dX6_triedProductOf_53 : decode cX6_triedProductOf 53 = .ok (.iinc 3 1, 3) := by decide +kernel
theorem dX6_triedProductOf_56 : decode cX6_triedProductOf 56 = .ok (.goto (-49), 3) := by decide +kernel
theorem dX6_triedProductOf_59 : decode cX6_triedProductOf 59 = .ok (.aload_n 2, 1) := by decide +kernel
theorem dX6_triedProductOf_60 : decode cX6_triedProductOf 60 = .ok (.invokestatic 45, 3) := by decide +kernel
theorem dX6_triedProductOf_63 : decode cX6_triedProductOf 63 = .ok (.ireturn, 1) := by decide +kernel
theorem dX6_becomes_0 : decode cX6_becomes 0 = .ok (.aload_n 0, 1) := by decide +kernel
theorem dX6_becomes_1 : decode cX6_becomes 1 = .ok (.getfield 49, 3) := by decide +kernel
theorem dX6_becomes_4 : decode cX6_becomes 4 = .ok (.bipush 8, 2) := by decide +kernel
theorem dX6_becomes_6 : decode cX6_becomes 6 = .ok (.if_icmp .ne 55, 3) := by decide +kernel
theorem dX6_becomes_9 : decode cX6_becomes 9 = .ok (.iconst 1, 1) := by decide +kernel
theorem dX6_becomes_10 : decode cX6_becomes 10 = .ok (.istore_n 3, 1) := by decide +kernel
theorem dX6_becomes_11 : decode cX6_becomes 11 = .ok (.iload_n 3, 1) := by decide +kernel
theorem dX6_becomes_12 : decode cX6_becomes 12 = .ok (.bipush 8, 2) := by decide +kernel
theorem dX6_becomes_14 : decode cX6_becomes 14 = .ok (.if_icmp .ge 37, 3) := by decide +kernel
theorem dX6_becomes_17 : decode cX6_becomes 17 = .ok (.aload_n 0, 1) := by decide +kernel
theorem dX6_becomes_18 : decode cX6_becomes 18 = .ok (.getfield 13, 3) := by decide +kernel
theorem dX6_becomes_21 : decode cX6_becomes 21 = .ok (.iload_n 3, 1) := by decide +kernel
theorem dX6_becomes_22 : decode cX6_becomes 22 = .ok (.iconst 1, 1) := by decide +kernel
theorem dX6_becomes_23 : decode cX6_becomes 23 = .ok (.isub, 1) := by decide +kernel
theorem dX6_becomes_24 : decode cX6_becomes 24 = .ok (.aload_n 0, 1) := by decide +kernel
theorem dX6_becomes_25 : decode cX6_becomes 25 = .ok (.getfield 13, 3) := by decide +kernel
theorem dX6_becomes_28 : decode cX6_becomes 28 = .ok (.iload_n 3, 1) := by decide +kernel
theorem dX6_becomes_29 : decode cX6_becomes 29 = .ok (.iaload, 1) := by decide +kernel
theorem dX6_becomes_30 : decode cX6_becomes 30 = .ok (.iastore, 1) := by decide +kernel
theorem dX6_becomes_31 : decode cX6_becomes 31 = .ok (.aload_n 0, 1) := by decide +kernel
theorem dX6_becomes_32 : decode cX6_becomes 32 = .ok (.getfield 16, 3) := by decide +kernel
theorem dX6_becomes_35 : decode cX6_becomes 35 = .ok (.iload_n 3, 1) := by decide +kernel
theorem dX6_becomes_36 : decode cX6_becomes 36 = .ok (.iconst 1, 1) := by decide +kernel
theorem dX6_becomes_37 : decode cX6_becomes 37 = .ok (.isub, 1) := by decide +kernel
theorem dX6_becomes_38 : decode cX6_becomes 38 = .ok (.aload_n 0, 1) := by decide +kernel
theorem dX6_becomes_39 : decode cX6_becomes 39 = .ok (.getfield 16, 3) := by decide +kernel
theorem dX6_becomes_42 : decode cX6_becomes 42 = .ok (.iload_n 3, 1) := by decide +kernel
theorem dX6_becomes_43 : decode cX6_becomes 43 = .ok (.iaload, 1) := by decide +kernel
theorem dX6_becomes_44 : decode cX6_becomes 44 = .ok (.iastore, 1) := by decide +kernel
theorem dX6_becomes_45 : decode cX6_becomes 45 = .ok (.iinc 3 1, 3) := by decide +kernel
theorem dX6_becomes_48 : decode cX6_becomes 48 = .ok (.goto (-37), 3) := by decide +kernel
theorem dX6_becomes_51 : decode cX6_becomes 51 = .ok (.aload_n 0, 1) := by decide +kernel
theorem dX6_becomes_52 : decode cX6_becomes 52 = .ok (.dup, 1) := by decide +kernel
theorem dX6_becomes_53 : decode cX6_becomes 53 = .ok (.getfield 49, 3) := by decide +kernel
theorem dX6_becomes_56 : decode cX6_becomes 56 = .ok (.iconst 1, 1) := by decide +kernel
theorem dX6_becomes_57 : decode cX6_becomes 57 = .ok (.isub, 1) := by decide +kernel
theorem dX6_becomes_58 : decode cX6_becomes 58 = .ok (.putfield 49, 3) := by decide +kernel
theorem dX6_becomes_61 : decode cX6_becomes 61 = .ok (.aload_n 0, 1) := by decide +kernel
theorem dX6_becomes_62 : decode cX6_becomes 62 = .ok (.getfield 13, 3) := by decide +kernel
theorem dX6_becomes_65 : decode cX6_becomes 65 = .ok (.aload_n 0, 1) := by decide +kernel
theorem dX6_becomes_66 : decode cX6_becomes 66 = .ok (.getfield 49, 3) := by decide +kernel
theorem dX6_becomes_69 : decode cX6_becomes 69 = .ok (.iload_n 1, 1) := by decide +kernel
theorem dX6_becomes_70 : decode cX6_becomes 70 = .ok (.iastore, 1) := by decide +kernel
theorem dX6_becomes_71 : decode cX6_becomes 71 = .ok (.aload_n 0, 1) := by decide +kernel
theorem dX6_becomes_72 : decode cX6_becomes 72 = .ok (.getfield 16, 3) := by decide +kernel
theorem dX6_becomes_75 : decode cX6_becomes 75 = .ok (.aload_n 0, 1) := by decide +kernel
theorem dX6_becomes_76 : decode cX6_becomes 76 = .ok (.getfield 49, 3) := by decide +kernel
theorem dX6_becomes_79 : decode cX6_becomes 79 = .ok (.aload_n 0, 1) := by decide +kernel
theorem dX6_becomes_80 : decode cX6_becomes 80 = .ok (.getfield 9, 3) := by decide +kernel
theorem dX6_becomes_83 : decode cX6_becomes 83 = .ok (.iload_n 1, 1) := by decide +kernel
theorem dX6_becomes_84 : decode cX6_becomes 84 = .ok (.iaload, 1) := by decide +kernel
theorem dX6_becomes_85 : decode cX6_becomes 85 = .ok (.iastore, 1) := by decide +kernel
theorem dX6_becomes_86 : decode cX6_becomes 86 = .ok (.aload_n 0, 1) := by decide +kernel
theorem dX6_becomes_87 : decode cX6_becomes 87 = .ok (.dup, 1) := by decide +kernel
theorem dX6_becomes_88 : decode cX6_becomes 88 = .ok (.getfield 49, 3) := by decide +kernel
theorem dX6_becomes_91 : decode cX6_becomes 91 = .ok (.iconst 1, 1) := by decide +kernel
theorem dX6_becomes_92 : decode cX6_becomes 92 = .ok (.iadd, 1) := by decide +kernel
theorem dX6_becomes_93 : decode cX6_becomes 93 = .ok (.putfield 49, 3) := by decide +kernel
theorem dX6_becomes_96 : decode cX6_becomes 96 = .ok (.aload_n 0, 1) := by decide +kernel
theorem dX6_becomes_97 : decode cX6_becomes 97 = .ok (.getfield 9, 3) := by decide +kernel
theorem dX6_becomes_100 : decode cX6_becomes 100 = .ok (.iload_n 1, 1) := by decide +kernel
theorem dX6_becomes_101 : decode cX6_becomes 101 = .ok (.iload_n 2, 1) := by decide +kernel
theorem dX6_becomes_102 : decode cX6_becomes 102 = .ok (.iastore, 1) := by decide +kernel
theorem dX6_becomes_103 : decode cX6_becomes 103 = .ok (.iload_n 2, 1) := by decide +kernel
theorem dX6_becomes_104 : decode cX6_becomes 104 = .ok (.ireturn, 1) := by decide +kernel
set_option maxRecDepth 20000 in
theorem ggX6_set_X6_areNone : GoodIn wsX6_set wsX6_areNone := goodIn_r _ [6, 7, 8, 9, 5, 10, 11, 12, 13, 14, 25, 26, 27, 28, 29, 30, 31, 32] (by decide +kernel) (by decide +kernel)
set_option maxRecDepth 20000 in
theorem gX6_set_X6_areNone : GoodIn wsX6_set (wsV RX6 52 RX6 yX6_areNone wsX6_areNone) := goodIn_app (goodIn_of _ (by decide +kernel)) ggX6_set_X6_areNone
set_option maxRecDepth 20000 in
theorem ggX6_set_X6_isNumber : GoodIn wsX6_set wsX6_isNumber := goodIn_r _ [17] (by decide +kernel) (by decide +kernel)
set_option maxRecDepth 20000 in
theorem gX6_set_X6_isNumber : GoodIn wsX6_set (va_wsS RX6 56 yX6_isNumber wsX6_isNumber) := goodIn_app (goodIn_of _ (by decide +kernel)) ggX6_set_X6_isNumber
set_option maxRecDepth 20000 in
theorem ggX6_set_X6_fails : GoodIn wsX6_set wsX6_fails := goodIn_r _ [14, 7, 25, 26, 27, 28, 29, 30, 31, 32] (by decide +kernel) (by decide +kernel)
set_option maxRecDepth 20000 in
theorem gX6_set_X6_fails : GoodIn wsX6_set (wsV RX6 34 RX6 yX6_fails wsX6_fails) := goodIn_app (goodIn_of _ (by decide +kernel)) ggX6_set_X6_fails
set_option maxRecDepth 20000 in
theorem ggX6_set_X6_becomes : GoodIn wsX6_set wsX6_becomes := goodIn_ca (goodIn_r _ [21, 22, 23, 24, 1, 25, 26, 27, 28, 29, 30, 31, 32] (by decide +kernel) (by decide +kernel)) (goodIn_sub (fun _ h => List.mem_cons_of_mem _ (List.mem_append_right _ h)) (by decide +kernel))
set_option maxRecDepth 20000 in
theorem gX6_set_X6_becomes : GoodIn wsX6_set (wsV RX6 60 RX6 yX6_becomes wsX6_becomes) := goodIn_app (goodIn_of _ (by decide +kernel)) ggX6_set_X6_becomes
theorem dX6_set_0 : decode cX6_set 0 = .ok (.aload_n 0, 1) := by decide +kernel
theorem dX6_set_1 : decode cX6_set 1 = .ok (.iload_n 1, 1) := by decide +kernel
theorem dX6_set_2 : decode cX6_set 2 = .ok (.iconst 0, 1) := by decide +kernel
theorem dX6_set_3 : decode cX6_set 3 = .ok (.iconst 0, 1) := by decide +kernel
theorem dX6_set_4 : decode cX6_set 4 = .ok (.invokevirtual 52, 3) := by decide +kernel
theorem dX6_set_7 : decode cX6_set 7 = .ok (.ifCond .ne 26, 3) := by decide +kernel
theorem dX6_set_10 : decode cX6_set 10 = .ok (.aload_n 0, 1) := by decide +kernel
theorem dX6_set_11 : decode cX6_set 11 = .ok (.iload_n 2, 1) := by decide +kernel
theorem dX6_set_12 : decode cX6_set 12 = .ok (.sipush 256, 3) := by decide +kernel
theorem dX6_set_15 : decode cX6_set 15 = .ok (.invokestatic 56, 3) := by decide +kernel
theorem dX6_set_18 : decode cX6_set 18 = .ok (.ifCond .ne 7, 3) := by decide +kernel
theorem dX6_set_21 : decode cX6_set 21 = .ok (.iconst 1, 1) := by decide +kernel
theorem dX6_set_22 : decode cX6_set 22 = .ok (.goto 4, 3) := by decide +kernel
theorem dX6_set_25 : decode cX6_set 25 = .ok (.iconst 0, 1) := by decide +kernel
theorem dX6_set_26 : decode cX6_set 26 = .ok (.iconst 2, 1) := by decide +kernel
theorem dX6_set_27 : decode cX6_set 27 = .ok (.invokevirtual 34, 3) := by decide +kernel
theorem dX6_set_30 : decode cX6_set 30 = .ok (.ifCond .eq 5, 3) := by decide +kernel
theorem dX6_set_33 : decode cX6_set 33 = .ok (.iconst 0, 1) := by decide +kernel
theorem dX6_set_34 : decode cX6_set 34 = .ok (.ireturn, 1) := by decide +kernel
theorem dX6_set_35 : decode cX6_set 35 = .ok (.aload_n 0, 1) := by decide +kernel
theorem dX6_set_36 : decode cX6_set 36 = .ok (.getfield 9, 3) := by decide +kernel
theorem dX6_set_39 : decode cX6_set 39 = .ok (.iload_n 1, 1) := by decide +kernel
theorem dX6_set_40 : decode cX6_set 40 = .ok (.iaload, 1) := by decide +kernel
theorem dX6_set_41 : decode cX6_set 41 = .ok (.istore_n 3, 1) := by decide +kernel
theorem dX6_set_42 : decode cX6_set 42 = .ok (.aload_n 0, 1) := by decide +kernel
theorem dX6_set_43 : decode cX6_set 43 = .ok (.iload_n 1, 1) := by decide +kernel
theorem dX6_set_44 : decode cX6_set 44 = .ok (.iload_n 2, 1) := by decide +kernel
theorem dX6_set_45 : decode cX6_set 45 = .ok (.invokevirtual 60, 3) := by decide +kernel
theorem dX6_set_48 : decode cX6_set 48 = .ok (.istore 4, 2) := by decide +kernel
theorem dX6_set_50 : decode cX6_set 50 = .ok (.iload 4, 2) := by decide +kernel
theorem dX6_set_52 : decode cX6_set 52 = .ok (.iload_n 2, 1) := by decide +kernel
theorem dX6_set_53 : decode cX6_set 53 = .ok (.if_icmp .ne 7, 3) := by decide +kernel
theorem dX6_set_56 : decode cX6_set 56 = .ok (.iload_n 3, 1) := by decide +kernel
theorem dX6_set_57 : decode cX6_set 57 = .ok (.goto 4, 3) := by decide +kernel
theorem dX6_set_60 : decode cX6_set 60 = .ok (.iconst (-1), 1) := by decide +kernel
theorem dX6_set_61 : decode cX6_set 61 = .ok (.ireturn, 1) := by decide +kernel
set_option maxRecDepth 20000 in
theorem ggX6_sum_X6_areNone : GoodIn wsX6_sum wsX6_areNone := goodIn_r _ [6, 7, 8, 9, 5, 10, 11, 12, 13, 14, 25, 26, 27, 28, 29, 30, 31, 32] (by decide +kernel) (by decide +kernel)
set_option maxRecDepth 20000 in
theorem gX6_sum_X6_areNone : GoodIn wsX6_sum (wsV RX6 52 RX6 yX6_areNone wsX6_areNone) := goodIn_app (goodIn_of _ (by decide +kernel)) ggX6_sum_X6_areNone
set_option maxRecDepth 20000 in
theorem ggX6_sum_X6_sumOf : GoodIn wsX6_sum wsX6_sumOf := goodIn_ca (goodIn_r _ [17] (by decide +kernel) (by decide +kernel)) (goodIn_sub (fun _ h => List.mem_cons_of_mem _ (List.mem_append_right _ h)) (by decide +kernel))
set_option maxRecDepth 20000 in
theorem gX6_sum_X6_sumOf : GoodIn wsX6_sum (va_wsS RX6 42 yX6_sumOf wsX6_sumOf) := goodIn_app (goodIn_of _ (by decide +kernel)) ggX6_sum_X6_sumOf
set_option maxRecDepth 20000 in
theorem ggX6_sum_X6_becomes : GoodIn wsX6_sum wsX6_becomes := goodIn_ca (goodIn_r _ [21, 22, 23, 24, 1, 25, 26, 27, 28, 29, 30, 31, 32] (by decide +kernel) (by decide +kernel)) (goodIn_sub (fun _ h => List.mem_cons_of_mem _ (List.mem_append_left _ (List.mem_append_right _ h))) (by decide +kernel))
set_option maxRecDepth 20000 in
theorem gX6_sum_X6_becomes : GoodIn wsX6_sum (wsV RX6 60 RX6 yX6_becomes wsX6_becomes) := goodIn_app (goodIn_of _ (by decide +kernel)) ggX6_sum_X6_becomes
theorem dX6_sum_0 : decode cX6_sum 0 = .ok (.aload_n 0, 1) := by decide +kernel
theorem dX6_sum_1 : decode cX6_sum 1 = .ok (.iload_n 1, 1) := by decide +kernel
theorem dX6_sum_2 : decode cX6_sum 2 = .ok (.iload_n 2, 1) := by decide +kernel
theorem dX6_sum_3 : decode cX6_sum 3 = .ok (.iload_n 3, 1) := by decide +kernel
theorem dX6_sum_4 : decode cX6_sum 4 = .ok (.invokevirtual 52, 3) := by decide +kernel
theorem dX6_sum_7 : decode cX6_sum 7 = .ok (.ifCond .eq 7, 3) := by decide +kernel
theorem dX6_sum_10 : decode cX6_sum 10 = .ok (.iconst 0, 1) := by decide +kernel
theorem dX6_sum_11 : decode cX6_sum 11 = .ok (.goto 23, 3) := by decide +kernel
theorem dX6_sum_14 : decode cX6_sum 14 = .ok (.aload_n 0, 1) := by decide +kernel
theorem dX6_sum_15 : decode cX6_sum 15 = .ok (.iload_n 1, 1) := by decide +kernel
theorem dX6_sum_16 : decode cX6_sum 16 = .ok (.aload_n 0, 1) := by decide +kernel
theorem dX6_sum_17 : decode cX6_sum 17 = .ok (.getfield 9, 3) := by decide +kernel
theorem dX6_sum_20 : decode cX6_sum 20 = .ok (.iload_n 2, 1) := by decide +kernel
theorem dX6_sum_21 : decode cX6_sum 21 = .ok (.iaload, 1) := by decide +kernel
theorem dX6_sum_22 : decode cX6_sum 22 = .ok (.aload_n 0, 1) := by decide +kernel
theorem dX6_sum_23 : decode cX6_sum 23 = .ok (.getfield 9, 3) := by decide +kernel
theorem dX6_sum_26 : decode cX6_sum 26 = .ok (.iload_n 3, 1) := by decide +kernel
theorem dX6_sum_27 : decode cX6_sum 27 = .ok (.iaload, 1) := by decide +kernel
theorem dX6_sum_28 : decode cX6_sum 28 = .ok (.invokestatic 42, 3) := by decide +kernel
theorem dX6_sum_31 : decode cX6_sum 31 = .ok (.invokevirtual 60, 3) := by decide +kernel
theorem dX6_sum_34 : decode cX6_sum 34 = .ok (.ireturn, 1) := by decide +kernel
set_option maxRecDepth 20000 in
theorem ggX6_product_X6_areNone : GoodIn wsX6_product wsX6_areNone := goodIn_r _ [6, 7, 8, 9, 5, 10, 11, 12, 13, 14, 28, 29, 30, 31, 32, 33, 34, 35] (by decide +kernel) (by decide +kernel)
set_option maxRecDepth 20000 in
theorem gX6_product_X6_areNone : GoodIn wsX6_product (wsV RX6 52 RX6 yX6_areNone wsX6_areNone) := goodIn_app (goodIn_of _ (by decide +kernel)) ggX6_product_X6_areNone
set_option maxRecDepth 20000 in
theorem ggX6_product_X6_productOf : GoodIn wsX6_product wsX6_productOf := goodIn_ca (goodIn_r _ [17, 15, 16, 5, 18, 19, 20] (by decide +kernel) (by decide +kernel)) (goodIn_sub (fun _ h => List.mem_cons_of_mem _ (List.mem_append_right _ h)) (by decide +kernel))
set_option maxRecDepth 20000 in
theorem gX6_product_X6_productOf : GoodIn wsX6_product (va_wsS RX6 38 yX6_productOf wsX6_productOf) := goodIn_app (goodIn_of _ (by decide +kernel)) ggX6_product_X6_productOf
set_option maxRecDepth 20000 in
theorem ggX6_product_X6_becomes : GoodIn wsX6_product wsX6_becomes := goodIn_ca (goodIn_r _ [24, 25, 26, 27, 1, 28, 29, 30, 31, 32, 33, 34, 35] (by decide +kernel) (by decide +kernel)) (goodIn_sub (fun _ h => List.mem_cons_of_mem _ (List.mem_append_left _ (List.mem_append_right _ h))) (by decide +kernel))
set_option maxRecDepth 20000 in
theorem gX6_product_X6_becomes : GoodIn wsX6_product (wsV RX6 60 RX6 yX6_becomes wsX6_becomes) := goodIn_app (goodIn_of _ (by decide +kernel)) ggX6_product_X6_becomes
theorem dX6_product_0 : decode cX6_product 0 = .ok (.aload_n 0, 1) := by decide +kernel
theorem dX6_product_1 : decode cX6_product 1 = .ok (.iload_n 1, 1) := by decide +kernel
theorem dX6_product_2 : decode cX6_product 2 = .ok (.iload_n 2, 1) := by decide +kernel
theorem dX6_product_3 : decode cX6_product 3 = .ok (.iload_n 3, 1) := by decide +kernel
theorem dX6_product_4 : decode cX6_product 4 = .ok (.invokevirtual 52, 3) := by decide +kernel
theorem dX6_product_7 : decode cX6_product 7 = .ok (.ifCond .eq 7, 3) := by decide +kernel
theorem dX6_product_10 : decode cX6_product 10 = .ok (.iconst 0, 1) := by decide +kernel
theorem dX6_product_11 : decode cX6_product 11 = .ok (.goto 23, 3) := by decide +kernel
theorem dX6_product_14 : decode cX6_product 14 = .ok (.aload_n 0, 1) := by decide +kernel
theorem dX6_product_15 : decode cX6_product 15 = .ok (.iload_n 1, 1) := by decide +kernel
theorem dX6_product_16 : decode cX6_product 16 = .ok (.aload_n 0, 1) := by decide +kernel
theorem dX6_product_17 : decode cX6_product 17 = .ok (.getfield 9, 3) := by decide +kernel
theorem dX6_product_20 : decode cX6_product 20 = .ok (.iload_n 2, 1) := by decide +kernel
theorem dX6_product_21 : decode cX6_product 21 = .ok (.iaload, 1) := by decide +kernel
theorem dX6_product_22 : decode cX6_product 22 = .ok (.aload_n 0, 1) := by decide +kernel
theorem dX6_product_23 : decode cX6_product 23 = .ok (.getfield 9, 3) := by decide +kernel
theorem dX6_product_26 : decode cX6_product 26 = .ok (.iload_n 3, 1) := by decide +kernel
theorem dX6_product_27 : decode cX6_product 27 = .ok (.iaload, 1) := by decide +kernel
theorem dX6_product_28 : decode cX6_product 28 = .ok (.invokestatic 38, 3) := by decide +kernel
theorem dX6_product_31 : decode cX6_product 31 = .ok (.invokevirtual 60, 3) := by decide +kernel
theorem dX6_product_34 : decode cX6_product 34 = .ok (.ireturn, 1) := by decide +kernel
set_option maxRecDepth 20000 in
theorem ggX6_quotient_X6_areNone : GoodIn wsX6_quotient wsX6_areNone := goodIn_r _ [6, 7, 8, 9, 5, 10, 11, 12, 13, 14, 31, 32, 33, 34, 35, 36, 37, 38] (by decide +kernel) (by decide +kernel)
set_option maxRecDepth 20000 in
theorem gX6_quotient_X6_areNone : GoodIn wsX6_quotient (wsV RX6 52 RX6 yX6_areNone wsX6_areNone) := goodIn_app (goodIn_of _ (by decide +kernel)) ggX6_quotient_X6_areNone
set_option maxRecDepth 20000 in
theorem ggX6_quotient_X6_fails : GoodIn wsX6_quotient wsX6_fails := goodIn_r _ [14, 7, 31, 32, 33, 34, 35, 36, 37, 38] (by decide +kernel) (by decide +kernel)
set_option maxRecDepth 20000 in
theorem gX6_quotient_X6_fails : GoodIn wsX6_quotient (wsV RX6 34 RX6 yX6_fails wsX6_fails) := goodIn_app (goodIn_of _ (by decide +kernel)) ggX6_quotient_X6_fails
set_option maxRecDepth 20000 in
theorem ggX6_quotient_X6_quotientOf : GoodIn wsX6_quotient wsX6_quotientOf := goodIn_ca (goodIn_r _ [17, 18, 19, 5, 20, 21, 22, 23] (by decide +kernel) (by decide +kernel)) (goodIn_sub (fun _ h => List.mem_cons_of_mem _ (List.mem_append_right _ h)) (by decide +kernel))
set_option maxRecDepth 20000 in
theorem gX6_quotient_X6_quotientOf : GoodIn wsX6_quotient (va_wsS RX6 63 yX6_quotientOf wsX6_quotientOf) := goodIn_app (goodIn_of _ (by decide +kernel)) ggX6_quotient_X6_quotientOf
set_option maxRecDepth 20000 in
theorem ggX6_quotient_X6_becomes : GoodIn wsX6_quotient wsX6_becomes := goodIn_ca (goodIn_r _ [27, 28, 29, 30, 1, 31, 32, 33, 34, 35, 36, 37, 38] (by decide +kernel) (by decide +kernel)) (goodIn_sub (fun _ h => List.mem_cons_of_mem _ (List.mem_append_left _ (List.mem_append_right _ h))) (by decide +kernel))
set_option maxRecDepth 20000 in
theorem gX6_quotient_X6_becomes : GoodIn wsX6_quotient (wsV RX6 60 RX6 yX6_becomes wsX6_becomes) := goodIn_app (goodIn_of _ (by decide +kernel)) ggX6_quotient_X6_becomes
theorem dX6_quotient_0 : decode cX6_quotient 0 = .ok (.aload_n 0, 1) := by decide +kernel
theorem dX6_quotient_1 : decode cX6_quotient 1 = .ok (.iload_n 1, 1) := by decide +kernel
theorem dX6_quotient_2 : decode cX6_quotient 2 = .ok (.iload_n 2, 1) := by decide +kernel
theorem dX6_quotient_3 : decode cX6_quotient 3 = .ok (.iload_n 3, 1) := by decide +kernel
theorem dX6_quotient_4 : decode cX6_quotient 4 = .ok (.invokevirtual 52, 3) := by decide +kernel
theorem dX6_quotient_7 : decode cX6_quotient 7 = .ok (.ifCond .ne 25, 3) := by decide +kernel
theorem dX6_quotient_10 : decode cX6_quotient 10 = .ok (.aload_n 0, 1) := by decide +kernel
theorem dX6_quotient_11 : decode cX6_quotient 11 = .ok (.aload_n 0, 1) := by decide +kernel
theorem dX6_quotient_12 : decode cX6_quotient 12 = .ok (.getfield 9, 3) := by decide +kernel
theorem dX6_quotient_15 : decode cX6_quotient 15 = .ok (.iload_n 3, 1) := by decide +kernel
theorem dX6_quotient_16 : decode cX6_quotient 16 = .ok (.iaload, 1) := by decide +kernel
theorem dX6_quotient_17 : decode cX6_quotient 17 = .ok (.ifCond .ne 7, 3) := by decide +kernel
theorem dX6_quotient_20 : decode cX6_quotient 20 = .ok (.iconst 1, 1) := by decide +kernel
theorem dX6_quotient_21 : decode cX6_quotient 21 = .ok (.goto 4, 3) := by decide +kernel
theorem dX6_quotient_24 : decode cX6_quotient 24 = .ok (.iconst 0, 1) := by decide +kernel
theorem dX6_quotient_25 : decode cX6_quotient 25 = .ok (.iconst 2, 1) := by decide +kernel
theorem dX6_quotient_26 : decode cX6_quotient 26 = .ok (.invokevirtual 34, 3) := by decide +kernel
theorem dX6_quotient_29 : decode cX6_quotient 29 = .ok (.ifCond .eq 5, 3) := by decide +kernel
theorem dX6_quotient_32 : decode cX6_quotient 32 = .ok (.iconst 0, 1) := by decide +kernel
theorem dX6_quotient_33 : decode cX6_quotient 33 = .ok (.ireturn, 1) := by decide +kernel
theorem dX6_quotient_34 : decode cX6_quotient 34 = .ok (.aload_n 0, 1) := by decide +kernel
theorem dX6_quotient_35 : decode cX6_quotient 35 = .ok (.iload_n 1, 1) := by decide +kernel
theorem dX6_quotient_36 : decode cX6_quotient 36 = .ok (.aload_n 0, 1) := by decide +kernel
theorem dX6_quotient_37 : decode cX6_quotient 37 = .ok (.getfield 9, 3) := by decide +kernel
theorem dX6_quotient_40 : decode cX6_quotient 40 = .ok (.iload_n 2, 1) := by decide +kernel
theorem dX6_quotient_41 : decode cX6_quotient 41 = .ok (.iaload, 1) := by decide +kernel
theorem dX6_quotient_42 : decode cX6_quotient 42 = .ok (.aload_n 0, 1) := by decide +kernel
theorem dX6_quotient_43 : decode cX6_quotient 43 = .ok (.getfield 9, 3) := by decide +kernel
theorem dX6_quotient_46 : decode cX6_quotient 46 = .ok (.iload_n 3, 1) := by decide +kernel
theorem dX6_quotient_47 : decode cX6_quotient 47 = .ok (.iaload, 1) := by decide +kernel
theorem dX6_quotient_48 : decode cX6_quotient 48 = .ok (.invokestatic 63, 3) := by decide +kernel
theorem dX6_quotient_51 : decode cX6_quotient 51 = .ok (.invokevirtual 60, 3) := by decide +kernel
theorem dX6_quotient_54 : decode cX6_quotient 54 = .ok (.ireturn, 1) := by decide +kernel
set_option maxRecDepth 20000 in
theorem ggX6_power_X6_areNone : GoodIn wsX6_power wsX6_areNone := goodIn_r _ [6, 7, 8, 9, 5, 10, 11, 12, 13, 14, 31, 32, 33, 34, 35, 36, 37, 38] (by decide +kernel) (by decide +kernel)
set_option maxRecDepth 20000 in
theorem gX6_power_X6_areNone : GoodIn wsX6_power (wsV RX6 52 RX6 yX6_areNone wsX6_areNone) := goodIn_app (goodIn_of _ (by decide +kernel)) ggX6_power_X6_areNone
set_option maxRecDepth 20000 in
theorem ggX6_power_X6_fails : GoodIn wsX6_power wsX6_fails := goodIn_r _ [14, 7, 31, 32, 33, 34, 35, 36, 37, 38] (by decide +kernel) (by decide +kernel)
set_option maxRecDepth 20000 in
theorem gX6_power_X6_fails : GoodIn wsX6_power (wsV RX6 34 RX6 yX6_fails wsX6_fails) := goodIn_app (goodIn_of _ (by decide +kernel)) ggX6_power_X6_fails
set_option maxRecDepth 20000 in
theorem ggX6_power_X6_powerOf : GoodIn wsX6_power wsX6_powerOf := goodIn_ca (goodIn_r _ [17, 18, 19, 5, 20, 21, 22, 23] (by decide +kernel) (by decide +kernel)) (goodIn_sub (fun _ h => List.mem_cons_of_mem _ (List.mem_append_right _ h)) (by decide +kernel))
set_option maxRecDepth 20000 in
theorem gX6_power_X6_powerOf : GoodIn wsX6_power (va_wsS RX6 66 yX6_powerOf wsX6_powerOf) := goodIn_app (goodIn_of _ (by decide +kernel)) ggX6_power_X6_powerOf
set_option maxRecDepth 20000 in
theorem ggX6_power_X6_becomes : GoodIn wsX6_power wsX6_becomes := goodIn_ca (goodIn_r _ [27, 28, 29, 30, 1, 31, 32, 33, 34, 35, 36, 37, 38] (by decide +kernel) (by decide +kernel)) (goodIn_sub (fun _ h => List.mem_cons_of_mem _ (List.mem_append_left _ (List.mem_append_right _ h))) (by decide +kernel))
set_option maxRecDepth 20000 in
theorem gX6_power_X6_becomes : GoodIn wsX6_power (wsV RX6 60 RX6 yX6_becomes wsX6_becomes) := goodIn_app (goodIn_of _ (by decide +kernel)) ggX6_power_X6_becomes
theorem dX6_power_0 : decode cX6_power 0 = .ok (.aload_n 0, 1) := by decide +kernel
theorem dX6_power_1 : decode cX6_power 1 = .ok (.iload_n 1, 1) := by decide +kernel
theorem dX6_power_2 : decode cX6_power 2 = .ok (.iload_n 2, 1) := by decide +kernel
theorem dX6_power_3 : decode cX6_power 3 = .ok (.iconst 0, 1) := by decide +kernel
theorem dX6_power_4 : decode cX6_power 4 = .ok (.invokevirtual 52, 3) := by decide +kernel
theorem dX6_power_7 : decode cX6_power 7 = .ok (.ifCond .ne 20, 3) := by decide +kernel
theorem dX6_power_10 : decode cX6_power 10 = .ok (.aload_n 0, 1) := by decide +kernel
theorem dX6_power_11 : decode cX6_power 11 = .ok (.iload_n 3, 1) := by decide +kernel
theorem dX6_power_12 : decode cX6_power 12 = .ok (.ifCond .ge 7, 3) := by decide +kernel
theorem dX6_power_15 : decode cX6_power 15 = .ok (.iconst 1, 1) := by decide +kernel
theorem dX6_power_16 : decode cX6_power 16 = .ok (.goto 4, 3) := by decide +kernel
theorem dX6_power_19 : decode cX6_power 19 = .ok (.iconst 0, 1) := by decide +kernel
theorem dX6_power_20 : decode cX6_power 20 = .ok (.iconst 2, 1) := by decide +kernel
theorem dX6_power_21 : decode cX6_power 21 = .ok (.invokevirtual 34, 3) := by decide +kernel
theorem dX6_power_24 : decode cX6_power 24 = .ok (.ifCond .eq 5, 3) := by decide +kernel
theorem dX6_power_27 : decode cX6_power 27 = .ok (.iconst 0, 1) := by decide +kernel
theorem dX6_power_28 : decode cX6_power 28 = .ok (.ireturn, 1) := by decide +kernel
theorem dX6_power_29 : decode cX6_power 29 = .ok (.aload_n 0, 1) := by decide +kernel
theorem dX6_power_30 : decode cX6_power 30 = .ok (.iload_n 1, 1) := by decide +kernel
theorem dX6_power_31 : decode cX6_power 31 = .ok (.aload_n 0, 1) := by decide +kernel
theorem dX6_power_32 : decode cX6_power 32 = .ok (.getfield 9, 3) := by decide +kernel
theorem dX6_power_35 : decode cX6_power 35 = .ok (.iload_n 2, 1) := by decide +kernel
theorem dX6_power_36 : decode cX6_power 36 = .ok (.iaload, 1) := by decide +kernel
theorem dX6_power_37 : decode cX6_power 37 = .ok (.iload_n 3, 1) := by decide +kernel
theorem dX6_power_38 : decode cX6_power 38 = .ok (.invokestatic 66, 3) := by decide +kernel
theorem dX6_power_41 : decode cX6_power 41 = .ok (.invokevirtual 60, 3) := by decide +kernel
theorem dX6_power_44 : decode cX6_power 44 = .ok (.ireturn, 1) := by decide +kernel
set_option maxRecDepth 20000 in
theorem ggX6_root_X6_areNone : GoodIn wsX6_root wsX6_areNone := goodIn_r _ [6, 7, 8, 9, 5, 10, 11, 12, 13, 14, 31, 32, 33, 34, 35, 36, 37, 38] (by decide +kernel) (by decide +kernel)
set_option maxRecDepth 20000 in
theorem gX6_root_X6_areNone : GoodIn wsX6_root (wsV RX6 52 RX6 yX6_areNone wsX6_areNone) := goodIn_app (goodIn_of _ (by decide +kernel)) ggX6_root_X6_areNone
set_option maxRecDepth 20000 in
theorem ggX6_root_X6_rootOf : GoodIn wsX6_root wsX6_rootOf := goodIn_ca (goodIn_r _ [17, 18, 19, 5, 20, 21, 22, 23] (by decide +kernel) (by decide +kernel)) (goodIn_sub (fun _ h => List.mem_cons_of_mem _ (List.mem_append_right _ h)) (by decide +kernel))
set_option maxRecDepth 20000 in
theorem gX6_root_X6_rootOf : GoodIn wsX6_root (va_wsS RX6 69 yX6_rootOf wsX6_rootOf) := goodIn_app (goodIn_of _ (by decide +kernel)) ggX6_root_X6_rootOf
set_option maxRecDepth 20000 in
theorem ggX6_root_X6_becomes : GoodIn wsX6_root wsX6_becomes := goodIn_ca (goodIn_r _ [27, 28, 29, 30, 1, 31, 32, 33, 34, 35, 36, 37, 38] (by decide +kernel) (by decide +kernel)) (goodIn_sub (fun _ h => List.mem_cons_of_mem _ (List.mem_append_left _ (List.mem_append_right _ h))) (by decide +kernel))
set_option maxRecDepth 20000 in
theorem gX6_root_X6_becomes : GoodIn wsX6_root (wsV RX6 60 RX6 yX6_becomes wsX6_becomes) := goodIn_app (goodIn_of _ (by decide +kernel)) ggX6_root_X6_becomes
theorem dX6_root_0 : decode cX6_root 0 = .ok (.aload_n 0, 1) := by decide +kernel
theorem dX6_root_1 : decode cX6_root 1 = .ok (.iload_n 1, 1) := by decide +kernel
theorem dX6_root_2 : decode cX6_root 2 = .ok (.iload_n 2, 1) := by decide +kernel
theorem dX6_root_3 : decode cX6_root 3 = .ok (.iconst 0, 1) := by decide +kernel
theorem dX6_root_4 : decode cX6_root 4 = .ok (.invokevirtual 52, 3) := by decide +kernel
theorem dX6_root_7 : decode cX6_root 7 = .ok (.ifCond .eq 7, 3) := by decide +kernel
theorem dX6_root_10 : decode cX6_root 10 = .ok (.iconst 0, 1) := by decide +kernel
theorem dX6_root_11 : decode cX6_root 11 = .ok (.goto 17, 3) := by decide +kernel
theorem dX6_root_14 : decode cX6_root 14 = .ok (.aload_n 0, 1) := by decide +kernel
theorem dX6_root_15 : decode cX6_root 15 = .ok (.iload_n 1, 1) := by decide +kernel
theorem dX6_root_16 : decode cX6_root 16 = .ok (.aload_n 0, 1) := by decide +kernel
theorem dX6_root_17 : decode cX6_root 17 = .ok (.getfield 9, 3) := by decide +kernel
theorem dX6_root_20 : decode cX6_root 20 = .ok (.iload_n 2, 1) := by decide +kernel
theorem dX6_root_21 : decode cX6_root 21 = .ok (.iaload, 1) := by decide +kernel
theorem dX6_root_22 : decode cX6_root 22 = .ok (.invokestatic 69, 3) := by decide +kernel
theorem dX6_root_25 : decode cX6_root 25 = .ok (.invokevirtual 60, 3) := by decide +kernel
theorem dX6_root_28 : decode cX6_root 28 = .ok (.ireturn, 1) := by decide +kernel
set_option maxRecDepth 20000 in
theorem ggX6_solve_X6_areNone : GoodIn wsX6_solve wsX6_areNone := goodIn_r _ [6, 7, 8, 9, 5, 10, 11, 12, 13, 14, 28, 29, 30, 31, 32, 33, 34, 35] (by decide +kernel) (by decide +kernel)
set_option maxRecDepth 20000 in
theorem gX6_solve_X6_areNone : GoodIn wsX6_solve (wsV RX6 52 RX6 yX6_areNone wsX6_areNone) := goodIn_app (goodIn_of _ (by decide +kernel)) ggX6_solve_X6_areNone
set_option maxRecDepth 20000 in
theorem ggX6_solve_X6_productOf : GoodIn wsX6_solve wsX6_productOf := goodIn_ca (goodIn_r _ [17, 15, 16, 5, 18, 19, 20] (by decide +kernel) (by decide +kernel)) (goodIn_sub (fun _ h => List.mem_cons_of_mem _ (List.mem_append_right _ h)) (by decide +kernel))
set_option maxRecDepth 20000 in
theorem gX6_solve_X6_productOf : GoodIn wsX6_solve (va_wsS RX6 38 yX6_productOf wsX6_productOf) := goodIn_app (goodIn_of _ (by decide +kernel)) ggX6_solve_X6_productOf
set_option maxRecDepth 20000 in
theorem ggX6_solve_X6_sumOf : GoodIn wsX6_solve wsX6_sumOf := goodIn_ca (goodIn_r _ [20] (by decide +kernel) (by decide +kernel)) (goodIn_sub (fun _ h => List.mem_cons_of_mem _ (List.mem_append_right _ h)) (by decide +kernel))
set_option maxRecDepth 20000 in
theorem gX6_solve_X6_sumOf : GoodIn wsX6_solve (va_wsS RX6 42 yX6_sumOf wsX6_sumOf) := goodIn_app (goodIn_of _ (by decide +kernel)) ggX6_solve_X6_sumOf
set_option maxRecDepth 20000 in
theorem ggX6_solve_X6_fails : GoodIn wsX6_solve wsX6_fails := goodIn_r _ [14, 7, 28, 29, 30, 31, 32, 33, 34, 35] (by decide +kernel) (by decide +kernel)
set_option maxRecDepth 20000 in
theorem gX6_solve_X6_fails : GoodIn wsX6_solve (wsV RX6 34 RX6 yX6_fails wsX6_fails) := goodIn_app (goodIn_of _ (by decide +kernel)) ggX6_solve_X6_fails
set_option maxRecDepth 20000 in
theorem ggX6_solve_X6_becomes : GoodIn wsX6_solve wsX6_becomes := goodIn_ca (goodIn_r _ [24, 25, 26, 27, 1, 28, 29, 30, 31, 32, 33, 34, 35] (by decide +kernel) (by decide +kernel)) (goodIn_sub (fun _ h => List.mem_cons_of_mem _ (List.mem_append_left _ (List.mem_append_right _ h))) (by decide +kernel))
set_option maxRecDepth 20000 in
theorem gX6_solve_X6_becomes : GoodIn wsX6_solve (wsV RX6 60 RX6 yX6_becomes wsX6_becomes) := goodIn_app (goodIn_of _ (by decide +kernel)) ggX6_solve_X6_becomes
theorem dX6_solve_0 : decode cX6_solve 0 = .ok (.aload_n 0, 1) := by decide +kernel
theorem dX6_solve_1 : decode cX6_solve 1 = .ok (.iload_n 1, 1) := by decide +kernel
theorem dX6_solve_2 : decode cX6_solve 2 = .ok (.iload_n 2, 1) := by decide +kernel
theorem dX6_solve_3 : decode cX6_solve 3 = .ok (.iconst 0, 1) := by decide +kernel
theorem dX6_solve_4 : decode cX6_solve 4 = .ok (.invokevirtual 52, 3) := by decide +kernel
theorem dX6_solve_7 : decode cX6_solve 7 = .ok (.ifCond .eq 5, 3) := by decide +kernel
theorem dX6_solve_10 : decode cX6_solve 10 = .ok (.iconst 0, 1) := by decide +kernel
theorem dX6_solve_11 : decode cX6_solve 11 = .ok (.ireturn, 1) := by decide +kernel
theorem dX6_solve_12 : decode cX6_solve 12 = .ok (.iconst (-1), 1) := by decide +kernel
theorem dX6_solve_13 : decode cX6_solve 13 = .ok (.istore 4, 2) := by decide +kernel
theorem dX6_solve_15 : decode cX6_solve 15 = .ok (.iconst 0, 1) := by decide +kernel
theorem dX6_solve_16 : decode cX6_solve 16 = .ok (.istore 5, 2) := by decide +kernel
theorem dX6_solve_18 : decode cX6_solve 18 = .ok (.iload 5, 2) := by decide +kernel
theorem dX6_solve_20 : decode cX6_solve 20 = .ok (.sipush 256, 3) := by decide +kernel
theorem dX6_solve_23 : decode cX6_solve 23 = .ok (.if_icmp .ge 61, 3) := by decide +kernel
theorem dX6_solve_26 : decode cX6_solve 26 = .ok (.iload 5, 2) := by decide +kernel
theorem dX6_solve_28 : decode cX6_solve 28 = .ok (.iload 5, 2) := by decide +kernel
theorem dX6_solve_30 : decode cX6_solve 30 = .ok (.invokestatic 38, 3) := by decide +kernel
theorem dX6_solve_33 : decode cX6_solve 33 = .ok (.iload 5, 2) := by decide +kernel
theorem dX6_solve_35 : decode cX6_solve 35 = .ok (.invokestatic 42, 3) := by decide +kernel
theorem dX6_solve_38 : decode cX6_solve 38 = .ok (.aload_n 0, 1) := by decide +kernel
theorem dX6_solve_39 : decode cX6_solve 39 = .ok (.getfield 9, 3) := by decide +kernel
theorem dX6_solve_42 : decode cX6_solve 42 = .ok (.iload_n 2, 1) := by decide +kernel
theorem dX6_solve_43 : decode cX6_solve 43 = .ok (.iaload, 1) := by decide +kernel
theorem dX6_solve_44 : decode cX6_solve 44 = .ok (.if_icmp .ne 7, 3) := by decide +kernel
theorem dX6_solve_47 : decode cX6_solve 47 = .ok (.iconst 1, 1) := by decide +kernel
theorem dX6_solve_48 : decode cX6_solve 48 = .ok (.goto 4, 3) := by decide +kernel
theorem dX6_solve_51 : decode cX6_solve 51 = .ok (.iconst 0, 1) := by decide +kernel
theorem dX6_solve_52 : decode cX6_solve 52 = .ok (.istore 6, 2) := by decide +kernel
theorem dX6_solve_54 : decode cX6_solve 54 = .ok (.iload 6, 2) := by decide +kernel
theorem dX6_solve_56 : decode cX6_solve 56 = .ok (.ifCond .eq 18, 3) := by decide +kernel
theorem dX6_solve_59 : decode cX6_solve 59 = .ok (.iload 4, 2) := by decide +kernel
theorem dX6_solve_61 : decode cX6_solve 61 = .ok (.iconst (-1), 1) := by decide +kernel
theorem dX6_solve_62 : decode cX6_solve 62 = .ok (.if_icmp .eq 7, 3) := by decide +kernel
theorem dX6_solve_65 : decode cX6_solve 65 = .ok (.iload_n 3, 1) := by decide +kernel
theorem dX6_solve_66 : decode cX6_solve 66 = .ok (.ifCond .eq 8, 3) := by decide +kernel
theorem dX6_solve_69 : decode cX6_solve 69 = .ok (.iload 5, 2) := by decide +kernel
theorem dX6_solve_71 : decode cX6_solve 71 = .ok (.goto 5, 3) := by decide +kernel
theorem dX6_solve_74 : decode cX6_solve 74 = .ok (.iload 4, 2) := by decide +kernel
theorem dX6_solve_76 : decode cX6_solve 76 = .ok (.istore 4, 2) := by decide +kernel
theorem dX6_solve_78 : decode cX6_solve 78 = .ok (.iinc 5 1, 3) := by decide +kernel
theorem dX6_solve_81 : decode cX6_solve 81 = .ok (.goto (-63), 3) := by decide +kernel
theorem dX6_solve_84 : decode cX6_solve 84 = .ok (.aload_n 0, 1) := by decide +kernel
theorem dX6_solve_85 : decode cX6_solve 85 = .ok (.iload 4, 2) := by decide +kernel
theorem dX6_solve_87 : decode cX6_solve 87 = .ok (.iconst (-1), 1) := by decide +kernel
theorem dX6_solve_88 : decode cX6_solve 88 = .ok (.if_icmp .ne 7, 3) := by decide +kernel
theorem dX6_solve_91 : decode cX6_solve 91 = .ok (.iconst 1, 1) := by decide +kernel
theorem dX6_solve_92 : decode cX6_solve 92 = .ok (.goto 4, 3) := by decide +kernel
theorem dX6_solve_95 : decode cX6_solve 95 = .ok (.iconst 0, 1) := by decide +kernel
theorem dX6_solve_96 : decode cX6_solve 96 = .ok (.iconst 2, 1) := by decide +kernel
theorem dX6_solve_97 : decode cX6_solve 97 = .ok (.invokevirtual 34, 3) := by decide +kernel
theorem dX6_solve_100 : decode cX6_solve 100 = .ok (.ifCond .eq 7, 3) := by decide +kernel
theorem dX6_solve_103 : decode cX6_solve 103 = .ok (.iconst 0, 1) := by decide +kernel
theorem dX6_solve_104 : decode cX6_solve 104 = .ok (.goto 10, 3) := by decide +kernel
theorem dX6_solve_107 : decode cX6_solve 107 = .ok (.aload_n 0, 1) := by decide +kernel
theorem dX6_solve_108 : decode cX6_solve 108 = .ok (.iload_n 1, 1) := by decide +kernel
theorem dX6_solve_109 : decode cX6_solve 109 = .ok (.iload 4, 2) := by decide +kernel
theorem dX6_solve_111 : decode cX6_solve 111 = .ok (.invokevirtual 60, 3) := by decide +kernel
theorem dX6_solve_114 : decode cX6_solve 114 = .ok (.ireturn, 1) := by decide +kernel
theorem dX6_undo_0 : decode cX6_undo 0 = .ok (.aload_n 0, 1) := by decide +kernel
theorem dX6_undo_1 : decode cX6_undo 1 = .ok (.iconst 0, 1) := by decide +kernel
theorem dX6_undo_2 : decode cX6_undo 2 = .ok (.putfield 26, 3) := by decide +kernel
theorem dX6_undo_5 : decode cX6_undo 5 = .ok (.aload_n 0, 1) := by decide +kernel
theorem dX6_undo_6 : decode cX6_undo 6 = .ok (.getfield 49, 3) := by decide +kernel
theorem dX6_undo_9 : decode cX6_undo 9 = .ok (.ifCond .ne 5, 3) := by decide +kernel
theorem dX6_undo_12 : decode cX6_undo 12 = .ok (.iconst (-1), 1) := by decide +kernel
theorem dX6_undo_13 : decode cX6_undo 13 = .ok (.ireturn, 1) := by decide +kernel
theorem dX6_undo_14 : decode cX6_undo 14 = .ok (.aload_n 0, 1) := by decide +kernel
theorem dX6_undo_15 : decode cX6_undo 15 = .ok (.dup, 1) := by decide +kernel
theorem dX6_undo_16 : decode cX6_undo 16 = .ok (.getfield 49, 3) := by decide +kernel
theorem dX6_undo_19 : decode cX6_undo 19 = .ok (.iconst 1, 1) := by decide +kernel
theorem dX6_undo_20 : decode cX6_undo 20 = .ok (.isub, 1) := by decide +kernel
theorem dX6_undo_21 : decode cX6_undo 21 = .ok (.putfield 49, 3) := by decide +kernel
theorem dX6_undo_24 : decode cX6_undo 24 = .ok (.aload_n 0, 1) := by decide +kernel
theorem dX6_undo_25 : decode cX6_undo 25 = .ok (.getfield 9, 3) := by decide +kernel
theorem dX6_undo_28 : decode cX6_undo 28 = .ok (.aload_n 0, 1) := by decide +kernel
theorem dX6_undo_29 : decode cX6_undo 29 = .ok (.getfield 13, 3) := by decide +kernel
theorem dX6_undo_32 : decode cX6_undo 32 = .ok (.aload_n 0, 1) := by decide +kernel
theorem dX6_undo_33 : decode cX6_undo 33 = .ok (.getfield 49, 3) := by decide +kernel
theorem dX6_undo_36 : decode cX6_undo 36 = .ok (.iaload, 1) := by decide +kernel
theorem dX6_undo_37 : decode cX6_undo 37 = .ok (.aload_n 0, 1) := by decide +kernel
theorem dX6_undo_38 : decode cX6_undo 38 = .ok (.getfield 16, 3) := by decide +kernel
theorem dX6_undo_41 : decode cX6_undo 41 = .ok (.aload_n 0, 1) := by decide +kernel
theorem dX6_undo_42 : decode cX6_undo 42 = .ok (.getfield 49, 3) := by decide +kernel
theorem dX6_undo_45 : decode cX6_undo 45 = .ok (.iaload, 1) := by decide +kernel
theorem dX6_undo_46 : decode cX6_undo 46 = .ok (.iastore, 1) := by decide +kernel
theorem dX6_undo_47 : decode cX6_undo 47 = .ok (.aload_n 0, 1) := by decide +kernel
theorem dX6_undo_48 : decode cX6_undo 48 = .ok (.getfield 13, 3) := by decide +kernel
theorem dX6_undo_51 : decode cX6_undo 51 = .ok (.aload_n 0, 1) := by decide +kernel
theorem dX6_undo_52 : decode cX6_undo 52 = .ok (.getfield 49, 3) := by decide +kernel
theorem dX6_undo_55 : decode cX6_undo 55 = .ok (.iaload, 1) := by decide +kernel
theorem dX6_undo_56 : decode cX6_undo 56 = .ok (.ireturn, 1) := by decide +kernel
set_option maxRecDepth 20000 in
theorem ggX6_at_X6_areNone : GoodIn wsX6_at wsX6_areNone := goodIn_r _ [6, 7, 8, 9, 5, 10, 11, 12, 13, 14, 15, 16, 17, 18, 19, 20, 21, 22] (by decide +kernel) (by decide +kernel)
set_option maxRecDepth 20000 in
theorem gX6_at_X6_areNone : GoodIn wsX6_at (wsV RX6 52 RX6 yX6_areNone wsX6_areNone) := goodIn_app (goodIn_of _ (by decide +kernel)) ggX6_at_X6_areNone
theorem dX6_at_0 : decode cX6_at 0 = .ok (.aload_n 0, 1) := by decide +kernel
theorem dX6_at_1 : decode cX6_at 1 = .ok (.iload_n 1, 1) := by decide +kernel
theorem dX6_at_2 : decode cX6_at 2 = .ok (.iconst 0, 1) := by decide +kernel
theorem dX6_at_3 : decode cX6_at 3 = .ok (.iconst 0, 1) := by decide +kernel
theorem dX6_at_4 : decode cX6_at 4 = .ok (.invokevirtual 52, 3) := by decide +kernel
theorem dX6_at_7 : decode cX6_at 7 = .ok (.ifCond .eq 7, 3) := by decide +kernel
theorem dX6_at_10 : decode cX6_at 10 = .ok (.iconst 0, 1) := by decide +kernel
theorem dX6_at_11 : decode cX6_at 11 = .ok (.goto 9, 3) := by decide +kernel
theorem dX6_at_14 : decode cX6_at 14 = .ok (.aload_n 0, 1) := by decide +kernel
theorem dX6_at_15 : decode cX6_at 15 = .ok (.getfield 9, 3) := by decide +kernel
theorem dX6_at_18 : decode cX6_at 18 = .ok (.iload_n 1, 1) := by decide +kernel
theorem dX6_at_19 : decode cX6_at 19 = .ok (.iaload, 1) := by decide +kernel
theorem dX6_at_20 : decode cX6_at 20 = .ok (.ireturn, 1) := by decide +kernel
set_option maxRecDepth 20000 in
theorem ggX6_trace_X6_areNone : GoodIn wsX6_trace wsX6_areNone := goodIn_r _ [6, 7, 8, 9, 5, 10, 11, 12, 13, 14, 24, 25, 26, 27, 28, 29, 30, 31] (by decide +kernel) (by decide +kernel)
set_option maxRecDepth 20000 in
theorem gX6_trace_X6_areNone : GoodIn wsX6_trace (wsV RX6 52 RX6 yX6_areNone wsX6_areNone) := goodIn_app (goodIn_of _ (by decide +kernel)) ggX6_trace_X6_areNone
set_option maxRecDepth 20000 in
theorem ggX6_trace_X6_traceOf : GoodIn wsX6_trace wsX6_traceOf := goodIn_ca (goodIn_r _ [17, 18, 19, 5, 20, 21, 22, 23] (by decide +kernel) (by decide +kernel)) (goodIn_sub (fun _ h => List.mem_cons_of_mem _ (List.mem_append_right _ h)) (by decide +kernel))
set_option maxRecDepth 20000 in
theorem gX6_trace_X6_traceOf : GoodIn wsX6_trace (va_wsS RX6 73 yX6_traceOf wsX6_traceOf) := goodIn_app (goodIn_of _ (by decide +kernel)) ggX6_trace_X6_traceOf
theorem dX6_trace_0 : decode cX6_trace 0 = .ok (.aload_n 0, 1) := by decide +kernel
theorem dX6_trace_1 : decode cX6_trace 1 = .ok (.iload_n 1, 1) := by decide +kernel
theorem dX6_trace_2 : decode cX6_trace 2 = .ok (.iconst 0, 1) := by decide +kernel
theorem dX6_trace_3 : decode cX6_trace 3 = .ok (.iconst 0, 1) := by decide +kernel
theorem dX6_trace_4 : decode cX6_trace 4 = .ok (.invokevirtual 52, 3) := by decide +kernel
theorem dX6_trace_7 : decode cX6_trace 7 = .ok (.ifCond .eq 7, 3) := by decide +kernel
theorem dX6_trace_10 : decode cX6_trace 10 = .ok (.iconst 0, 1) := by decide +kernel
theorem dX6_trace_11 : decode cX6_trace 11 = .ok (.goto 12, 3) := by decide +kernel
theorem dX6_trace_14 : decode cX6_trace 14 = .ok (.aload_n 0, 1) := by decide +kernel
theorem dX6_trace_15 : decode cX6_trace 15 = .ok (.getfield 9, 3) := by decide +kernel
theorem dX6_trace_18 : decode cX6_trace 18 = .ok (.iload_n 1, 1) := by decide +kernel
theorem dX6_trace_19 : decode cX6_trace 19 = .ok (.iaload, 1) := by decide +kernel
theorem dX6_trace_20 : decode cX6_trace 20 = .ok (.invokestatic 73, 3) := by decide +kernel
theorem dX6_trace_23 : decode cX6_trace 23 = .ok (.ireturn, 1) := by decide +kernel
set_option maxRecDepth 20000 in
theorem ggX6_order_X6_areNone : GoodIn wsX6_order wsX6_areNone := goodIn_r _ [6, 7, 8, 9, 5, 10, 11, 12, 13, 14, 21, 22, 23, 24, 25, 26, 27, 28] (by decide +kernel) (by decide +kernel)
set_option maxRecDepth 20000 in
theorem gX6_order_X6_areNone : GoodIn wsX6_order (wsV RX6 52 RX6 yX6_areNone wsX6_areNone) := goodIn_app (goodIn_of _ (by decide +kernel)) ggX6_order_X6_areNone
set_option maxRecDepth 20000 in
theorem ggX6_order_X6_fails : GoodIn wsX6_order wsX6_fails := goodIn_r _ [14, 7, 21, 22, 23, 24, 25, 26, 27, 28] (by decide +kernel) (by decide +kernel)
set_option maxRecDepth 20000 in
theorem gX6_order_X6_fails : GoodIn wsX6_order (wsV RX6 34 RX6 yX6_fails wsX6_fails) := goodIn_app (goodIn_of _ (by decide +kernel)) ggX6_order_X6_fails
set_option maxRecDepth 20000 in
theorem ggX6_order_X6_productOf : GoodIn wsX6_order wsX6_productOf := goodIn_ca (goodIn_r _ [17, 15, 16, 5, 18, 19, 20] (by decide +kernel) (by decide +kernel)) (goodIn_sub (fun _ h => List.mem_cons_of_mem _ (List.mem_append_right _ h)) (by decide +kernel))
set_option maxRecDepth 20000 in
theorem gX6_order_X6_productOf : GoodIn wsX6_order (va_wsS RX6 38 yX6_productOf wsX6_productOf) := goodIn_app (goodIn_of _ (by decide +kernel)) ggX6_order_X6_productOf
theorem dX6_order_0 : decode cX6_order 0 = .ok (.aload_n 0, 1) := by decide +kernel
theorem dX6_order_1 : decode cX6_order 1 = .ok (.iload_n 1, 1) := by decide +kernel
theorem dX6_order_2 : decode cX6_order 2 = .ok (.iconst 0, 1) := by decide +kernel
theorem dX6_order_3 : decode cX6_order 3 = .ok (.iconst 0, 1) := by decide +kernel
theorem dX6_order_4 : decode cX6_order 4 = .ok (.invokevirtual 52, 3) := by decide +kernel
theorem dX6_order_7 : decode cX6_order 7 = .ok (.ifCond .ne 25, 3) := by decide +kernel
theorem dX6_order_10 : decode cX6_order 10 = .ok (.aload_n 0, 1) := by decide +kernel
theorem dX6_order_11 : decode cX6_order 11 = .ok (.aload_n 0, 1) := by decide +kernel
theorem dX6_order_12 : decode cX6_order 12 = .ok (.getfield 9, 3) := by decide +kernel
theorem dX6_order_15 : decode cX6_order 15 = .ok (.iload_n 1, 1) := by decide +kernel
theorem dX6_order_16 : decode cX6_order 16 = .ok (.iaload, 1) := by decide +kernel
theorem dX6_order_17 : decode cX6_order 17 = .ok (.ifCond .ne 7, 3) := by decide +kernel
theorem dX6_order_20 : decode cX6_order 20 = .ok (.iconst 1, 1) := by decide +kernel
theorem dX6_order_21 : decode cX6_order 21 = .ok (.goto 4, 3) := by decide +kernel
theorem dX6_order_24 : decode cX6_order 24 = .ok (.iconst 0, 1) := by decide +kernel
theorem dX6_order_25 : decode cX6_order 25 = .ok (.iconst 2, 1) := by decide +kernel
theorem dX6_order_26 : decode cX6_order 26 = .ok (.invokevirtual 34, 3) := by decide +kernel
theorem dX6_order_29 : decode cX6_order 29 = .ok (.ifCond .eq 5, 3) := by decide +kernel
theorem dX6_order_32 : decode cX6_order 32 = .ok (.iconst 0, 1) := by decide +kernel
theorem dX6_order_33 : decode cX6_order 33 = .ok (.ireturn, 1) := by decide +kernel
theorem dX6_order_34 : decode cX6_order 34 = .ok (.iconst 1, 1) := by decide +kernel
theorem dX6_order_35 : decode cX6_order 35 = .ok (.istore_n 2, 1) := by decide +kernel
theorem dX6_order_36 : decode cX6_order 36 = .ok (.aload_n 0, 1) := by decide +kernel
theorem dX6_order_37 : decode cX6_order 37 = .ok (.getfield 9, 3) := by decide +kernel
theorem dX6_order_40 : decode cX6_order 40 = .ok (.iload_n 1, 1) := by decide +kernel
theorem dX6_order_41 : decode cX6_order 41 = .ok (.iaload, 1) := by decide +kernel
theorem dX6_order_42 : decode cX6_order 42 = .ok (.istore_n 3, 1) := by decide +kernel
theorem dX6_order_43 : decode cX6_order 43 = .ok (.iload_n 3, 1) := by decide +kernel
theorem dX6_order_44 : decode cX6_order 44 = .ok (.iconst 1, 1) := by decide +kernel
theorem dX6_order_45 : decode cX6_order 45 = .ok (.if_icmp .eq 20, 3) := by decide +kernel
theorem dX6_order_48 : decode cX6_order 48 = .ok (.iload_n 3, 1) := by decide +kernel
theorem dX6_order_49 : decode cX6_order 49 = .ok (.aload_n 0, 1) := by decide +kernel
theorem dX6_order_50 : decode cX6_order 50 = .ok (.getfield 9, 3) := by decide +kernel
theorem dX6_order_53 : decode cX6_order 53 = .ok (.iload_n 1, 1) := by decide +kernel
theorem dX6_order_54 : decode cX6_order 54 = .ok (.iaload, 1) := by decide +kernel
theorem dX6_order_55 : decode cX6_order 55 = .ok (.invokestatic 38, 3) := by decide +kernel
theorem dX6_order_58 : decode cX6_order 58 = .ok (.istore_n 3, 1) := by decide +kernel
theorem dX6_order_59 : decode cX6_order 59 = .ok (.iinc 2 1, 3) := by decide +kernel
theorem dX6_order_62 : decode cX6_order 62 = .ok (.goto (-19), 3) := by decide +kernel
theorem dX6_order_65 : decode cX6_order 65 = .ok (.iload_n 2, 1) := by decide +kernel
theorem dX6_order_66 : decode cX6_order 66 = .ok (.ireturn, 1) := by decide +kernel
set_option maxRecDepth 20000 in
theorem ggX6_field_X6_areNone : GoodIn wsX6_field wsX6_areNone := goodIn_r _ [6, 7, 8, 9, 5, 10, 11, 12, 13, 14, 15, 16, 17, 18, 19, 20, 21, 22] (by decide +kernel) (by decide +kernel)
set_option maxRecDepth 20000 in
theorem gX6_field_X6_areNone : GoodIn wsX6_field (wsV RX6 52 RX6 yX6_areNone wsX6_areNone) := goodIn_app (goodIn_of _ (by decide +kernel)) ggX6_field_X6_areNone
theorem dX6_field_0 : decode cX6_field 0 = .ok (.aload_n 0, 1) := by decide +kernel
theorem dX6_field_1 : decode cX6_field 1 = .ok (.iload_n 1, 1) := by decide +kernel
theorem dX6_field_2 : decode cX6_field 2 = .ok (.iconst 0, 1) := by decide +kernel
theorem dX6_field_3 : decode cX6_field 3 = .ok (.iconst 0, 1) := by decide +kernel
theorem dX6_field_4 : decode cX6_field 4 = .ok (.invokevirtual 52, 3) := by decide +kernel
theorem dX6_field_7 : decode cX6_field 7 = .ok (.ifCond .eq 5, 3) := by decide +kernel
theorem dX6_field_10 : decode cX6_field 10 = .ok (.iconst 0, 1) := by decide +kernel
theorem dX6_field_11 : decode cX6_field 11 = .ok (.ireturn, 1) := by decide +kernel
theorem dX6_field_12 : decode cX6_field 12 = .ok (.aload_n 0, 1) := by decide +kernel
theorem dX6_field_13 : decode cX6_field 13 = .ok (.getfield 9, 3) := by decide +kernel
theorem dX6_field_16 : decode cX6_field 16 = .ok (.iload_n 1, 1) := by decide +kernel
theorem dX6_field_17 : decode cX6_field 17 = .ok (.iaload, 1) := by decide +kernel
theorem dX6_field_18 : decode cX6_field 18 = .ok (.istore_n 2, 1) := by decide +kernel
theorem dX6_field_19 : decode cX6_field 19 = .ok (.iload_n 2, 1) := by decide +kernel
theorem dX6_field_20 : decode cX6_field 20 = .ok (.iconst 2, 1) := by decide +kernel
theorem dX6_field_21 : decode cX6_field 21 = .ok (.if_icmp .ge 7, 3) := by decide +kernel
theorem dX6_field_24 : decode cX6_field 24 = .ok (.iconst 2, 1) := by decide +kernel
theorem dX6_field_25 : decode cX6_field 25 = .ok (.goto 26, 3) := by decide +kernel
theorem dX6_field_28 : decode cX6_field 28 = .ok (.iload_n 2, 1) := by decide +kernel
theorem dX6_field_29 : decode cX6_field 29 = .ok (.iconst 4, 1) := by decide +kernel
theorem dX6_field_30 : decode cX6_field 30 = .ok (.if_icmp .ge 7, 3) := by decide +kernel
theorem dX6_field_33 : decode cX6_field 33 = .ok (.iconst 4, 1) := by decide +kernel
theorem dX6_field_34 : decode cX6_field 34 = .ok (.goto 17, 3) := by decide +kernel
theorem dX6_field_37 : decode cX6_field 37 = .ok (.iload_n 2, 1) := by decide +kernel
theorem dX6_field_38 : decode cX6_field 38 = .ok (.bipush 16, 2) := by decide +kernel
theorem dX6_field_40 : decode cX6_field 40 = .ok (.if_icmp .ge 8, 3) := by decide +kernel
theorem dX6_field_43 : decode cX6_field 43 = .ok (.bipush 16, 2) := by decide +kernel
theorem dX6_field_45 : decode cX6_field 45 = .ok (.goto 6, 3) := by decide +kernel
theorem dX6_field_48 : decode cX6_field 48 = .ok (.sipush 256, 3) := by decide +kernel
theorem dX6_field_51 : decode cX6_field 51 = .ok (.ireturn, 1) := by decide +kernel
set_option maxRecDepth 20000 in
theorem ggX6_squarings_X6_areNone : GoodIn wsX6_squarings wsX6_areNone := goodIn_r _ [6, 7, 8, 9, 5, 10, 11, 12, 13, 14, 21, 22, 23, 24, 25, 26, 27, 28] (by decide +kernel) (by decide +kernel)
set_option maxRecDepth 20000 in
theorem gX6_squarings_X6_areNone : GoodIn wsX6_squarings (wsV RX6 52 RX6 yX6_areNone wsX6_areNone) := goodIn_app (goodIn_of _ (by decide +kernel)) ggX6_squarings_X6_areNone
set_option maxRecDepth 20000 in
theorem ggX6_squarings_X6_productOf : GoodIn wsX6_squarings wsX6_productOf := goodIn_ca (goodIn_r _ [17, 15, 16, 5, 18, 19, 20] (by decide +kernel) (by decide +kernel)) (goodIn_sub (fun _ h => List.mem_cons_of_mem _ (List.mem_append_right _ h)) (by decide +kernel))
set_option maxRecDepth 20000 in
theorem gX6_squarings_X6_productOf : GoodIn wsX6_squarings (va_wsS RX6 38 yX6_productOf wsX6_productOf) := goodIn_app (goodIn_of _ (by decide +kernel)) ggX6_squarings_X6_productOf
theorem dX6_squarings_0 : decode cX6_squarings 0 = .ok (.aload_n 0, 1) := by decide +kernel
theorem dX6_squarings_1 : decode cX6_squarings 1 = .ok (.iload_n 1, 1) := by decide +kernel
theorem dX6_squarings_2 : decode cX6_squarings 2 = .ok (.iconst 0, 1) := by decide +kernel
theorem dX6_squarings_3 : decode cX6_squarings 3 = .ok (.iconst 0, 1) := by decide +kernel
theorem dX6_squarings_4 : decode cX6_squarings 4 = .ok (.invokevirtual 52, 3) := by decide +kernel
theorem dX6_squarings_7 : decode cX6_squarings 7 = .ok (.ifCond .eq 5, 3) := by decide +kernel
theorem dX6_squarings_10 : decode cX6_squarings 10 = .ok (.iconst 0, 1) := by decide +kernel
theorem dX6_squarings_11 : decode cX6_squarings 11 = .ok (.ireturn, 1) := by decide +kernel
theorem dX6_squarings_12 : decode cX6_squarings 12 = .ok (.iconst 1, 1) := by decide +kernel
theorem dX6_squarings_13 : decode cX6_squarings 13 = .ok (.istore_n 2, 1) := by decide +kernel
theorem dX6_squarings_14 : decode cX6_squarings 14 = .ok (.aload_n 0, 1) := by decide +kernel
theorem dX6_squarings_15 : decode cX6_squarings 15 = .ok (.getfield 9, 3) := by decide +kernel
theorem dX6_squarings_18 : decode cX6_squarings 18 = .ok (.iload_n 1, 1) := by decide +kernel
theorem dX6_squarings_19 : decode cX6_squarings 19 = .ok (.iaload, 1) := by decide +kernel
theorem dX6_squarings_20 : decode cX6_squarings 20 = .ok (.aload_n 0, 1) := by decide +kernel
theorem dX6_squarings_21 : decode cX6_squarings 21 = .ok (.getfield 9, 3) := by decide +kernel
theorem dX6_squarings_24 : decode cX6_squarings 24 = .ok (.iload_n 1, 1) := by decide +kernel
theorem dX6_squarings_25 : decode cX6_squarings 25 = .ok (.iaload, 1) := by decide +kernel
theorem dX6_squarings_26 : decode cX6_squarings 26 = .ok (.invokestatic 38, 3) := by decide +kernel
theorem dX6_squarings_29 : decode cX6_squarings 29 = .ok (.istore_n 3, 1) := by decide +kernel
theorem dX6_squarings_30 : decode cX6_squarings 30 = .ok (.iload_n 3, 1) := by decide +kernel
theorem dX6_squarings_31 : decode cX6_squarings 31 = .ok (.aload_n 0, 1) := by decide +kernel
theorem dX6_squarings_32 : decode cX6_squarings 32 = .ok (.getfield 9, 3) := by decide +kernel
theorem dX6_squarings_35 : decode cX6_squarings 35 = .ok (.iload_n 1, 1) := by decide +kernel
theorem dX6_squarings_36 : decode cX6_squarings 36 = .ok (.iaload, 1) := by decide +kernel
theorem dX6_squarings_37 : decode cX6_squarings 37 = .ok (.if_icmp .eq 15, 3) := by decide +kernel
theorem dX6_squarings_40 : decode cX6_squarings 40 = .ok (.iload_n 3, 1) := by decide +kernel
theorem dX6_squarings_41 : decode cX6_squarings 41 = .ok (.iload_n 3, 1) := by decide +kernel
theorem dX6_squarings_42 : decode cX6_squarings 42 = .ok (.invokestatic 38, 3) := by decide +kernel
theorem dX6_squarings_45 : decode cX6_squarings 45 = .ok (.istore_n 3, 1) := by decide +kernel
theorem dX6_squarings_46 : decode cX6_squarings 46 = .ok (.iinc 2 1, 3) := by decide +kernel
theorem dX6_squarings_49 : decode cX6_squarings 49 = .ok (.goto (-19), 3) := by decide +kernel
theorem dX6_squarings_52 : decode cX6_squarings 52 = .ok (.iload_n 2, 1) := by decide +kernel
theorem dX6_squarings_53 : decode cX6_squarings 53 = .ok (.ireturn, 1) := by decide +kernel
set_option maxRecDepth 20000 in
theorem ggX6_triedSum_X6_isNumber : GoodIn wsX6_triedSum wsX6_isNumber := goodIn_r _ [5] (by decide +kernel) (by decide +kernel)
set_option maxRecDepth 20000 in
theorem gX6_triedSum_X6_isNumber : GoodIn wsX6_triedSum (va_wsS RX6 56 yX6_isNumber wsX6_isNumber) := goodIn_app (goodIn_of _ (by decide +kernel)) ggX6_triedSum_X6_isNumber
set_option maxRecDepth 20000 in
theorem ggX6_triedSum_X6_fails : GoodIn wsX6_triedSum wsX6_fails := goodIn_r _ [9, 1, 20, 21, 22, 23, 24, 25, 26, 27] (by decide +kernel) (by decide +kernel)
set_option maxRecDepth 20000 in
theorem gX6_triedSum_X6_fails : GoodIn wsX6_triedSum (wsV RX6 34 RX6 yX6_fails wsX6_fails) := goodIn_app (goodIn_of _ (by decide +kernel)) ggX6_triedSum_X6_fails
set_option maxRecDepth 20000 in
theorem ggX6_triedSum_X6_triedSumOf : GoodIn wsX6_triedSum wsX6_triedSumOf := goodIn_ca (goodIn_ca (goodIn_r _ [12, 13, 14, 15, 4, 16, 17, 18, 19] (by decide +kernel) (by decide +kernel)) (goodIn_sub (fun _ h => List.mem_cons_of_mem _ (List.mem_append_left _ (List.mem_append_right _ h))) (by decide +kernel))) (goodIn_sub (fun _ h => List.mem_cons_of_mem _ (List.mem_append_right _ h)) (by decide +kernel))
set_option maxRecDepth 20000 in
theorem gX6_triedSum_X6_triedSumOf : GoodIn wsX6_triedSum (va_wsS RX6 76 yX6_triedSumOf wsX6_triedSumOf) := goodIn_app (goodIn_of _ (by decide +kernel)) ggX6_triedSum_X6_triedSumOf
theorem dX6_triedSum_0 : decode cX6_triedSum 0 = .ok (.aload_n 0, 1) := by decide +kernel
theorem dX6_triedSum_1 : decode cX6_triedSum 1 = .ok (.iconst 0, 1) := by decide +kernel
theorem dX6_triedSum_2 : decode cX6_triedSum 2 = .ok (.putfield 26, 3) := by decide +kernel
theorem dX6_triedSum_5 : decode cX6_triedSum 5 = .ok (.aload_n 0, 1) := by decide +kernel
theorem dX6_triedSum_6 : decode cX6_triedSum 6 = .ok (.iload_n 1, 1) := by decide +kernel
theorem dX6_triedSum_7 : decode cX6_triedSum 7 = .ok (.sipush 256, 3) := by decide +kernel
theorem dX6_triedSum_10 : decode cX6_triedSum 10 = .ok (.invokestatic 56, 3) := by decide +kernel
theorem dX6_triedSum_13 : decode cX6_triedSum 13 = .ok (.ifCond .eq 13, 3) := by decide +kernel
theorem dX6_triedSum_16 : decode cX6_triedSum 16 = .ok (.iload_n 2, 1) := by decide +kernel
theorem dX6_triedSum_17 : decode cX6_triedSum 17 = .ok (.sipush 256, 3) := by decide +kernel
theorem dX6_triedSum_20 : decode cX6_triedSum 20 = .ok (.invokestatic 56, 3) := by decide +kernel
theorem dX6_triedSum_23 : decode cX6_triedSum 23 = .ok (.ifCond .ne 7, 3) := by decide +kernel
theorem dX6_triedSum_26 : decode cX6_triedSum 26 = .ok (.iconst 1, 1) := by decide +kernel
theorem dX6_triedSum_27 : decode cX6_triedSum 27 = .ok (.goto 4, 3) := by decide +kernel
theorem dX6_triedSum_30 : decode cX6_triedSum 30 = .ok (.iconst 0, 1) := by decide +kernel
theorem dX6_triedSum_31 : decode cX6_triedSum 31 = .ok (.iconst 1, 1) := by decide +kernel
theorem dX6_triedSum_32 : decode cX6_triedSum 32 = .ok (.invokevirtual 34, 3) := by decide +kernel
theorem dX6_triedSum_35 : decode cX6_triedSum 35 = .ok (.ifCond .eq 7, 3) := by decide +kernel
theorem dX6_triedSum_38 : decode cX6_triedSum 38 = .ok (.iconst 0, 1) := by decide +kernel
theorem dX6_triedSum_39 : decode cX6_triedSum 39 = .ok (.goto 8, 3) := by decide +kernel
theorem dX6_triedSum_42 : decode cX6_triedSum 42 = .ok (.iload_n 1, 1) := by decide +kernel
theorem dX6_triedSum_43 : decode cX6_triedSum 43 = .ok (.iload_n 2, 1) := by decide +kernel
theorem dX6_triedSum_44 : decode cX6_triedSum 44 = .ok (.invokestatic 76, 3) := by decide +kernel
theorem dX6_triedSum_47 : decode cX6_triedSum 47 = .ok (.ireturn, 1) := by decide +kernel
set_option maxRecDepth 20000 in
theorem ggX6_triedProduct_X6_isNumber : GoodIn wsX6_triedProduct wsX6_isNumber := goodIn_r _ [5] (by decide +kernel) (by decide +kernel)
set_option maxRecDepth 20000 in
theorem gX6_triedProduct_X6_isNumber : GoodIn wsX6_triedProduct (va_wsS RX6 56 yX6_isNumber wsX6_isNumber) := goodIn_app (goodIn_of _ (by decide +kernel)) ggX6_triedProduct_X6_isNumber
set_option maxRecDepth 20000 in
theorem ggX6_triedProduct_X6_fails : GoodIn wsX6_triedProduct wsX6_fails := goodIn_r _ [9, 1, 23, 24, 25, 26, 27, 28, 29, 30] (by decide +kernel) (by decide +kernel)
set_option maxRecDepth 20000 in
theorem gX6_triedProduct_X6_fails : GoodIn wsX6_triedProduct (wsV RX6 34 RX6 yX6_fails wsX6_fails) := goodIn_app (goodIn_of _ (by decide +kernel)) ggX6_triedProduct_X6_fails
set_option maxRecDepth 20000 in
theorem ggX6_triedProduct_X6_triedProductOf : GoodIn wsX6_triedProduct wsX6_triedProductOf := goodIn_ca (goodIn_ca (goodIn_r _ [12, 13, 14, 15, 4, 16, 17, 18, 19, 20, 21, 22] (by decide +kernel) (by decide +kernel)) (goodIn_sub (fun _ h => List.mem_cons_of_mem _ (List.mem_append_left _ (List.mem_append_right _ h))) (by decide +kernel))) (goodIn_sub (fun _ h => List.mem_cons_of_mem _ (List.mem_append_right _ h)) (by decide +kernel))
set_option maxRecDepth 20000 in
theorem gX6_triedProduct_X6_triedProductOf : GoodIn wsX6_triedProduct (va_wsS RX6 79 yX6_triedProductOf wsX6_triedProductOf) := goodIn_app (goodIn_of _ (by decide +kernel)) ggX6_triedProduct_X6_triedProductOf
theorem dX6_triedProduct_0 : decode cX6_triedProduct 0 = .ok (.aload_n 0, 1) := by decide +kernel
theorem dX6_triedProduct_1 : decode cX6_triedProduct 1 = .ok (.iconst 0, 1) := by decide +kernel
theorem dX6_triedProduct_2 : decode cX6_triedProduct 2 = .ok (.putfield 26, 3) := by decide +kernel
theorem dX6_triedProduct_5 : decode cX6_triedProduct 5 = .ok (.aload_n 0, 1) := by decide +kernel
theorem dX6_triedProduct_6 : decode cX6_triedProduct 6 = .ok (.iload_n 1, 1) := by decide +kernel
theorem dX6_triedProduct_7 : decode cX6_triedProduct 7 = .ok (.bipush 16, 2) := by decide +kernel
theorem dX6_triedProduct_9 : decode cX6_triedProduct 9 = .ok (.invokestatic 56, 3) := by decide +kernel
theorem dX6_triedProduct_12 : decode cX6_triedProduct 12 = .ok (.ifCond .eq 12, 3) := by decide +kernel
theorem dX6_triedProduct_15 : decode cX6_triedProduct 15 = .ok (.iload_n 2, 1) := by decide +kernel
theorem dX6_triedProduct_16 : decode cX6_triedProduct 16 = .ok (.bipush 16, 2) := by decide +kernel
theorem dX6_triedProduct_18 : decode cX6_triedProduct 18 = .ok (.invokestatic 56, 3) := by decide +kernel
theorem dX6_triedProduct_21 : decode cX6_triedProduct 21 = .ok (.ifCond .ne 7, 3) := by decide +kernel
theorem dX6_triedProduct_24 : decode cX6_triedProduct 24 = .ok (.iconst 1, 1) := by decide +kernel
theorem dX6_triedProduct_25 : decode cX6_triedProduct 25 = .ok (.goto 4, 3) := by decide +kernel
theorem dX6_triedProduct_28 : decode cX6_triedProduct 28 = .ok (.iconst 0, 1) := by decide +kernel
theorem dX6_triedProduct_29 : decode cX6_triedProduct 29 = .ok (.iconst 1, 1) := by decide +kernel
theorem dX6_triedProduct_30 : decode cX6_triedProduct 30 = .ok (.invokevirtual 34, 3) := by decide +kernel
theorem dX6_triedProduct_33 : decode cX6_triedProduct 33 = .ok (.ifCond .eq 7, 3) := by decide +kernel
theorem dX6_triedProduct_36 : decode cX6_triedProduct 36 = .ok (.iconst 0, 1) := by decide +kernel
theorem dX6_triedProduct_37 : decode cX6_triedProduct 37 = .ok (.goto 8, 3) := by decide +kernel
theorem dX6_triedProduct_40 : decode cX6_triedProduct 40 = .ok (.iload_n 1, 1) := by decide +kernel
theorem dX6_triedProduct_41 : decode cX6_triedProduct 41 = .ok (.iload_n 2, 1) := by decide +kernel
theorem dX6_triedProduct_42 : decode cX6_triedProduct 42 = .ok (.invokestatic 79, 3) := by decide +kernel
theorem dX6_triedProduct_45 : decode cX6_triedProduct 45 = .ok (.ireturn, 1) := by decide +kernel
set_option maxRecDepth 20000 in
theorem ggX6_times_X6_isNumber : GoodIn wsX6_times wsX6_isNumber := goodIn_r _ [5] (by decide +kernel) (by decide +kernel)
set_option maxRecDepth 20000 in
theorem gX6_times_X6_isNumber : GoodIn wsX6_times (va_wsS RX6 56 yX6_isNumber wsX6_isNumber) := goodIn_app (goodIn_of _ (by decide +kernel)) ggX6_times_X6_isNumber
set_option maxRecDepth 20000 in
theorem ggX6_times_X6_fails : GoodIn wsX6_times wsX6_fails := goodIn_r _ [9, 1, 16, 17, 18, 19, 20, 21, 22, 23] (by decide +kernel) (by decide +kernel)
set_option maxRecDepth 20000 in
theorem gX6_times_X6_fails : GoodIn wsX6_times (wsV RX6 34 RX6 yX6_fails wsX6_fails) := goodIn_app (goodIn_of _ (by decide +kernel)) ggX6_times_X6_fails
set_option maxRecDepth 20000 in
theorem ggX6_times_X6_productOf : GoodIn wsX6_times wsX6_productOf := goodIn_ca (goodIn_r _ [12, 10, 11, 4, 13, 14, 15] (by decide +kernel) (by decide +kernel)) (goodIn_sub (fun _ h => List.mem_cons_of_mem _ (List.mem_append_right _ h)) (by decide +kernel))
set_option maxRecDepth 20000 in
theorem gX6_times_X6_productOf : GoodIn wsX6_times (va_wsS RX6 38 yX6_productOf wsX6_productOf) := goodIn_app (goodIn_of _ (by decide +kernel)) ggX6_times_X6_productOf
theorem dX6_times_0 : decode cX6_times 0 = .ok (.aload_n 0, 1) := by decide +kernel
theorem dX6_times_1 : decode cX6_times 1 = .ok (.iconst 0, 1) := by decide +kernel
theorem dX6_times_2 : decode cX6_times 2 = .ok (.putfield 26, 3) := by decide +kernel
theorem dX6_times_5 : decode cX6_times 5 = .ok (.aload_n 0, 1) := by decide +kernel
theorem dX6_times_6 : decode cX6_times 6 = .ok (.iload_n 1, 1) := by decide +kernel
theorem dX6_times_7 : decode cX6_times 7 = .ok (.sipush 256, 3) := by decide +kernel
theorem dX6_times_10 : decode cX6_times 10 = .ok (.invokestatic 56, 3) := by decide +kernel
theorem dX6_times_13 : decode cX6_times 13 = .ok (.ifCond .eq 13, 3) := by decide +kernel
theorem dX6_times_16 : decode cX6_times 16 = .ok (.iload_n 2, 1) := by decide +kernel
theorem dX6_times_17 : decode cX6_times 17 = .ok (.sipush 256, 3) := by decide +kernel
theorem dX6_times_20 : decode cX6_times 20 = .ok (.invokestatic 56, 3) := by decide +kernel
theorem dX6_times_23 : decode cX6_times 23 = .ok (.ifCond .ne 7, 3) := by decide +kernel
theorem dX6_times_26 : decode cX6_times 26 = .ok (.iconst 1, 1) := by decide +kernel
theorem dX6_times_27 : decode cX6_times 27 = .ok (.goto 4, 3) := by decide +kernel
theorem dX6_times_30 : decode cX6_times 30 = .ok (.iconst 0, 1) := by decide +kernel
theorem dX6_times_31 : decode cX6_times 31 = .ok (.iconst 1, 1) := by decide +kernel
theorem dX6_times_32 : decode cX6_times 32 = .ok (.invokevirtual 34, 3) := by decide +kernel
theorem dX6_times_35 : decode cX6_times 35 = .ok (.ifCond .eq 7, 3) := by decide +kernel
theorem dX6_times_38 : decode cX6_times 38 = .ok (.iconst 0, 1) := by decide +kernel
theorem dX6_times_39 : decode cX6_times 39 = .ok (.goto 8, 3) := by decide +kernel
theorem dX6_times_42 : decode cX6_times 42 = .ok (.iload_n 1, 1) := by decide +kernel
theorem dX6_times_43 : decode cX6_times 43 = .ok (.iload_n 2, 1) := by decide +kernel
theorem dX6_times_44 : decode cX6_times 44 = .ok (.invokestatic 38, 3) := by decide +kernel
theorem dX6_times_47 : decode cX6_times 47 = .ok (.ireturn, 1) := by decide +kernel
set_option maxRecDepth 20000 in
theorem ggX6_isField_X6_fails : GoodIn wsX6_isField wsX6_fails := goodIn_r _ [6, 1, 13, 14, 15, 16, 17, 18, 19, 20] (by decide +kernel) (by decide +kernel)
set_option maxRecDepth 20000 in
theorem gX6_isField_X6_fails : GoodIn wsX6_isField (wsV RX6 34 RX6 yX6_fails wsX6_fails) := goodIn_app (goodIn_of _ (by decide +kernel)) ggX6_isField_X6_fails
set_option maxRecDepth 20000 in
theorem ggX6_isField_X6_sumOf : GoodIn wsX6_isField wsX6_sumOf := goodIn_ca (goodIn_r _ [9] (by decide +kernel) (by decide +kernel)) (goodIn_sub (fun _ h => List.mem_cons_of_mem _ (List.mem_append_right _ h)) (by decide +kernel))
set_option maxRecDepth 20000 in
theorem gX6_isField_X6_sumOf : GoodIn wsX6_isField (va_wsS RX6 42 yX6_sumOf wsX6_sumOf) := goodIn_app (goodIn_of _ (by decide +kernel)) ggX6_isField_X6_sumOf
set_option maxRecDepth 20000 in
theorem ggX6_isField_X6_productOf : GoodIn wsX6_isField wsX6_productOf := goodIn_ca (goodIn_r _ [12, 10, 11, 5, 7, 8, 9] (by decide +kernel) (by decide +kernel)) (goodIn_sub (fun _ h => List.mem_cons_of_mem _ (List.mem_append_right _ h)) (by decide +kernel))
set_option maxRecDepth 20000 in
theorem gX6_isField_X6_productOf : GoodIn wsX6_isField (va_wsS RX6 38 yX6_productOf wsX6_productOf) := goodIn_app (goodIn_of _ (by decide +kernel)) ggX6_isField_X6_productOf
theorem dX6_isField_0 : decode cX6_isField 0 = .ok (.aload_n 0, 1) := by decide +kernel
theorem dX6_isField_1 : decode cX6_isField 1 = .ok (.iconst 0, 1) := by decide +kernel
theorem dX6_isField_2 : decode cX6_isField 2 = .ok (.putfield 26, 3) := by decide +kernel
theorem dX6_isField_5 : decode cX6_isField 5 = .ok (.aload_n 0, 1) := by decide +kernel
theorem dX6_isField_6 : decode cX6_isField 6 = .ok (.iload_n 1, 1) := by decide +kernel
theorem dX6_isField_7 : decode cX6_isField 7 = .ok (.iconst 1, 1) := by decide +kernel
theorem dX6_isField_8 : decode cX6_isField 8 = .ok (.if_icmp .lt 9, 3) := by decide +kernel
theorem dX6_isField_11 : decode cX6_isField 11 = .ok (.iload_n 1, 1) := by decide +kernel
theorem dX6_isField_12 : decode cX6_isField 12 = .ok (.bipush 16, 2) := by decide +kernel
theorem dX6_isField_14 : decode cX6_isField 14 = .ok (.if_icmp .le 7, 3) := by decide +kernel
theorem dX6_isField_17 : decode cX6_isField 17 = .ok (.iconst 1, 1) := by decide +kernel
theorem dX6_isField_18 : decode cX6_isField 18 = .ok (.goto 4, 3) := by decide +kernel
theorem dX6_isField_21 : decode cX6_isField 21 = .ok (.iconst 0, 1) := by decide +kernel
theorem dX6_isField_22 : decode cX6_isField 22 = .ok (.iconst 1, 1) := by decide +kernel
theorem dX6_isField_23 : decode cX6_isField 23 = .ok (.invokevirtual 34, 3) := by decide +kernel
theorem dX6_isField_26 : decode cX6_isField 26 = .ok (.ifCond .eq 5, 3) := by decide +kernel
theorem dX6_isField_29 : decode cX6_isField 29 = .ok (.iconst 0, 1) := by decide +kernel
theorem dX6_isField_30 : decode cX6_isField 30 = .ok (.ireturn, 1) := by decide +kernel
theorem dX6_isField_31 : decode cX6_isField 31 = .ok (.iload_n 1, 1) := by decide +kernel
theorem dX6_isField_32 : decode cX6_isField 32 = .ok (.iconst 1, 1) := by decide +kernel
theorem dX6_isField_33 : decode cX6_isField 33 = .ok (.if_icmp .le 7, 3) := by decide +kernel
theorem dX6_isField_36 : decode cX6_isField 36 = .ok (.iconst 1, 1) := by decide +kernel
theorem dX6_isField_37 : decode cX6_isField 37 = .ok (.goto 4, 3) := by decide +kernel
theorem dX6_isField_40 : decode cX6_isField 40 = .ok (.iconst 0, 1) := by decide +kernel
theorem dX6_isField_41 : decode cX6_isField 41 = .ok (.istore_n 2, 1) := by decide +kernel
theorem dX6_isField_42 : decode cX6_isField 42 = .ok (.iconst 0, 1) := by decide +kernel
theorem dX6_isField_43 : decode cX6_isField 43 = .ok (.istore_n 3, 1) := by decide +kernel
theorem dX6_isField_44 : decode cX6_isField 44 = .ok (.iload_n 3, 1) := by decide +kernel
theorem dX6_isField_45 : decode cX6_isField 45 = .ok (.iload_n 1, 1) := by decide +kernel
theorem dX6_isField_46 : decode cX6_isField 46 = .ok (.if_icmp .ge 102, 3) := by decide +kernel
theorem dX6_isField_49 : decode cX6_isField 49 = .ok (.iload_n 3, 1) := by decide +kernel
theorem dX6_isField_50 : decode cX6_isField 50 = .ok (.ifCond .ne 7, 3) := by decide +kernel
theorem dX6_isField_53 : decode cX6_isField 53 = .ok (.iconst 1, 1) := by decide +kernel
theorem dX6_isField_54 : decode cX6_isField 54 = .ok (.goto 4, 3) := by decide +kernel
theorem dX6_isField_57 : decode cX6_isField 57 = .ok (.iconst 0, 1) := by decide +kernel
theorem dX6_isField_58 : decode cX6_isField 58 = .ok (.istore 4, 2) := by decide +kernel
theorem dX6_isField_60 : decode cX6_isField 60 = .ok (.iconst 0, 1) := by decide +kernel
theorem dX6_isField_61 : decode cX6_isField 61 = .ok (.istore 5, 2) := by decide +kernel
theorem dX6_isField_63 : decode cX6_isField 63 = .ok (.iload 5, 2) := by decide +kernel
theorem dX6_isField_65 : decode cX6_isField 65 = .ok (.iload_n 1, 1) := by decide +kernel
theorem dX6_isField_66 : decode cX6_isField 66 = .ok (.if_icmp .ge 61, 3) := by decide +kernel
theorem dX6_isField_69 : decode cX6_isField 69 = .ok (.iload_n 2, 1) := by decide +kernel
theorem dX6_isField_70 : decode cX6_isField 70 = .ok (.ifCond .eq 27, 3) := by decide +kernel
theorem dX6_isField_73 : decode cX6_isField 73 = .ok (.iload_n 3, 1) := by decide +kernel
theorem dX6_isField_74 : decode cX6_isField 74 = .ok (.iload 5, 2) := by decide +kernel
theorem dX6_isField_76 : decode cX6_isField 76 = .ok (.invokestatic 42, 3) := by decide +kernel
theorem dX6_isField_79 : decode cX6_isField 79 = .ok (.iload_n 1, 1) := by decide +kernel
theorem dX6_isField_80 : decode cX6_isField 80 = .ok (.if_icmp .ge 17, 3) := by decide +kernel
theorem dX6_isField_83 : decode cX6_isField 83 = .ok (.iload_n 3, 1) := by decide +kernel
theorem dX6_isField_84 : decode cX6_isField 84 = .ok (.iload 5, 2) := by decide +kernel
theorem dX6_isField_86 : decode cX6_isField 86 = .ok (.invokestatic 38, 3) := by decide +kernel
theorem dX6_isField_89 : decode cX6_isField 89 = .ok (.iload_n 1, 1) := by decide +kernel
theorem dX6_isField_90 : decode cX6_isField 90 = .ok (.if_icmp .ge 7, 3) := by decide +kernel
theorem dX6_isField_93 : decode cX6_isField 93 = .ok (.iconst 1, 1) := by decide +kernel
theorem dX6_isField_94 : decode cX6_isField 94 = .ok (.goto 4, 3) := by decide +kernel
theorem dX6_isField_97 : decode cX6_isField 97 = .ok (.iconst 0, 1) := by decide +kernel
theorem dX6_isField_98 : decode cX6_isField 98 = .ok (.istore_n 2, 1) := by decide +kernel
theorem dX6_isField_99 : decode cX6_isField 99 = .ok (.iload 4, 2) := by decide +kernel
theorem dX6_isField_101 : decode cX6_isField 101 = .ok (.ifCond .ne 13, 3) := by decide +kernel
theorem dX6_isField_104 : decode cX6_isField 104 = .ok (.iload_n 3, 1) := by decide +kernel
theorem dX6_isField_105 : decode cX6_isField 105 = .ok (.iload 5, 2) := by decide +kernel
theorem dX6_isField_107 : decode cX6_isField 107 = .ok (.invokestatic 38, 3) := by decide +kernel
theorem dX6_isField_110 : decode cX6_isField 110 = .ok (.iconst 1, 1) := by decide +kernel
theorem dX6_isField_111 : decode cX6_isField 111 = .ok (.if_icmp .ne 7, 3) := by decide +kernel
theorem dX6_isField_114 : decode cX6_isField 114 = .ok (.iconst 1, 1) := by decide +kernel
theorem dX6_isField_115 : decode cX6_isField 115 = .ok (.goto 4, 3) := by decide +kernel
theorem dX6_isField_118 : decode cX6_isField 118 = .ok (.iconst 0, 1) := by decide +kernel
theorem dX6_isField_119 : decode cX6_isField 119 = .ok (.istore 4, 2) := by decide +kernel
theorem dX6_isField_121 : decode cX6_isField 121 = .ok (.iinc 5 1, 3) := by decide +kernel
theorem dX6_isField_124 : decode cX6_isField 124 = .ok (.goto (-61), 3) := by decide +kernel
theorem dX6_isField_127 : decode cX6_isField 127 = .ok (.iload_n 2, 1) := by decide +kernel
theorem dX6_isField_128 : decode cX6_isField 128 = .ok (.ifCond .eq 12, 3) := by decide +kernel
theorem dX6_isField_131 : decode cX6_isField 131 = .ok (.iload 4, 2) := by decide +kernel
theorem dX6_isField_133 : decode cX6_isField 133 = .ok (.ifCond .eq 7, 3) := by decide +kernel
theorem dX6_isField_136 : decode cX6_isField 136 = .ok (.iconst 1, 1) := by decide +kernel
theorem dX6_isField_137 : decode cX6_isField 137 = .ok (.goto 4, 3) := by decide +kernel
theorem dX6_isField_140 : decode cX6_isField 140 = .ok (.iconst 0, 1) := by decide +kernel
theorem dX6_isField_141 : decode cX6_isField 141 = .ok (.istore_n 2, 1) := by decide +kernel
theorem dX6_isField_142 : decode cX6_isField 142 = .ok (.iinc 3 1, 3) := by decide +kernel
theorem dX6_isField_145 : decode cX6_isField 145 = .ok (.goto (-101), 3) := by decide +kernel
theorem dX6_isField_148 : decode cX6_isField 148 = .ok (.iload_n 2, 1) := by decide +kernel
theorem dX6_isField_149 : decode cX6_isField 149 = .ok (.ireturn, 1) := by decide +kernel
set_option maxRecDepth 20000 in
theorem ggX6_put_X6_isNumber : GoodIn wsX6_put wsX6_isNumber := goodIn_r _ [6] (by decide +kernel) (by decide +kernel)
set_option maxRecDepth 20000 in
theorem gX6_put_X6_isNumber : GoodIn wsX6_put (va_wsS RX6 56 yX6_isNumber wsX6_isNumber) := goodIn_app (goodIn_of _ (by decide +kernel)) ggX6_put_X6_isNumber
set_option maxRecDepth 20000 in
theorem ggX6_put_X6_fails : GoodIn wsX6_put wsX6_fails := goodIn_r _ [10, 1, 11, 12, 13, 14, 15, 16, 17, 18] (by decide +kernel) (by decide +kernel)
set_option maxRecDepth 20000 in
theorem gX6_put_X6_fails : GoodIn wsX6_put (wsV RX6 34 RX6 yX6_fails wsX6_fails) := goodIn_app (goodIn_of _ (by decide +kernel)) ggX6_put_X6_fails
theorem dX6_put_0 : decode cX6_put 0 = .ok (.aload_n 0, 1) := by decide +kernel
theorem dX6_put_1 : decode cX6_put 1 = .ok (.iconst 0, 1) := by decide +kernel
theorem dX6_put_2 : decode cX6_put 2 = .ok (.putfield 26, 3) := by decide +kernel
theorem dX6_put_5 : decode cX6_put 5 = .ok (.aload_n 0, 1) := by decide +kernel
theorem dX6_put_6 : decode cX6_put 6 = .ok (.iload_n 1, 1) := by decide +kernel
theorem dX6_put_7 : decode cX6_put 7 = .ok (.sipush 256, 3) := by decide +kernel
theorem dX6_put_10 : decode cX6_put 10 = .ok (.invokestatic 56, 3) := by decide +kernel
theorem dX6_put_13 : decode cX6_put 13 = .ok (.ifCond .ne 7, 3) := by decide +kernel
theorem dX6_put_16 : decode cX6_put 16 = .ok (.iconst 1, 1) := by decide +kernel
theorem dX6_put_17 : decode cX6_put 17 = .ok (.goto 4, 3) := by decide +kernel
theorem dX6_put_20 : decode cX6_put 20 = .ok (.iconst 0, 1) := by decide +kernel
theorem dX6_put_21 : decode cX6_put 21 = .ok (.iconst 1, 1) := by decide +kernel
theorem dX6_put_22 : decode cX6_put 22 = .ok (.invokevirtual 34, 3) := by decide +kernel
theorem dX6_put_25 : decode cX6_put 25 = .ok (.ifCond .eq 5, 3) := by decide +kernel
theorem dX6_put_28 : decode cX6_put 28 = .ok (.iconst 0, 1) := by decide +kernel
theorem dX6_put_29 : decode cX6_put 29 = .ok (.ireturn, 1) := by decide +kernel
theorem dX6_put_30 : decode cX6_put 30 = .ok (.aload_n 0, 1) := by decide +kernel
theorem dX6_put_31 : decode cX6_put 31 = .ok (.getfield 19, 3) := by decide +kernel
theorem dX6_put_34 : decode cX6_put 34 = .ok (.iload_n 1, 1) := by decide +kernel
theorem dX6_put_35 : decode cX6_put 35 = .ok (.baload, 1) := by decide +kernel
theorem dX6_put_36 : decode cX6_put 36 = .ok (.ifCond .ne 7, 3) := by decide +kernel
theorem dX6_put_39 : decode cX6_put 39 = .ok (.iconst 1, 1) := by decide +kernel
theorem dX6_put_40 : decode cX6_put 40 = .ok (.goto 4, 3) := by decide +kernel
theorem dX6_put_43 : decode cX6_put 43 = .ok (.iconst 0, 1) := by decide +kernel
theorem dX6_put_44 : decode cX6_put 44 = .ok (.istore_n 2, 1) := by decide +kernel
theorem dX6_put_45 : decode cX6_put 45 = .ok (.aload_n 0, 1) := by decide +kernel
theorem dX6_put_46 : decode cX6_put 46 = .ok (.getfield 19, 3) := by decide +kernel
theorem dX6_put_49 : decode cX6_put 49 = .ok (.iload_n 1, 1) := by decide +kernel
theorem dX6_put_50 : decode cX6_put 50 = .ok (.iconst 1, 1) := by decide +kernel
theorem dX6_put_51 : decode cX6_put 51 = .ok (.bastore, 1) := by decide +kernel
theorem dX6_put_52 : decode cX6_put 52 = .ok (.iload_n 2, 1) := by decide +kernel
theorem dX6_put_53 : decode cX6_put 53 = .ok (.ireturn, 1) := by decide +kernel
set_option maxRecDepth 20000 in
theorem ggX6_take_X6_has : GoodIn wsX6_take wsX6_has := goodIn_ca (goodIn_r _ [6, 7, 1, 8, 9, 5, 10, 11, 12, 13, 14, 15, 16, 17, 18] (by decide +kernel) (by decide +kernel)) (goodIn_sub (fun _ h => List.mem_cons_of_mem _ (List.mem_append_right _ h)) (by decide +kernel))
set_option maxRecDepth 20000 in
theorem gX6_take_X6_has : GoodIn wsX6_take (wsV RX6 82 RX6 yX6_has wsX6_has) := goodIn_app (goodIn_of _ (by decide +kernel)) ggX6_take_X6_has
theorem dX6_take_0 : decode cX6_take 0 = .ok (.aload_n 0, 1) := by decide +kernel
theorem dX6_take_1 : decode cX6_take 1 = .ok (.iload_n 1, 1) := by decide +kernel
theorem dX6_take_2 : decode cX6_take 2 = .ok (.invokevirtual 82, 3) := by decide +kernel
theorem dX6_take_5 : decode cX6_take 5 = .ok (.istore_n 2, 1) := by decide +kernel
theorem dX6_take_6 : decode cX6_take 6 = .ok (.iload_n 2, 1) := by decide +kernel
theorem dX6_take_7 : decode cX6_take 7 = .ok (.ifCond .eq 10, 3) := by decide +kernel
theorem dX6_take_10 : decode cX6_take 10 = .ok (.aload_n 0, 1) := by decide +kernel
theorem dX6_take_11 : decode cX6_take 11 = .ok (.getfield 19, 3) := by decide +kernel
theorem dX6_take_14 : decode cX6_take 14 = .ok (.iload_n 1, 1) := by decide +kernel
theorem dX6_take_15 : decode cX6_take 15 = .ok (.iconst 0, 1) := by decide +kernel
theorem dX6_take_16 : decode cX6_take 16 = .ok (.bastore, 1) := by decide +kernel
theorem dX6_take_17 : decode cX6_take 17 = .ok (.iload_n 2, 1) := by decide +kernel
theorem dX6_take_18 : decode cX6_take 18 = .ok (.ireturn, 1) := by decide +kernel
set_option maxRecDepth 20000 in
theorem ggX6_has_X6_isNumber : GoodIn wsX6_has wsX6_isNumber := goodIn_r _ [6] (by decide +kernel) (by decide +kernel)
set_option maxRecDepth 20000 in
theorem gX6_has_X6_isNumber : GoodIn wsX6_has (va_wsS RX6 56 yX6_isNumber wsX6_isNumber) := goodIn_app (goodIn_of _ (by decide +kernel)) ggX6_has_X6_isNumber
theorem dX6_has_0 : decode cX6_has 0 = .ok (.aload_n 0, 1) := by decide +kernel
theorem dX6_has_1 : decode cX6_has 1 = .ok (.iconst 0, 1) := by decide +kernel
theorem dX6_has_2 : decode cX6_has 2 = .ok (.putfield 26, 3) := by decide +kernel
theorem dX6_has_5 : decode cX6_has 5 = .ok (.iload_n 1, 1) := by decide +kernel
theorem dX6_has_6 : decode cX6_has 6 = .ok (.sipush 256, 3) := by decide +kernel
theorem dX6_has_9 : decode cX6_has 9 = .ok (.invokestatic 56, 3) := by decide +kernel
theorem dX6_has_12 : decode cX6_has 12 = .ok (.ifCond .eq 16, 3) := by decide +kernel
theorem dX6_has_15 : decode cX6_has 15 = .ok (.aload_n 0, 1) := by decide +kernel
theorem dX6_has_16 : decode cX6_has 16 = .ok (.getfield 19, 3) := by decide +kernel
theorem dX6_has_19 : decode cX6_has 19 = .ok (.iload_n 1, 1) := by decide +kernel
theorem dX6_has_20 : decode cX6_has 20 = .ok (.baload, 1) := by decide +kernel
theorem dX6_has_21 : decode cX6_has 21 = .ok (.ifCond .eq 7, 3) := by decide +kernel
theorem dX6_has_24 : decode cX6_has 24 = .ok (.iconst 1, 1) := by decide +kernel
theorem dX6_has_25 : decode cX6_has 25 = .ok (.goto 4, 3) := by decide +kernel
theorem dX6_has_28 : decode cX6_has 28 = .ok (.iconst 0, 1) := by decide +kernel
theorem dX6_has_29 : decode cX6_has 29 = .ok (.ireturn, 1) := by decide +kernel
theorem dX6_size_0 : decode cX6_size 0 = .ok (.aload_n 0, 1) := by decide +kernel
theorem dX6_size_1 : decode cX6_size 1 = .ok (.iconst 0, 1) := by decide +kernel
theorem dX6_size_2 : decode cX6_size 2 = .ok (.putfield 26, 3) := by decide +kernel
theorem dX6_size_5 : decode cX6_size 5 = .ok (.iconst 0, 1) := by decide +kernel
theorem dX6_size_6 : decode cX6_size 6 = .ok (.istore_n 1, 1) := by decide +kernel
theorem dX6_size_7 : decode cX6_size 7 = .ok (.aload_n 0, 1) := by decide +kernel
theorem dX6_size_8 : decode cX6_size 8 = .ok (.getfield 19, 3) := by decide +kernel
theorem dX6_size_11 : decode cX6_size 11 = .ok (.astore_n 2, 1) := by decide +kernel
theorem dX6_size_12 : decode cX6_size 12 = .ok (.aload_n 2, 1) := by decide +kernel
theorem dX6_size_13 : decode cX6_size 13 = .ok (.arraylength, 1) := by decide +kernel
theorem dX6_size_14 : decode cX6_size 14 = .ok (.istore_n 3, 1) := by decide +kernel
theorem dX6_size_15 : decode cX6_size 15 = .ok (.iconst 0, 1) := by decide +kernel
theorem dX6_size_16 : decode cX6_size 16 = .ok (.istore 4, 2) := by decide +kernel
theorem dX6_size_18 : decode cX6_size 18 = .ok (.iload 4, 2) := by decide +kernel
theorem dX6_size_20 : decode cX6_size 20 = .ok (.iload_n 3, 1) := by decide +kernel
theorem dX6_size_21 : decode cX6_size 21 = .ok (.if_icmp .ge 28, 3) := by decide +kernel
theorem dX6_size_24 : decode cX6_size 24 = .ok (.aload_n 2, 1) := by decide +kernel
theorem dX6_size_25 : decode cX6_size 25 = .ok (.iload 4, 2) := by decide +kernel
theorem dX6_size_27 : decode cX6_size 27 = .ok (.baload, 1) := by decide +kernel
theorem dX6_size_28 : decode cX6_size 28 = .ok (.istore 5, 2) := by decide +kernel
theorem dX6_size_30 : decode cX6_size 30 = .ok (.iload_n 1, 1) := by decide +kernel
theorem dX6_size_31 : decode cX6_size 31 = .ok (.iload 5, 2) := by decide +kernel
theorem dX6_size_33 : decode cX6_size 33 = .ok (.ifCond .eq 7, 3) := by decide +kernel
theorem dX6_size_36 : decode cX6_size 36 = .ok (.iconst 1, 1) := by decide +kernel
theorem dX6_size_37 : decode cX6_size 37 = .ok (.goto 4, 3) := by decide +kernel
theorem dX6_size_40 : decode cX6_size 40 = .ok (.iconst 0, 1) := by decide +kernel
theorem dX6_size_41 : decode cX6_size 41 = .ok (.iadd, 1) := by decide +kernel
theorem dX6_size_42 : decode cX6_size 42 = .ok (.istore_n 1, 1) := by decide +kernel
theorem dX6_size_43 : decode cX6_size 43 = .ok (.iinc 4 1, 3) := by decide +kernel
theorem dX6_size_46 : decode cX6_size 46 = .ok (.goto (-28), 3) := by decide +kernel
theorem dX6_size_49 : decode cX6_size 49 = .ok (.iload_n 1, 1) := by decide +kernel
theorem dX6_size_50 : decode cX6_size 50 = .ok (.ireturn, 1) := by decide +kernel
set_option maxRecDepth 20000 in
theorem ggX6_numberAt_X6_size : GoodIn wsX6_numberAt wsX6_size := goodIn_ca (goodIn_r _ [6, 7, 1, 12, 13, 14, 15, 16, 17, 18, 19] (by decide +kernel) (by decide +kernel)) (goodIn_sub (fun _ h => List.mem_cons_of_mem _ (List.mem_append_right _ h)) (by decide +kernel))
set_option maxRecDepth 20000 in
theorem gX6_numberAt_X6_size : GoodIn wsX6_numberAt (wsV RX6 85 RX6 yX6_size wsX6_size) := goodIn_app (goodIn_of _ (by decide +kernel)) ggX6_numberAt_X6_size
set_option maxRecDepth 20000 in
theorem ggX6_numberAt_X6_fails : GoodIn wsX6_numberAt wsX6_fails := goodIn_r _ [11, 7, 12, 13, 14, 15, 16, 17, 18, 19] (by decide +kernel) (by decide +kernel)
set_option maxRecDepth 20000 in
theorem gX6_numberAt_X6_fails : GoodIn wsX6_numberAt (wsV RX6 34 RX6 yX6_fails wsX6_fails) := goodIn_app (goodIn_of _ (by decide +kernel)) ggX6_numberAt_X6_fails
theorem dX6_numberAt_0 : decode cX6_numberAt 0 = .ok (.aload_n 0, 1) := by decide +kernel
theorem dX6_numberAt_1 : decode cX6_numberAt 1 = .ok (.invokevirtual 85, 3) := by decide +kernel
theorem dX6_numberAt_4 : decode cX6_numberAt 4 = .ok (.istore_n 2, 1) := by decide +kernel
theorem dX6_numberAt_5 : decode cX6_numberAt 5 = .ok (.aload_n 0, 1) := by decide +kernel
theorem dX6_numberAt_6 : decode cX6_numberAt 6 = .ok (.iload_n 1, 1) := by decide +kernel
theorem dX6_numberAt_7 : decode cX6_numberAt 7 = .ok (.ifCond .lt 8, 3) := by decide +kernel
theorem dX6_numberAt_10 : decode cX6_numberAt 10 = .ok (.iload_n 1, 1) := by decide +kernel
theorem dX6_numberAt_11 : decode cX6_numberAt 11 = .ok (.iload_n 2, 1) := by decide +kernel
theorem dX6_numberAt_12 : decode cX6_numberAt 12 = .ok (.if_icmp .lt 7, 3) := by decide +kernel
theorem dX6_numberAt_15 : decode cX6_numberAt 15 = .ok (.iconst 1, 1) := by decide +kernel
theorem dX6_numberAt_16 : decode cX6_numberAt 16 = .ok (.goto 4, 3) := by decide +kernel
theorem dX6_numberAt_19 : decode cX6_numberAt 19 = .ok (.iconst 0, 1) := by decide +kernel
theorem dX6_numberAt_20 : decode cX6_numberAt 20 = .ok (.iconst 1, 1) := by decide +kernel
theorem dX6_numberAt_21 : decode cX6_numberAt 21 = .ok (.invokevirtual 34, 3) := by decide +kernel
theorem dX6_numberAt_24 : decode cX6_numberAt 24 = .ok (.ifCond .eq 5, 3) := by decide +kernel
theorem dX6_numberAt_27 : decode cX6_numberAt 27 = .ok (.iconst 0, 1) := by decide +kernel
theorem dX6_numberAt_28 : decode cX6_numberAt 28 = .ok (.ireturn, 1) := by decide +kernel
theorem dX6_numberAt_29 : decode cX6_numberAt 29 = .ok (.iconst (-1), 1) := by decide +kernel
theorem dX6_numberAt_30 : decode cX6_numberAt 30 = .ok (.istore_n 3, 1) := by decide +kernel
theorem dX6_numberAt_31 : decode cX6_numberAt 31 = .ok (.iload_n 1, 1) := by decide +kernel
theorem dX6_numberAt_32 : decode cX6_numberAt 32 = .ok (.istore 4, 2) := by decide +kernel
theorem dX6_numberAt_34 : decode cX6_numberAt 34 = .ok (.iload 4, 2) := by decide +kernel
theorem dX6_numberAt_36 : decode cX6_numberAt 36 = .ok (.ifCond .lt 27, 3) := by decide +kernel
theorem dX6_numberAt_39 : decode cX6_numberAt 39 = .ok (.iinc 3 1, 3) := by decide +kernel
theorem dX6_numberAt_42 : decode cX6_numberAt 42 = .ok (.aload_n 0, 1) := by decide +kernel
theorem dX6_numberAt_43 : decode cX6_numberAt 43 = .ok (.getfield 19, 3) := by decide +kernel
theorem dX6_numberAt_46 : decode cX6_numberAt 46 = .ok (.iload_n 3, 1) := by decide +kernel
theorem dX6_numberAt_47 : decode cX6_numberAt 47 = .ok (.baload, 1) := by decide +kernel
theorem dX6_numberAt_48 : decode cX6_numberAt 48 = .ok (.ifCond .ne 9, 3) := by decide +kernel
theorem dX6_numberAt_51 : decode cX6_numberAt 51 = .ok (.iinc 3 1, 3) := by decide +kernel
theorem dX6_numberAt_54 : decode cX6_numberAt 54 = .ok (.goto (-12), 3) := by decide +kernel
theorem dX6_numberAt_57 : decode cX6_numberAt 57 = .ok (.iinc 4 (-1), 3) := by decide +kernel
theorem dX6_numberAt_60 : decode cX6_numberAt 60 = .ok (.goto (-26), 3) := by decide +kernel
theorem dX6_numberAt_63 : decode cX6_numberAt 63 = .ok (.iload_n 3, 1) := by decide +kernel
theorem dX6_numberAt_64 : decode cX6_numberAt 64 = .ok (.ireturn, 1) := by decide +kernel
set_option maxRecDepth 20000 in
theorem ggX6_leastOut_X6_leastOutOf : GoodIn wsX6_leastOut wsX6_leastOutOf := goodIn_ca (goodIn_r _ [6] (by decide +kernel) (by decide +kernel)) (goodIn_sub (fun _ h => List.mem_cons_of_mem _ (List.mem_append_right _ h)) (by decide +kernel))
set_option maxRecDepth 20000 in
theorem gX6_leastOut_X6_leastOutOf : GoodIn wsX6_leastOut (va_wsS RX6 45 yX6_leastOutOf wsX6_leastOutOf) := goodIn_app (goodIn_of _ (by decide +kernel)) ggX6_leastOut_X6_leastOutOf
theorem dX6_leastOut_0 : decode cX6_leastOut 0 = .ok (.aload_n 0, 1) := by decide +kernel
theorem dX6_leastOut_1 : decode cX6_leastOut 1 = .ok (.iconst 0, 1) := by decide +kernel
theorem dX6_leastOut_2 : decode cX6_leastOut 2 = .ok (.putfield 26, 3) := by decide +kernel
theorem dX6_leastOut_5 : decode cX6_leastOut 5 = .ok (.aload_n 0, 1) := by decide +kernel
theorem dX6_leastOut_6 : decode cX6_leastOut 6 = .ok (.getfield 19, 3) := by decide +kernel
theorem dX6_leastOut_9 : decode cX6_leastOut 9 = .ok (.invokestatic 45, 3) := by decide +kernel
theorem dX6_leastOut_12 : decode cX6_leastOut 12 = .ok (.ireturn, 1) := by decide +kernel
theorem dX6_becomes__0 : decode cX6_becomes_ 0 = .ok (.iconst 0, 1) := by decide +kernel
theorem dX6_becomes__1 : decode cX6_becomes_ 1 = .ok (.istore_n 2, 1) := by decide +kernel
theorem dX6_becomes__2 : decode cX6_becomes_ 2 = .ok (.iconst 0, 1) := by decide +kernel
theorem dX6_becomes__3 : decode cX6_becomes_ 3 = .ok (.istore_n 3, 1) := by decide +kernel
theorem dX6_becomes__4 : decode cX6_becomes_ 4 = .ok (.iload_n 3, 1) := by decide +kernel
theorem dX6_becomes__5 : decode cX6_becomes_ 5 = .ok (.sipush 256, 3) := by decide +kernel
theorem dX6_becomes__8 : decode cX6_becomes_ 8 = .ok (.if_icmp .ge 41, 3) := by decide +kernel
theorem dX6_becomes__11 : decode cX6_becomes_ 11 = .ok (.iload_n 2, 1) := by decide +kernel
theorem dX6_becomes__12 : decode cX6_becomes_ 12 = .ok (.aload_n 1, 1) := by decide +kernel
theorem dX6_becomes__13 : decode cX6_becomes_ 13 = .ok (.iload_n 3, 1) := by decide +kernel
theorem dX6_becomes__14 : decode cX6_becomes_ 14 = .ok (.baload, 1) := by decide +kernel
theorem dX6_becomes__15 : decode cX6_becomes_ 15 = .ok (.ifCond .eq 16, 3) := by decide +kernel
theorem dX6_becomes__18 : decode cX6_becomes_ 18 = .ok (.aload_n 0, 1) := by decide +kernel
theorem dX6_becomes__19 : decode cX6_becomes_ 19 = .ok (.getfield 19, 3) := by decide +kernel
theorem dX6_becomes__22 : decode cX6_becomes_ 22 = .ok (.iload_n 3, 1) := by decide +kernel
theorem dX6_becomes__23 : decode cX6_becomes_ 23 = .ok (.baload, 1) := by decide +kernel
theorem dX6_becomes__24 : decode cX6_becomes_ 24 = .ok (.ifCond .ne 7, 3) := by decide +kernel
theorem dX6_becomes__27 : decode cX6_becomes_ 27 = .ok (.iconst 1, 1) := by decide +kernel
theorem dX6_becomes__28 : decode cX6_becomes_ 28 = .ok (.goto 4, 3) := by decide +kernel
theorem dX6_becomes__31 : decode cX6_becomes_ 31 = .ok (.iconst 0, 1) := by decide +kernel
theorem dX6_becomes__32 : decode cX6_becomes_ 32 = .ok (.iadd, 1) := by decide +kernel
theorem dX6_becomes__33 : decode cX6_becomes_ 33 = .ok (.istore_n 2, 1) := by decide +kernel
theorem dX6_becomes__34 : decode cX6_becomes_ 34 = .ok (.aload_n 0, 1) := by decide +kernel
theorem dX6_becomes__35 : decode cX6_becomes_ 35 = .ok (.getfield 19, 3) := by decide +kernel
theorem dX6_becomes__38 : decode cX6_becomes_ 38 = .ok (.iload_n 3, 1) := by decide +kernel
theorem dX6_becomes__39 : decode cX6_becomes_ 39 = .ok (.aload_n 1, 1) := by decide +kernel
theorem dX6_becomes__40 : decode cX6_becomes_ 40 = .ok (.iload_n 3, 1) := by decide +kernel
theorem dX6_becomes__41 : decode cX6_becomes_ 41 = .ok (.baload, 1) := by decide +kernel
theorem dX6_becomes__42 : decode cX6_becomes_ 42 = .ok (.bastore, 1) := by decide +kernel
theorem dX6_becomes__43 : decode cX6_becomes_ 43 = .ok (.iinc 3 1, 3) := by decide +kernel
theorem dX6_becomes__46 : decode cX6_becomes_ 46 = .ok (.goto (-42), 3) := by decide +kernel
theorem dX6_becomes__49 : decode cX6_becomes_ 49 = .ok (.iload_n 2, 1) := by decide +kernel
theorem dX6_becomes__50 : decode cX6_becomes_ 50 = .ok (.ireturn, 1) := by decide +kernel
set_option maxRecDepth 20000 in
theorem ggX6_shift_X6_isNumber : GoodIn wsX6_shift wsX6_isNumber := goodIn_r _ [7] (by decide +kernel) (by decide +kernel)
set_option maxRecDepth 20000 in
theorem gX6_shift_X6_isNumber : GoodIn wsX6_shift (va_wsS RX6 56 yX6_isNumber wsX6_isNumber) := goodIn_app (goodIn_of _ (by decide +kernel)) ggX6_shift_X6_isNumber
set_option maxRecDepth 20000 in
theorem ggX6_shift_X6_fails : GoodIn wsX6_shift wsX6_fails := goodIn_r _ [11, 1, 19, 20, 21, 22, 23, 24, 25, 26] (by decide +kernel) (by decide +kernel)
set_option maxRecDepth 20000 in
theorem gX6_shift_X6_fails : GoodIn wsX6_shift (wsV RX6 34 RX6 yX6_fails wsX6_fails) := goodIn_app (goodIn_of _ (by decide +kernel)) ggX6_shift_X6_fails
set_option maxRecDepth 20000 in
theorem ggX6_shift_X6_sumOf : GoodIn wsX6_shift wsX6_sumOf := goodIn_ca (goodIn_r _ [14] (by decide +kernel) (by decide +kernel)) (goodIn_sub (fun _ h => List.mem_cons_of_mem _ (List.mem_append_right _ h)) (by decide +kernel))
set_option maxRecDepth 20000 in
theorem gX6_shift_X6_sumOf : GoodIn wsX6_shift (va_wsS RX6 42 yX6_sumOf wsX6_sumOf) := goodIn_app (goodIn_of _ (by decide +kernel)) ggX6_shift_X6_sumOf
set_option maxRecDepth 20000 in
theorem ggX6_shift_X6_becomes_ : GoodIn wsX6_shift wsX6_becomes_ := goodIn_ca (goodIn_r _ [18, 3, 19, 20, 21, 22, 23, 24, 25, 26] (by decide +kernel) (by decide +kernel)) (goodIn_sub (fun _ h => List.mem_cons_of_mem _ (List.mem_append_left _ (List.mem_append_right _ h))) (by decide +kernel))
set_option maxRecDepth 20000 in
theorem gX6_shift_X6_becomes_ : GoodIn wsX6_shift (wsV RX6 89 RX6 yX6_becomes_ wsX6_becomes_) := goodIn_app (goodIn_of _ (by decide +kernel)) ggX6_shift_X6_becomes_
theorem dX6_shift_0 : decode cX6_shift 0 = .ok (.aload_n 0, 1) := by decide +kernel
theorem dX6_shift_1 : decode cX6_shift 1 = .ok (.iconst 0, 1) := by decide +kernel
theorem dX6_shift_2 : decode cX6_shift 2 = .ok (.putfield 26, 3) := by decide +kernel
theorem dX6_shift_5 : decode cX6_shift 5 = .ok (.aload_n 0, 1) := by decide +kernel
theorem dX6_shift_6 : decode cX6_shift 6 = .ok (.iload_n 1, 1) := by decide +kernel
theorem dX6_shift_7 : decode cX6_shift 7 = .ok (.sipush 256, 3) := by decide +kernel
theorem dX6_shift_10 : decode cX6_shift 10 = .ok (.invokestatic 56, 3) := by decide +kernel
theorem dX6_shift_13 : decode cX6_shift 13 = .ok (.ifCond .ne 7, 3) := by decide +kernel
theorem dX6_shift_16 : decode cX6_shift 16 = .ok (.iconst 1, 1) := by decide +kernel
theorem dX6_shift_17 : decode cX6_shift 17 = .ok (.goto 4, 3) := by decide +kernel
theorem dX6_shift_20 : decode cX6_shift 20 = .ok (.iconst 0, 1) := by decide +kernel
theorem dX6_shift_21 : decode cX6_shift 21 = .ok (.iconst 1, 1) := by decide +kernel
theorem dX6_shift_22 : decode cX6_shift 22 = .ok (.invokevirtual 34, 3) := by decide +kernel
theorem dX6_shift_25 : decode cX6_shift 25 = .ok (.ifCond .eq 5, 3) := by decide +kernel
theorem dX6_shift_28 : decode cX6_shift 28 = .ok (.iconst 0, 1) := by decide +kernel
theorem dX6_shift_29 : decode cX6_shift 29 = .ok (.ireturn, 1) := by decide +kernel
theorem dX6_shift_30 : decode cX6_shift 30 = .ok (.sipush 256, 3) := by decide +kernel
theorem dX6_shift_33 : decode cX6_shift 33 = .ok (.newarray .boolean, 2) := by decide +kernel
theorem dX6_shift_35 : decode cX6_shift 35 = .ok (.astore_n 2, 1) := by decide +kernel
theorem dX6_shift_36 : decode cX6_shift 36 = .ok (.iconst 0, 1) := by decide +kernel
theorem dX6_shift_37 : decode cX6_shift 37 = .ok (.istore_n 3, 1) := by decide +kernel
theorem dX6_shift_38 : decode cX6_shift 38 = .ok (.iload_n 3, 1) := by decide +kernel
theorem dX6_shift_39 : decode cX6_shift 39 = .ok (.sipush 256, 3) := by decide +kernel
theorem dX6_shift_42 : decode cX6_shift 42 = .ok (.if_icmp .ge 26, 3) := by decide +kernel
theorem dX6_shift_45 : decode cX6_shift 45 = .ok (.aload_n 0, 1) := by decide +kernel
theorem dX6_shift_46 : decode cX6_shift 46 = .ok (.getfield 19, 3) := by decide +kernel
theorem dX6_shift_49 : decode cX6_shift 49 = .ok (.iload_n 3, 1) := by decide +kernel
theorem dX6_shift_50 : decode cX6_shift 50 = .ok (.baload, 1) := by decide +kernel
theorem dX6_shift_51 : decode cX6_shift 51 = .ok (.ifCond .eq 11, 3) := by decide +kernel
theorem dX6_shift_54 : decode cX6_shift 54 = .ok (.aload_n 2, 1) := by decide +kernel
theorem dX6_shift_55 : decode cX6_shift 55 = .ok (.iload_n 3, 1) := by decide +kernel
theorem dX6_shift_56 : decode cX6_shift 56 = .ok (.iload_n 1, 1) := by decide +kernel
theorem dX6_shift_57 : decode cX6_shift 57 = .ok (.invokestatic 42, 3) := by decide +kernel
theorem dX6_shift_60 : decode cX6_shift 60 = .ok (.iconst 1, 1) := by decide +kernel
theorem dX6_shift_61 : decode cX6_shift 61 = .ok (.bastore, 1) := by decide +kernel
theorem dX6_shift_62 : decode cX6_shift 62 = .ok (.iinc 3 1, 3) := by decide +kernel
theorem dX6_shift_65 : decode cX6_shift 65 = .ok (.goto (-27), 3) := by decide +kernel
theorem dX6_shift_68 : decode cX6_shift 68 = .ok (.aload_n 0, 1) := by decide +kernel
theorem dX6_shift_69 : decode cX6_shift 69 = .ok (.aload_n 2, 1) := by decide +kernel
theorem dX6_shift_70 : decode cX6_shift 70 = .ok (.invokevirtual 89, 3) := by decide +kernel
theorem dX6_shift_73 : decode cX6_shift 73 = .ok (.ireturn, 1) := by decide +kernel
set_option maxRecDepth 20000 in
theorem ggX6_scale_X6_isNumber : GoodIn wsX6_scale wsX6_isNumber := goodIn_r _ [7] (by decide +kernel) (by decide +kernel)
set_option maxRecDepth 20000 in
theorem gX6_scale_X6_isNumber : GoodIn wsX6_scale (va_wsS RX6 56 yX6_isNumber wsX6_isNumber) := goodIn_app (goodIn_of _ (by decide +kernel)) ggX6_scale_X6_isNumber
set_option maxRecDepth 20000 in
theorem ggX6_scale_X6_fails : GoodIn wsX6_scale wsX6_fails := goodIn_r _ [11, 1, 26, 27, 28, 29, 30, 31, 32, 33] (by decide +kernel) (by decide +kernel)
set_option maxRecDepth 20000 in
theorem gX6_scale_X6_fails : GoodIn wsX6_scale (wsV RX6 34 RX6 yX6_fails wsX6_fails) := goodIn_app (goodIn_of _ (by decide +kernel)) ggX6_scale_X6_fails
set_option maxRecDepth 20000 in
theorem ggX6_scale_X6_productOf : GoodIn wsX6_scale wsX6_productOf := goodIn_ca (goodIn_r _ [14, 12, 13, 6, 15, 16, 17] (by decide +kernel) (by decide +kernel)) (goodIn_sub (fun _ h => List.mem_cons_of_mem _ (List.mem_append_right _ h)) (by decide +kernel))
set_option maxRecDepth 20000 in
theorem gX6_scale_X6_productOf : GoodIn wsX6_scale (va_wsS RX6 38 yX6_productOf wsX6_productOf) := goodIn_app (goodIn_of _ (by decide +kernel)) ggX6_scale_X6_productOf
set_option maxRecDepth 20000 in
theorem ggX6_scale_X6_becomes_ : GoodIn wsX6_scale wsX6_becomes_ := goodIn_ca (goodIn_r _ [21, 3, 26, 27, 28, 29, 30, 31, 32, 33] (by decide +kernel) (by decide +kernel)) (goodIn_sub (fun _ h => List.mem_cons_of_mem _ (List.mem_append_left _ (List.mem_append_right _ h))) (by decide +kernel))
set_option maxRecDepth 20000 in
theorem gX6_scale_X6_becomes_ : GoodIn wsX6_scale (wsV RX6 89 RX6 yX6_becomes_ wsX6_becomes_) := goodIn_app (goodIn_of _ (by decide +kernel)) ggX6_scale_X6_becomes_
set_option maxRecDepth 20000 in
theorem ggX6_scale_X6_size : GoodIn wsX6_scale wsX6_size := goodIn_ca (goodIn_r _ [25, 1, 3, 26, 27, 28, 29, 30, 31, 32, 33] (by decide +kernel) (by decide +kernel)) (goodIn_sub (fun _ h => List.mem_cons_of_mem _ (List.mem_append_left _ (List.mem_append_right _ h))) (by decide +kernel))
set_option maxRecDepth 20000 in
theorem gX6_scale_X6_size : GoodIn wsX6_scale (wsV RX6 85 RX6 yX6_size wsX6_size) := goodIn_app (goodIn_of _ (by decide +kernel)) ggX6_scale_X6_size
theorem dX6_scale_0 : decode cX6_scale 0 = .ok (.aload_n 0, 1) := by decide +kernel
theorem dX6_scale_1 : decode cX6_scale 1 = .ok (.iconst 0, 1) := by decide +kernel
theorem dX6_scale_2 : decode cX6_scale 2 = .ok (.putfield 26, 3) := by decide +kernel
theorem dX6_scale_5 : decode cX6_scale 5 = .ok (.aload_n 0, 1) := by decide +kernel
theorem dX6_scale_6 : decode cX6_scale 6 = .ok (.iload_n 1, 1) := by decide +kernel
theorem dX6_scale_7 : decode cX6_scale 7 = .ok (.sipush 256, 3) := by decide +kernel
theorem dX6_scale_10 : decode cX6_scale 10 = .ok (.invokestatic 56, 3) := by decide +kernel
theorem dX6_scale_13 : decode cX6_scale 13 = .ok (.ifCond .ne 7, 3) := by decide +kernel
theorem dX6_scale_16 : decode cX6_scale 16 = .ok (.iconst 1, 1) := by decide +kernel
theorem dX6_scale_17 : decode cX6_scale 17 = .ok (.goto 4, 3) := by decide +kernel
theorem dX6_scale_20 : decode cX6_scale 20 = .ok (.iconst 0, 1) := by decide +kernel
theorem dX6_scale_21 : decode cX6_scale 21 = .ok (.iconst 1, 1) := by decide +kernel
theorem dX6_scale_22 : decode cX6_scale 22 = .ok (.invokevirtual 34, 3) := by decide +kernel
theorem dX6_scale_25 : decode cX6_scale 25 = .ok (.ifCond .eq 5, 3) := by decide +kernel
theorem dX6_scale_28 : decode cX6_scale 28 = .ok (.iconst 0, 1) := by decide +kernel
theorem dX6_scale_29 : decode cX6_scale 29 = .ok (.ireturn, 1) := by decide +kernel
theorem dX6_scale_30 : decode cX6_scale 30 = .ok (.sipush 256, 3) := by decide +kernel
theorem dX6_scale_33 : decode cX6_scale 33 = .ok (.newarray .boolean, 2) := by decide +kernel
theorem dX6_scale_35 : decode cX6_scale 35 = .ok (.astore_n 2, 1) := by decide +kernel
theorem dX6_scale_36 : decode cX6_scale 36 = .ok (.iconst 0, 1) := by decide +kernel
theorem dX6_scale_37 : decode cX6_scale 37 = .ok (.istore_n 3, 1) := by decide +kernel
theorem dX6_scale_38 : decode cX6_scale 38 = .ok (.iload_n 3, 1) := by decide +kernel
theorem dX6_scale_39 : decode cX6_scale 39 = .ok (.sipush 256, 3) := by decide +kernel
theorem dX6_scale_42 : decode cX6_scale 42 = .ok (.if_icmp .ge 26, 3) := by decide +kernel
theorem dX6_scale_45 : decode cX6_scale 45 = .ok (.aload_n 0, 1) := by decide +kernel
theorem dX6_scale_46 : decode cX6_scale 46 = .ok (.getfield 19, 3) := by decide +kernel
theorem dX6_scale_49 : decode cX6_scale 49 = .ok (.iload_n 3, 1) := by decide +kernel
theorem dX6_scale_50 : decode cX6_scale 50 = .ok (.baload, 1) := by decide +kernel
theorem dX6_scale_51 : decode cX6_scale 51 = .ok (.ifCond .eq 11, 3) := by decide +kernel
theorem dX6_scale_54 : decode cX6_scale 54 = .ok (.aload_n 2, 1) := by decide +kernel
theorem dX6_scale_55 : decode cX6_scale 55 = .ok (.iload_n 3, 1) := by decide +kernel
theorem dX6_scale_56 : decode cX6_scale 56 = .ok (.iload_n 1, 1) := by decide +kernel
theorem dX6_scale_57 : decode cX6_scale 57 = .ok (.invokestatic 38, 3) := by decide +kernel
theorem dX6_scale_60 : decode cX6_scale 60 = .ok (.iconst 1, 1) := by decide +kernel
theorem dX6_scale_61 : decode cX6_scale 61 = .ok (.bastore, 1) := by decide +kernel
theorem dX6_scale_62 : decode cX6_scale 62 = .ok (.iinc 3 1, 3) := by decide +kernel
theorem dX6_scale_65 : decode cX6_scale 65 = .ok (.goto (-27), 3) := by decide +kernel
theorem dX6_scale_68 : decode cX6_scale 68 = .ok (.aload_n 0, 1) := by decide +kernel
theorem dX6_scale_69 : decode cX6_scale 69 = .ok (.aload_n 2, 1) := by decide +kernel
theorem dX6_scale_70 : decode cX6_scale 70 = .ok (.invokevirtual 89, 3) := by decide +kernel
theorem dX6_scale_73 : decode cX6_scale 73 = .ok (.istore_n 3, 1) := by decide +kernel
theorem dX6_scale_74 : decode cX6_scale 74 = .ok (.iload_n 3, 1) := by decide +kernel
theorem dX6_scale_75 : decode cX6_scale 75 = .ok (.ifCond .ge 7, 3) := by decide +kernel
theorem dX6_scale_78 : decode cX6_scale 78 = .ok (.iconst 0, 1) := by decide +kernel
theorem dX6_scale_79 : decode cX6_scale 79 = .ok (.goto 7, 3) := by decide +kernel
theorem dX6_scale_82 : decode cX6_scale 82 = .ok (.aload_n 0, 1) := by decide +kernel
theorem dX6_scale_83 : decode cX6_scale 83 = .ok (.invokevirtual 85, 3) := by decide +kernel
theorem dX6_scale_86 : decode cX6_scale 86 = .ok (.ireturn, 1) := by decide +kernel
set_option maxRecDepth 20000 in
theorem ggX6_span_X6_sumOf : GoodIn wsX6_span wsX6_sumOf := goodIn_ca (goodIn_r _ [6] (by decide +kernel) (by decide +kernel)) (goodIn_sub (fun _ h => List.mem_cons_of_mem _ (List.mem_append_right _ h)) (by decide +kernel))
set_option maxRecDepth 20000 in
theorem gX6_span_X6_sumOf : GoodIn wsX6_span (va_wsS RX6 42 yX6_sumOf wsX6_sumOf) := goodIn_app (goodIn_of _ (by decide +kernel)) ggX6_span_X6_sumOf
theorem dX6_span_0 : decode cX6_span 0 = .ok (.sipush 256, 3) := by decide +kernel
theorem dX6_span_3 : decode cX6_span 3 = .ok (.newarray .boolean, 2) := by decide +kernel
theorem dX6_span_5 : decode cX6_span 5 = .ok (.astore_n 2, 1) := by decide +kernel
theorem dX6_span_6 : decode cX6_span 6 = .ok (.aload_n 2, 1) := by decide +kernel
theorem dX6_span_7 : decode cX6_span 7 = .ok (.iconst 0, 1) := by decide +kernel
theorem dX6_span_8 : decode cX6_span 8 = .ok (.iconst 1, 1) := by decide +kernel
theorem dX6_span_9 : decode cX6_span 9 = .ok (.bastore, 1) := by decide +kernel
theorem dX6_span_10 : decode cX6_span 10 = .ok (.iconst 0, 1) := by decide +kernel
theorem dX6_span_11 : decode cX6_span 11 = .ok (.istore_n 3, 1) := by decide +kernel
theorem dX6_span_12 : decode cX6_span 12 = .ok (.iload_n 3, 1) := by decide +kernel
theorem dX6_span_13 : decode cX6_span 13 = .ok (.iload_n 1, 1) := by decide +kernel
theorem dX6_span_14 : decode cX6_span 14 = .ok (.if_icmp .ge 82, 3) := by decide +kernel
theorem dX6_span_17 : decode cX6_span 17 = .ok (.aload_n 0, 1) := by decide +kernel
theorem dX6_span_18 : decode cX6_span 18 = .ok (.getfield 19, 3) := by decide +kernel
theorem dX6_span_21 : decode cX6_span 21 = .ok (.iload_n 3, 1) := by decide +kernel
theorem dX6_span_22 : decode cX6_span 22 = .ok (.baload, 1) := by decide +kernel
theorem dX6_span_23 : decode cX6_span 23 = .ok (.ifCond .eq 67, 3) := by decide +kernel
theorem dX6_span_26 : decode cX6_span 26 = .ok (.aload_n 2, 1) := by decide +kernel
theorem dX6_span_27 : decode cX6_span 27 = .ok (.iload_n 3, 1) := by decide +kernel
theorem dX6_span_28 : decode cX6_span 28 = .ok (.baload, 1) := by decide +kernel
theorem dX6_span_29 : decode cX6_span 29 = .ok (.ifCond .eq 6, 3) := by decide +kernel
theorem dX6_span_32 : decode cX6_span 32 = .ok (.goto 58, 3) := by decide +kernel
theorem dX6_span_35 : decode cX6_span 35 = .ok (.sipush 256, 3) := by decide +kernel
theorem dX6_span_38 : decode cX6_span 38 = .ok (.newarray .boolean, 2) := by decide +kernel
theorem dX6_span_40 : decode cX6_span 40 = .ok (.astore 4, 2) := by decide +kernel
theorem dX6_span_42 : decode cX6_span 42 = .ok (.iconst 0, 1) := by decide +kernel
theorem dX6_span_43 : decode cX6_span 43 = .ok (.istore 5, 2) := by decide +kernel
theorem dX6_span_45 : decode cX6_span 45 = .ok (.iload 5, 2) := by decide +kernel
theorem dX6_span_47 : decode cX6_span 47 = .ok (.sipush 256, 3) := by decide +kernel
theorem dX6_span_50 : decode cX6_span 50 = .ok (.if_icmp .ge 37, 3) := by decide +kernel
theorem dX6_span_53 : decode cX6_span 53 = .ok (.aload 4, 2) := by decide +kernel
theorem dX6_span_55 : decode cX6_span 55 = .ok (.iload 5, 2) := by decide +kernel
theorem dX6_span_57 : decode cX6_span 57 = .ok (.aload_n 2, 1) := by decide +kernel
theorem dX6_span_58 : decode cX6_span 58 = .ok (.iload 5, 2) := by decide +kernel
theorem dX6_span_60 : decode cX6_span 60 = .ok (.baload, 1) := by decide +kernel
theorem dX6_span_61 : decode cX6_span 61 = .ok (.ifCond .ne 14, 3) := by decide +kernel
theorem dX6_span_64 : decode cX6_span 64 = .ok (.aload_n 2, 1) := by decide +kernel
theorem dX6_span_65 : decode cX6_span 65 = .ok (.iload 5, 2) := by decide +kernel
theorem dX6_span_67 : decode cX6_span 67 = .ok (.iload_n 3, 1) := by decide +kernel
theorem dX6_span_68 : decode cX6_span 68 = .ok (.invokestatic 42, 3) := by decide +kernel
theorem dX6_span_71 : decode cX6_span 71 = .ok (.baload, 1) := by decide +kernel
theorem dX6_span_72 : decode cX6_span 72 = .ok (.ifCond .eq 7, 3) := by decide +kernel
theorem dX6_span_75 : decode cX6_span 75 = .ok (.iconst 1, 1) := by decide +kernel
theorem dX6_span_76 : decode cX6_span 76 = .ok (.goto 4, 3) := by decide +kernel
theorem dX6_span_79 : decode cX6_span 79 = .ok (.iconst 0, 1) := by decide +kernel
theorem dX6_span_80 : decode cX6_span 80 = .ok (.bastore, 1) := by decide +kernel
theorem dX6_span_81 : decode cX6_span 81 = .ok (.iinc 5 1, 3) := by decide +kernel
theorem dX6_span_84 : decode cX6_span 84 = .ok (.goto (-39), 3) := by decide +kernel
theorem dX6_span_87 : decode cX6_span 87 = .ok (.aload 4, 2) := by decide +kernel
theorem dX6_span_89 : decode cX6_span 89 = .ok (.astore_n 2, 1) := by decide +kernel
theorem dX6_span_90 : decode cX6_span 90 = .ok (.iinc 3 1, 3) := by decide +kernel
theorem dX6_span_93 : decode cX6_span 93 = .ok (.goto (-81), 3) := by decide +kernel
theorem dX6_span_96 : decode cX6_span 96 = .ok (.aload_n 2, 1) := by decide +kernel
theorem dX6_span_97 : decode cX6_span 97 = .ok (.areturn, 1) := by decide +kernel
set_option maxRecDepth 20000 in
theorem ggX6_rank_X6_span : GoodIn wsX6_rank wsX6_span := goodIn_ca (goodIn_ca (goodIn_r _ [7, 8, 2, 9, 10, 6, 11, 12, 13, 14, 15, 16, 17, 18, 19] (by decide +kernel) (by decide +kernel)) (goodIn_sub (fun _ h => List.mem_cons_of_mem _ (List.mem_append_left _ (List.mem_append_right _ h))) (by decide +kernel))) (goodIn_sub (fun _ h => List.mem_cons_of_mem _ (List.mem_append_right _ h)) (by decide +kernel))
set_option maxRecDepth 20000 in
theorem gX6_rank_X6_span : GoodIn wsX6_rank (wsV RX6 91 RX6 yX6_span wsX6_span) := goodIn_app (goodIn_of _ (by decide +kernel)) ggX6_rank_X6_span
theorem dX6_rank_0 : decode cX6_rank 0 = .ok (.aload_n 0, 1) := by decide +kernel
theorem dX6_rank_1 : decode cX6_rank 1 = .ok (.iconst 0, 1) := by decide +kernel
theorem dX6_rank_2 : decode cX6_rank 2 = .ok (.putfield 26, 3) := by decide +kernel
theorem dX6_rank_5 : decode cX6_rank 5 = .ok (.iconst 0, 1) := by decide +kernel
theorem dX6_rank_6 : decode cX6_rank 6 = .ok (.istore_n 1, 1) := by decide +kernel
theorem dX6_rank_7 : decode cX6_rank 7 = .ok (.aload_n 0, 1) := by decide +kernel
theorem dX6_rank_8 : decode cX6_rank 8 = .ok (.iconst 0, 1) := by decide +kernel
theorem dX6_rank_9 : decode cX6_rank 9 = .ok (.invokevirtual 91, 3) := by decide +kernel
theorem dX6_rank_12 : decode cX6_rank 12 = .ok (.astore_n 2, 1) := by decide +kernel
theorem dX6_rank_13 : decode cX6_rank 13 = .ok (.iconst 0, 1) := by decide +kernel
theorem dX6_rank_14 : decode cX6_rank 14 = .ok (.istore_n 3, 1) := by decide +kernel
theorem dX6_rank_15 : decode cX6_rank 15 = .ok (.iload_n 3, 1) := by decide +kernel
theorem dX6_rank_16 : decode cX6_rank 16 = .ok (.sipush 256, 3) := by decide +kernel
theorem dX6_rank_19 : decode cX6_rank 19 = .ok (.if_icmp .ge 35, 3) := by decide +kernel
theorem dX6_rank_22 : decode cX6_rank 22 = .ok (.aload_n 0, 1) := by decide +kernel
theorem dX6_rank_23 : decode cX6_rank 23 = .ok (.getfield 19, 3) := by decide +kernel
theorem dX6_rank_26 : decode cX6_rank 26 = .ok (.iload_n 3, 1) := by decide +kernel
theorem dX6_rank_27 : decode cX6_rank 27 = .ok (.baload, 1) := by decide +kernel
theorem dX6_rank_28 : decode cX6_rank 28 = .ok (.ifCond .eq 20, 3) := by decide +kernel
theorem dX6_rank_31 : decode cX6_rank 31 = .ok (.aload_n 2, 1) := by decide +kernel
theorem dX6_rank_32 : decode cX6_rank 32 = .ok (.iload_n 3, 1) := by decide +kernel
theorem dX6_rank_33 : decode cX6_rank 33 = .ok (.baload, 1) := by decide +kernel
theorem dX6_rank_34 : decode cX6_rank 34 = .ok (.ifCond .ne 14, 3) := by decide +kernel
theorem dX6_rank_37 : decode cX6_rank 37 = .ok (.iinc 1 1, 3) := by decide +kernel
theorem dX6_rank_40 : decode cX6_rank 40 = .ok (.aload_n 0, 1) := by decide +kernel
theorem dX6_rank_41 : decode cX6_rank 41 = .ok (.iload_n 3, 1) := by decide +kernel
theorem dX6_rank_42 : decode cX6_rank 42 = .ok (.iconst 1, 1) := by decide +kernel
theorem dX6_rank_43 : decode cX6_rank 43 = .ok (.iadd, 1) := by decide +kernel
theorem dX6_rank_44 : decode cX6_rank 44 = .ok (.invokevirtual 91, 3) := by decide +kernel
theorem dX6_rank_47 : decode cX6_rank 47 = .ok (.astore_n 2, 1) := by decide +kernel
theorem dX6_rank_48 : decode cX6_rank 48 = .ok (.iinc 3 1, 3) := by decide +kernel
theorem dX6_rank_51 : decode cX6_rank 51 = .ok (.goto (-36), 3) := by decide +kernel
theorem dX6_rank_54 : decode cX6_rank 54 = .ok (.iload_n 1, 1) := by decide +kernel
theorem dX6_rank_55 : decode cX6_rank 55 = .ok (.ireturn, 1) := by decide +kernel
set_option maxRecDepth 20000 in
theorem ggX6_isSpanned_X6_isNumber : GoodIn wsX6_isSpanned wsX6_isNumber := goodIn_r _ [5] (by decide +kernel) (by decide +kernel)
set_option maxRecDepth 20000 in
theorem gX6_isSpanned_X6_isNumber : GoodIn wsX6_isSpanned (va_wsS RX6 56 yX6_isNumber wsX6_isNumber) := goodIn_app (goodIn_of _ (by decide +kernel)) ggX6_isSpanned_X6_isNumber
set_option maxRecDepth 20000 in
theorem ggX6_isSpanned_X6_fails : GoodIn wsX6_isSpanned wsX6_fails := goodIn_r _ [9, 1, 19, 20, 21, 22, 23, 24, 25, 26] (by decide +kernel) (by decide +kernel)
set_option maxRecDepth 20000 in
theorem gX6_isSpanned_X6_fails : GoodIn wsX6_isSpanned (wsV RX6 34 RX6 yX6_fails wsX6_fails) := goodIn_app (goodIn_of _ (by decide +kernel)) ggX6_isSpanned_X6_fails
set_option maxRecDepth 20000 in
theorem ggX6_isSpanned_X6_span : GoodIn wsX6_isSpanned wsX6_span := goodIn_ca (goodIn_ca (goodIn_r _ [13, 14, 15, 16, 17, 4, 18, 19, 20, 21, 22, 23, 24, 25, 26] (by decide +kernel) (by decide +kernel)) (goodIn_sub (fun _ h => List.mem_cons_of_mem _ (List.mem_append_left _ (List.mem_append_right _ h))) (by decide +kernel))) (goodIn_sub (fun _ h => List.mem_cons_of_mem _ (List.mem_append_right _ h)) (by decide +kernel))
set_option maxRecDepth 20000 in
theorem gX6_isSpanned_X6_span : GoodIn wsX6_isSpanned (wsV RX6 91 RX6 yX6_span wsX6_span) := goodIn_app (goodIn_of _ (by decide +kernel)) ggX6_isSpanned_X6_span
theorem dX6_isSpanned_0 : decode cX6_isSpanned 0 = .ok (.aload_n 0, 1) := by decide +kernel
theorem dX6_isSpanned_1 : decode cX6_isSpanned 1 = .ok (.iconst 0, 1) := by decide +kernel
theorem dX6_isSpanned_2 : decode cX6_isSpanned 2 = .ok (.putfield 26, 3) := by decide +kernel
theorem dX6_isSpanned_5 : decode cX6_isSpanned 5 = .ok (.aload_n 0, 1) := by decide +kernel
theorem dX6_isSpanned_6 : decode cX6_isSpanned 6 = .ok (.iload_n 1, 1) := by decide +kernel
theorem dX6_isSpanned_7 : decode cX6_isSpanned 7 = .ok (.sipush 256, 3) := by decide +kernel
theorem dX6_isSpanned_10 : decode cX6_isSpanned 10 = .ok (.invokestatic 56, 3) := by decide +kernel
theorem dX6_isSpanned_13 : decode cX6_isSpanned 13 = .ok (.ifCond .ne 7, 3) := by decide +kernel
theorem dX6_isSpanned_16 : decode cX6_isSpanned 16 = .ok (.iconst 1, 1) := by decide +kernel
theorem dX6_isSpanned_17 : decode cX6_isSpanned 17 = .ok (.goto 4, 3) := by decide +kernel
theorem dX6_isSpanned_20 : decode cX6_isSpanned 20 = .ok (.iconst 0, 1) := by decide +kernel
theorem dX6_isSpanned_21 : decode cX6_isSpanned 21 = .ok (.iconst 1, 1) := by decide +kernel
theorem dX6_isSpanned_22 : decode cX6_isSpanned 22 = .ok (.invokevirtual 34, 3) := by decide +kernel
theorem dX6_isSpanned_25 : decode cX6_isSpanned 25 = .ok (.ifCond .ne 19, 3) := by decide +kernel
theorem dX6_isSpanned_28 : decode cX6_isSpanned 28 = .ok (.aload_n 0, 1) := by decide +kernel
theorem dX6_isSpanned_29 : decode cX6_isSpanned 29 = .ok (.sipush 256, 3) := by decide +kernel
theorem dX6_isSpanned_32 : decode cX6_isSpanned 32 = .ok (.invokevirtual 91, 3) := by decide +kernel
theorem dX6_isSpanned_35 : decode cX6_isSpanned 35 = .ok (.iload_n 1, 1) := by decide +kernel
theorem dX6_isSpanned_36 : decode cX6_isSpanned 36 = .ok (.baload, 1) := by decide +kernel
theorem dX6_isSpanned_37 : decode cX6_isSpanned 37 = .ok (.ifCond .eq 7, 3) := by decide +kernel
theorem dX6_isSpanned_40 : decode cX6_isSpanned 40 = .ok (.iconst 1, 1) := by decide +kernel
theorem dX6_isSpanned_41 : decode cX6_isSpanned 41 = .ok (.goto 4, 3) := by decide +kernel
theorem dX6_isSpanned_44 : decode cX6_isSpanned 44 = .ok (.iconst 0, 1) := by decide +kernel
theorem dX6_isSpanned_45 : decode cX6_isSpanned 45 = .ok (.ireturn, 1) := by decide +kernel
set_option maxRecDepth 20000 in
theorem ggX6_close_X6_span : GoodIn wsX6_close wsX6_span := goodIn_ca (goodIn_ca (goodIn_r _ [6, 7, 8, 9, 10, 5, 11, 16, 17, 18, 19, 20, 21, 22, 23] (by decide +kernel) (by decide +kernel)) (goodIn_sub (fun _ h => List.mem_cons_of_mem _ (List.mem_append_left _ (List.mem_append_right _ h))) (by decide +kernel))) (goodIn_sub (fun _ h => List.mem_cons_of_mem _ (List.mem_append_right _ h)) (by decide +kernel))
set_option maxRecDepth 20000 in
theorem gX6_close_X6_span : GoodIn wsX6_close (wsV RX6 91 RX6 yX6_span wsX6_span) := goodIn_app (goodIn_of _ (by decide +kernel)) ggX6_close_X6_span
set_option maxRecDepth 20000 in
theorem ggX6_close_X6_becomes_ : GoodIn wsX6_close wsX6_becomes_ := goodIn_ca (goodIn_r _ [15, 8, 16, 17, 18, 19, 20, 21, 22, 23] (by decide +kernel) (by decide +kernel)) (goodIn_sub (fun _ h => List.mem_cons_of_mem _ (List.mem_append_left _ (List.mem_append_right _ h))) (by decide +kernel))
set_option maxRecDepth 20000 in
theorem gX6_close_X6_becomes_ : GoodIn wsX6_close (wsV RX6 89 RX6 yX6_becomes_ wsX6_becomes_) := goodIn_app (goodIn_of _ (by decide +kernel)) ggX6_close_X6_becomes_
theorem dX6_close_0 : decode cX6_close 0 = .ok (.aload_n 0, 1) := by decide +kernel
theorem dX6_close_1 : decode cX6_close 1 = .ok (.iconst 0, 1) := by decide +kernel
theorem dX6_close_2 : decode cX6_close 2 = .ok (.putfield 26, 3) := by decide +kernel
theorem dX6_close_5 : decode cX6_close 5 = .ok (.aload_n 0, 1) := by decide +kernel
theorem dX6_close_6 : decode cX6_close 6 = .ok (.aload_n 0, 1) := by decide +kernel
theorem dX6_close_7 : decode cX6_close 7 = .ok (.sipush 256, 3) := by decide +kernel
theorem dX6_close_10 : decode cX6_close 10 = .ok (.invokevirtual 91, 3) := by decide +kernel
theorem dX6_close_13 : decode cX6_close 13 = .ok (.invokevirtual 89, 3) := by decide +kernel
theorem dX6_close_16 : decode cX6_close 16 = .ok (.ireturn, 1) := by decide +kernel
set_option maxRecDepth 20000 in
theorem ggX6_clear_X6_size : GoodIn wsX6_clear wsX6_size := goodIn_ca (goodIn_r _ [6, 7, 8, 13, 14, 15, 16, 17, 18, 19, 20] (by decide +kernel) (by decide +kernel)) (goodIn_sub (fun _ h => List.mem_cons_of_mem _ (List.mem_append_right _ h)) (by decide +kernel))
set_option maxRecDepth 20000 in
theorem gX6_clear_X6_size : GoodIn wsX6_clear (wsV RX6 85 RX6 yX6_size wsX6_size) := goodIn_app (goodIn_of _ (by decide +kernel)) ggX6_clear_X6_size
set_option maxRecDepth 20000 in
theorem ggX6_clear_X6_becomes_ : GoodIn wsX6_clear wsX6_becomes_ := goodIn_ca (goodIn_r _ [12, 8, 13, 14, 15, 16, 17, 18, 19, 20] (by decide +kernel) (by decide +kernel)) (goodIn_sub (fun _ h => List.mem_cons_of_mem _ (List.mem_append_right _ h)) (by decide +kernel))
set_option maxRecDepth 20000 in
theorem gX6_clear_X6_becomes_ : GoodIn wsX6_clear (wsV RX6 89 RX6 yX6_becomes_ wsX6_becomes_) := goodIn_app (goodIn_of _ (by decide +kernel)) ggX6_clear_X6_becomes_
theorem dX6_clear_0 : decode cX6_clear 0 = .ok (.aload_n 0, 1) := by decide +kernel
theorem dX6_clear_1 : decode cX6_clear 1 = .ok (.invokevirtual 85, 3) := by decide +kernel
theorem dX6_clear_4 : decode cX6_clear 4 = .ok (.istore_n 1, 1) := by decide +kernel
theorem dX6_clear_5 : decode cX6_clear 5 = .ok (.aload_n 0, 1) := by decide +kernel
theorem dX6_clear_6 : decode cX6_clear 6 = .ok (.sipush 256, 3) := by decide +kernel
theorem dX6_clear_9 : decode cX6_clear 9 = .ok (.newarray .boolean, 2) := by decide +kernel
theorem dX6_clear_11 : decode cX6_clear 11 = .ok (.invokevirtual 89, 3) := by decide +kernel
theorem dX6_clear_14 : decode cX6_clear 14 = .ok (.istore_n 2, 1) := by decide +kernel
theorem dX6_clear_15 : decode cX6_clear 15 = .ok (.iload_n 2, 1) := by decide +kernel
theorem dX6_clear_16 : decode cX6_clear 16 = .ok (.ifCond .ne 7, 3) := by decide +kernel
theorem dX6_clear_19 : decode cX6_clear 19 = .ok (.iload_n 1, 1) := by decide +kernel
theorem dX6_clear_20 : decode cX6_clear 20 = .ok (.goto 4, 3) := by decide +kernel
theorem dX6_clear_23 : decode cX6_clear 23 = .ok (.iconst (-1), 1) := by decide +kernel
theorem dX6_clear_24 : decode cX6_clear 24 = .ok (.ireturn, 1) := by decide +kernel
theorem dX6_isPlace_0 : decode cX6_isPlace 0 = .ok (.iload_n 0, 1) := by decide +kernel
theorem dX6_isPlace_1 : decode cX6_isPlace 1 = .ok (.ifCond .lt 21, 3) := by decide +kernel
theorem dX6_isPlace_4 : decode cX6_isPlace 4 = .ok (.iload_n 0, 1) := by decide +kernel
theorem dX6_isPlace_5 : decode cX6_isPlace 5 = .ok (.iconst 4, 1) := by decide +kernel
theorem dX6_isPlace_6 : decode cX6_isPlace 6 = .ok (.if_icmp .ge 16, 3) := by decide +kernel
theorem dX6_isPlace_9 : decode cX6_isPlace 9 = .ok (.iload_n 1, 1) := by decide +kernel
theorem dX6_isPlace_10 : decode cX6_isPlace 10 = .ok (.ifCond .lt 12, 3) := by decide +kernel
theorem dX6_isPlace_13 : decode cX6_isPlace 13 = .ok (.iload_n 1, 1) := by decide +kernel
theorem dX6_isPlace_14 : decode cX6_isPlace 14 = .ok (.iconst 4, 1) := by decide +kernel
theorem dX6_isPlace_15 : decode cX6_isPlace 15 = .ok (.if_icmp .ge 7, 3) := by decide +kernel
theorem dX6_isPlace_18 : decode cX6_isPlace 18 = .ok (.iconst 1, 1) := by decide +kernel
theorem dX6_isPlace_19 : decode cX6_isPlace 19 = .ok (.goto 4, 3) := by decide +kernel
theorem dX6_isPlace_22 : decode cX6_isPlace 22 = .ok (.iconst 0, 1) := by decide +kernel
theorem dX6_isPlace_23 : decode cX6_isPlace 23 = .ok (.ireturn, 1) := by decide +kernel
theorem dX6_coin_0 : decode cX6_coin 0 = .ok (.iconst 1, 1) := by decide +kernel
theorem dX6_coin_1 : decode cX6_coin 1 = .ok (.iconst 4, 1) := by decide +kernel
theorem dX6_coin_2 : decode cX6_coin 2 = .ok (.iload_n 0, 1) := by decide +kernel
theorem dX6_coin_3 : decode cX6_coin 3 = .ok (.imul, 1) := by decide +kernel
theorem dX6_coin_4 : decode cX6_coin 4 = .ok (.iload_n 1, 1) := by decide +kernel
theorem dX6_coin_5 : decode cX6_coin 5 = .ok (.iadd, 1) := by decide +kernel
theorem dX6_coin_6 : decode cX6_coin 6 = .ok (.ishl, 1) := by decide +kernel
theorem dX6_coin_7 : decode cX6_coin 7 = .ok (.ireturn, 1) := by decide +kernel
set_option maxRecDepth 20000 in
theorem ggX6_isUp_X6_coin : GoodIn wsX6_isUp wsX6_coin := goodIn_r _ [4] (by decide +kernel) (by decide +kernel)
set_option maxRecDepth 20000 in
theorem gX6_isUp_X6_coin : GoodIn wsX6_isUp (va_wsS RX6 95 yX6_coin wsX6_coin) := goodIn_app (goodIn_of _ (by decide +kernel)) ggX6_isUp_X6_coin
theorem dX6_isUp_0 : decode cX6_isUp 0 = .ok (.iload_n 0, 1) := by decide +kernel
theorem dX6_isUp_1 : decode cX6_isUp 1 = .ok (.iload_n 1, 1) := by decide +kernel
theorem dX6_isUp_2 : decode cX6_isUp 2 = .ok (.iload_n 2, 1) := by decide +kernel
theorem dX6_isUp_3 : decode cX6_isUp 3 = .ok (.invokestatic 95, 3) := by decide +kernel
theorem dX6_isUp_6 : decode cX6_isUp 6 = .ok (.iand, 1) := by decide +kernel
theorem dX6_isUp_7 : decode cX6_isUp 7 = .ok (.ifCond .eq 7, 3) := by decide +kernel
theorem dX6_isUp_10 : decode cX6_isUp 10 = .ok (.iconst 1, 1) := by decide +kernel
theorem dX6_isUp_11 : decode cX6_isUp 11 = .ok (.goto 4, 3) := by decide +kernel
theorem dX6_isUp_14 : decode cX6_isUp 14 = .ok (.iconst 0, 1) := by decide +kernel
theorem dX6_isUp_15 : decode cX6_isUp 15 = .ok (.ireturn, 1) := by decide +kernel
set_option maxRecDepth 20000 in
theorem ggX6_turned_X6_coin : GoodIn wsX6_turned wsX6_coin := goodIn_r _ [4] (by decide +kernel) (by decide +kernel)
set_option maxRecDepth 20000 in
theorem gX6_turned_X6_coin : GoodIn wsX6_turned (va_wsS RX6 95 yX6_coin wsX6_coin) := goodIn_app (goodIn_of _ (by decide +kernel)) ggX6_turned_X6_coin
theorem dX6_turned_0 : decode cX6_turned 0 = .ok (.iload_n 0, 1) := by decide +kernel
theorem dX6_turned_1 : decode cX6_turned 1 = .ok (.iload_n 1, 1) := by decide +kernel
theorem dX6_turned_2 : decode cX6_turned 2 = .ok (.iload_n 2, 1) := by decide +kernel
theorem dX6_turned_3 : decode cX6_turned 3 = .ok (.invokestatic 95, 3) := by decide +kernel
theorem dX6_turned_6 : decode cX6_turned 6 = .ok (.ixor, 1) := by decide +kernel
theorem dX6_turned_7 : decode cX6_turned 7 = .ok (.iload_n 3, 1) := by decide +kernel
theorem dX6_turned_8 : decode cX6_turned 8 = .ok (.iload_n 2, 1) := by decide +kernel
theorem dX6_turned_9 : decode cX6_turned 9 = .ok (.invokestatic 95, 3) := by decide +kernel
theorem dX6_turned_12 : decode cX6_turned 12 = .ok (.ixor, 1) := by decide +kernel
theorem dX6_turned_13 : decode cX6_turned 13 = .ok (.iload_n 1, 1) := by decide +kernel
theorem dX6_turned_14 : decode cX6_turned 14 = .ok (.iload 4, 2) := by decide +kernel
theorem dX6_turned_16 : decode cX6_turned 16 = .ok (.invokestatic 95, 3) := by decide +kernel
theorem dX6_turned_19 : decode cX6_turned 19 = .ok (.ixor, 1) := by decide +kernel
theorem dX6_turned_20 : decode cX6_turned 20 = .ok (.iload_n 3, 1) := by decide +kernel
theorem dX6_turned_21 : decode cX6_turned 21 = .ok (.iload 4, 2) := by decide +kernel
theorem dX6_turned_23 : decode cX6_turned 23 = .ok (.invokestatic 95, 3) := by decide +kernel
theorem dX6_turned_26 : decode cX6_turned 26 = .ok (.ixor, 1) := by decide +kernel
theorem dX6_turned_27 : decode cX6_turned 27 = .ok (.ireturn, 1) := by decide +kernel
set_option maxRecDepth 20000 in
theorem ggX6_worthOf_X6_isUp : GoodIn wsX6_worthOf wsX6_isUp := goodIn_r _ [6, 7, 8, 5, 9] (by decide +kernel) (by decide +kernel)
set_option maxRecDepth 20000 in
theorem gX6_worthOf_X6_isUp : GoodIn wsX6_worthOf (va_wsS RX6 98 yX6_isUp wsX6_isUp) := goodIn_app (goodIn_of _ (by decide +kernel)) ggX6_worthOf_X6_isUp
set_option maxRecDepth 20000 in
theorem ggX6_worthOf_X6_turned : GoodIn wsX6_worthOf wsX6_turned := goodIn_r _ [12, 7, 8, 5, 9] (by decide +kernel) (by decide +kernel)
set_option maxRecDepth 20000 in
theorem gX6_worthOf_X6_turned : GoodIn wsX6_worthOf (va_wsS RX6 101 yX6_turned wsX6_turned) := goodIn_app (goodIn_of _ (by decide +kernel)) ggX6_worthOf_X6_turned
set_option maxRecDepth 20000 in
theorem ggX6_worthOf_X6_worthOf : GoodIn wsX6_worthOf wsX6_worthOf := goodIn_ca (goodIn_r _ [0, 1, 2, 3, 4, 5, 6, 7, 8, 9, 10, 11, 12, 13, 14, 15, 16, 17, 18, 19, 20, 21, 22, 23, 24, 25, 26] (by decide +kernel) (by decide +kernel)) (goodIn_sub (fun _ h => List.mem_cons_of_mem _ (List.mem_append_right _ h)) (by decide +kernel))
set_option maxRecDepth 20000 in
theorem gX6_worthOf_X6_worthOf : GoodIn wsX6_worthOf (wsV RX6 105 RX6 yX6_worthOf wsX6_worthOf) := goodIn_app (goodIn_of _ (by decide +kernel)) ggX6_worthOf_X6_worthOf
set_option maxRecDepth 20000 in
theorem ggX6_worthOf_X6_leastOutOf : GoodIn wsX6_worthOf wsX6_leastOutOf := goodIn_ca (goodIn_r _ [18] (by decide +kernel) (by decide +kernel)) (goodIn_sub (fun _ h => List.mem_cons_of_mem _ (List.mem_append_right _ h)) (by decide +kernel))
set_option maxRecDepth 20000 in
theorem gX6_worthOf_X6_leastOutOf : GoodIn wsX6_worthOf (va_wsS RX6 45 yX6_leastOutOf wsX6_leastOutOf) := goodIn_app (goodIn_of _ (by decide +kernel)) ggX6_worthOf_X6_leastOutOf
theorem dX6_worthOf_0 : decode cX6_worthOf 0 = .ok (.iload_n 1, 1) := by decide +kernel
theorem dX6_worthOf_1 : decode cX6_worthOf 1 = .ok (.iconst 5, 1) := by decide +kernel
theorem dX6_worthOf_2 : decode cX6_worthOf 2 = .ok (.ishr, 1) := by decide +kernel
theorem dX6_worthOf_3 : decode cX6_worthOf 3 = .ok (.bipush 7, 2) := by decide +kernel
theorem dX6_worthOf_5 : decode cX6_worthOf 5 = .ok (.iand, 1) := by decide +kernel
theorem dX6_worthOf_6 : decode cX6_worthOf 6 = .ok (.bipush 8, 2) := by decide +kernel
theorem dX6_worthOf_8 : decode cX6_worthOf 8 = .ok (.iload_n 1, 1) := by decide +kernel
theorem dX6_worthOf_9 : decode cX6_worthOf 9 = .ok (.bipush 9, 2) := by decide +kernel
theorem dX6_worthOf_11 : decode cX6_worthOf 11 = .ok (.ishr, 1) := by decide +kernel
theorem dX6_worthOf_12 : decode cX6_worthOf 12 = .ok (.bipush 7, 2) := by decide +kernel
theorem dX6_worthOf_14 : decode cX6_worthOf 14 = .ok (.iand, 1) := by decide +kernel
theorem dX6_worthOf_15 : decode cX6_worthOf 15 = .ok (.imul, 1) := by decide +kernel
theorem dX6_worthOf_16 : decode cX6_worthOf 16 = .ok (.iadd, 1) := by decide +kernel
theorem dX6_worthOf_17 : decode cX6_worthOf 17 = .ok (.bipush 64, 2) := by decide +kernel
theorem dX6_worthOf_19 : decode cX6_worthOf 19 = .ok (.iload_n 1, 1) := by decide +kernel
theorem dX6_worthOf_20 : decode cX6_worthOf 20 = .ok (.bipush 13, 2) := by decide +kernel
theorem dX6_worthOf_22 : decode cX6_worthOf 22 = .ok (.ishr, 1) := by decide +kernel
theorem dX6_worthOf_23 : decode cX6_worthOf 23 = .ok (.bipush 7, 2) := by decide +kernel
theorem dX6_worthOf_25 : decode cX6_worthOf 25 = .ok (.iand, 1) := by decide +kernel
theorem dX6_worthOf_26 : decode cX6_worthOf 26 = .ok (.imul, 1) := by decide +kernel
theorem dX6_worthOf_27 : decode cX6_worthOf 27 = .ok (.iadd, 1) := by decide +kernel
theorem dX6_worthOf_28 : decode cX6_worthOf 28 = .ok (.istore_n 2, 1) := by decide +kernel
theorem dX6_worthOf_29 : decode cX6_worthOf 29 = .ok (.aload_n 0, 1) := by decide +kernel
theorem dX6_worthOf_30 : decode cX6_worthOf 30 = .ok (.getfield 23, 3) := by decide +kernel
theorem dX6_worthOf_33 : decode cX6_worthOf 33 = .ok (.iload_n 2, 1) := by decide +kernel
theorem dX6_worthOf_34 : decode cX6_worthOf 34 = .ok (.iaload, 1) := by decide +kernel
theorem dX6_worthOf_35 : decode cX6_worthOf 35 = .ok (.ifCond .le 12, 3) := by decide +kernel
theorem dX6_worthOf_38 : decode cX6_worthOf 38 = .ok (.aload_n 0, 1) := by decide +kernel
theorem dX6_worthOf_39 : decode cX6_worthOf 39 = .ok (.getfield 23, 3) := by decide +kernel
theorem dX6_worthOf_42 : decode cX6_worthOf 42 = .ok (.iload_n 2, 1) := by decide +kernel
theorem dX6_worthOf_43 : decode cX6_worthOf 43 = .ok (.iaload, 1) := by decide +kernel
theorem dX6_worthOf_44 : decode cX6_worthOf 44 = .ok (.iconst 1, 1) := by decide +kernel
theorem dX6_worthOf_45 : decode cX6_worthOf 45 = .ok (.isub, 1) := by decide +kernel
theorem dX6_worthOf_46 : decode cX6_worthOf 46 = .ok (.ireturn, 1) := by decide +kernel
theorem dX6_worthOf_47 : decode cX6_worthOf 47 = .ok (.bipush 40, 2) := by decide +kernel
theorem dX6_worthOf_49 : decode cX6_worthOf 49 = .ok (.newarray .boolean, 2) := by decide +kernel
theorem dX6_worthOf_51 : decode cX6_worthOf 51 = .ok (.astore_n 3, 1) := by decide +kernel
theorem dX6_worthOf_52 : decode cX6_worthOf 52 = .ok (.iconst 1, 1) := by decide +kernel
theorem dX6_worthOf_53 : decode cX6_worthOf 53 = .ok (.istore 4, 2) := by decide +kernel
theorem dX6_worthOf_55 : decode cX6_worthOf 55 = .ok (.iload 4, 2) := by decide +kernel
theorem dX6_worthOf_57 : decode cX6_worthOf 57 = .ok (.iconst 4, 1) := by decide +kernel
theorem dX6_worthOf_58 : decode cX6_worthOf 58 = .ok (.if_icmp .ge 86, 3) := by decide +kernel
theorem dX6_worthOf_61 : decode cX6_worthOf 61 = .ok (.iconst 1, 1) := by decide +kernel
theorem dX6_worthOf_62 : decode cX6_worthOf 62 = .ok (.istore 5, 2) := by decide +kernel
theorem dX6_worthOf_64 : decode cX6_worthOf 64 = .ok (.iload 5, 2) := by decide +kernel
theorem dX6_worthOf_66 : decode cX6_worthOf 66 = .ok (.iconst 4, 1) := by decide +kernel
theorem dX6_worthOf_67 : decode cX6_worthOf 67 = .ok (.if_icmp .ge 71, 3) := by decide +kernel
theorem dX6_worthOf_70 : decode cX6_worthOf 70 = .ok (.iconst 0, 1) := by decide +kernel
theorem dX6_worthOf_71 : decode cX6_worthOf 71 = .ok (.istore 6, 2) := by decide +kernel
theorem dX6_worthOf_73 : decode cX6_worthOf 73 = .ok (.iload 6, 2) := by decide +kernel
theorem dX6_worthOf_75 : decode cX6_worthOf 75 = .ok (.iload 4, 2) := by decide +kernel
theorem dX6_worthOf_77 : decode cX6_worthOf 77 = .ok (.if_icmp .ge 55, 3) := by decide +kernel
theorem dX6_worthOf_80 : decode cX6_worthOf 80 = .ok (.iload_n 1, 1) := by decide +kernel
theorem dX6_worthOf_81 : decode cX6_worthOf 81 = .ok (.iload 4, 2) := by decide +kernel
theorem dX6_worthOf_83 : decode cX6_worthOf 83 = .ok (.iload 5, 2) := by decide +kernel
theorem dX6_worthOf_85 : decode cX6_worthOf 85 = .ok (.invokestatic 98, 3) := by decide +kernel
theorem dX6_worthOf_88 : decode cX6_worthOf 88 = .ok (.ifCond .eq 44, 3) := by decide +kernel
theorem dX6_worthOf_91 : decode cX6_worthOf 91 = .ok (.iconst 0, 1) := by decide +kernel
theorem dX6_worthOf_92 : decode cX6_worthOf 92 = .ok (.istore 7, 2) := by decide +kernel
theorem dX6_worthOf_94 : decode cX6_worthOf 94 = .ok (.iload 7, 2) := by decide +kernel
theorem dX6_worthOf_96 : decode cX6_worthOf 96 = .ok (.iload 5, 2) := by decide +kernel
theorem dX6_worthOf_98 : decode cX6_worthOf 98 = .ok (.if_icmp .ge 28, 3) := by decide +kernel
theorem dX6_worthOf_101 : decode cX6_worthOf 101 = .ok (.aload_n 3, 1) := by decide +kernel
theorem dX6_worthOf_102 : decode cX6_worthOf 102 = .ok (.aload_n 0, 1) := by decide +kernel
theorem dX6_worthOf_103 : decode cX6_worthOf 103 = .ok (.iload_n 1, 1) := by decide +kernel
theorem dX6_worthOf_104 : decode cX6_worthOf 104 = .ok (.iload 4, 2) := by decide +kernel
theorem dX6_worthOf_106 : decode cX6_worthOf 106 = .ok (.iload 5, 2) := by decide +kernel
theorem dX6_worthOf_108 : decode cX6_worthOf 108 = .ok (.iload 6, 2) := by decide +kernel
theorem dX6_worthOf_110 : decode cX6_worthOf 110 = .ok (.iload 7, 2) := by decide +kernel
theorem dX6_worthOf_112 : decode cX6_worthOf 112 = .ok (.invokestatic 101, 3) := by decide +kernel
theorem dX6_worthOf_115 : decode cX6_worthOf 115 = .ok (.invokevirtual 105, 3) := by decide +kernel
theorem dX6_worthOf_118 : decode cX6_worthOf 118 = .ok (.iconst 1, 1) := by decide +kernel
theorem dX6_worthOf_119 : decode cX6_worthOf 119 = .ok (.bastore, 1) := by decide +kernel
theorem dX6_worthOf_120 : decode cX6_worthOf 120 = .ok (.iinc 7 1, 3) := by decide +kernel
theorem dX6_worthOf_123 : decode cX6_worthOf 123 = .ok (.goto (-29), 3) := by decide +kernel
theorem dX6_worthOf_126 : decode cX6_worthOf 126 = .ok (.iinc 6 1, 3) := by decide +kernel
theorem dX6_worthOf_129 : decode cX6_worthOf 129 = .ok (.goto (-56), 3) := by decide +kernel
theorem dX6_worthOf_132 : decode cX6_worthOf 132 = .ok (.iinc 5 1, 3) := by decide +kernel
theorem dX6_worthOf_135 : decode cX6_worthOf 135 = .ok (.goto (-71), 3) := by decide +kernel
theorem dX6_worthOf_138 : decode cX6_worthOf 138 = .ok (.iinc 4 1, 3) := by decide +kernel
theorem dX6_worthOf_141 : decode cX6_worthOf 141 = .ok (.goto (-86), 3) := by decide +kernel
theorem dX6_worthOf_144 : decode cX6_worthOf 144 = .ok (.aload_n 3, 1) := by decide +kernel
theorem dX6_worthOf_145 : decode cX6_worthOf 145 = .ok (.invokestatic 45, 3) := by decide +kernel
theorem dX6_worthOf_148 : decode cX6_worthOf 148 = .ok (.istore 4, 2) := by decide +kernel
theorem dX6_worthOf_150 : decode cX6_worthOf 150 = .ok (.aload_n 0, 1) := by decide +kernel
theorem dX6_worthOf_151 : decode cX6_worthOf 151 = .ok (.getfield 23, 3) := by decide +kernel
theorem dX6_worthOf_154 : decode cX6_worthOf 154 = .ok (.iload_n 2, 1) := by decide +kernel
theorem dX6_worthOf_155 : decode cX6_worthOf 155 = .ok (.iload 4, 2) := by decide +kernel
theorem dX6_worthOf_157 : decode cX6_worthOf 157 = .ok (.iconst 1, 1) := by decide +kernel
theorem dX6_worthOf_158 : decode cX6_worthOf 158 = .ok (.iadd, 1) := by decide +kernel
theorem dX6_worthOf_159 : decode cX6_worthOf 159 = .ok (.iastore, 1) := by decide +kernel
theorem dX6_worthOf_160 : decode cX6_worthOf 160 = .ok (.iload 4, 2) := by decide +kernel
theorem dX6_worthOf_162 : decode cX6_worthOf 162 = .ok (.ireturn, 1) := by decide +kernel
set_option maxRecDepth 20000 in
theorem ggX6_turn_X6_isPlace : GoodIn wsX6_turn wsX6_isPlace := goodIn_r _ [6] (by decide +kernel) (by decide +kernel)
set_option maxRecDepth 20000 in
theorem gX6_turn_X6_isPlace : GoodIn wsX6_turn (va_wsS RX6 108 yX6_isPlace wsX6_isPlace) := goodIn_app (goodIn_of _ (by decide +kernel)) ggX6_turn_X6_isPlace
set_option maxRecDepth 20000 in
theorem ggX6_turn_X6_fails : GoodIn wsX6_turn wsX6_fails := goodIn_r _ [10, 1, 17, 18, 19, 20, 21, 22, 23, 24] (by decide +kernel) (by decide +kernel)
set_option maxRecDepth 20000 in
theorem gX6_turn_X6_fails : GoodIn wsX6_turn (wsV RX6 34 RX6 yX6_fails wsX6_fails) := goodIn_app (goodIn_of _ (by decide +kernel)) ggX6_turn_X6_fails
set_option maxRecDepth 20000 in
theorem ggX6_turn_X6_coin : GoodIn wsX6_turn wsX6_coin := goodIn_r _ [13] (by decide +kernel) (by decide +kernel)
set_option maxRecDepth 20000 in
theorem gX6_turn_X6_coin : GoodIn wsX6_turn (va_wsS RX6 95 yX6_coin wsX6_coin) := goodIn_app (goodIn_of _ (by decide +kernel)) ggX6_turn_X6_coin
set_option maxRecDepth 20000 in
theorem ggX6_turn_X6_isUp : GoodIn wsX6_turn wsX6_isUp := goodIn_r _ [16, 11, 12, 5, 13] (by decide +kernel) (by decide +kernel)
set_option maxRecDepth 20000 in
theorem gX6_turn_X6_isUp : GoodIn wsX6_turn (va_wsS RX6 98 yX6_isUp wsX6_isUp) := goodIn_app (goodIn_of _ (by decide +kernel)) ggX6_turn_X6_isUp
theorem dX6_turn_0 : decode cX6_turn 0 = .ok (.aload_n 0, 1) := by decide +kernel
theorem dX6_turn_1 : decode cX6_turn 1 = .ok (.iconst 0, 1) := by decide +kernel
theorem dX6_turn_2 : decode cX6_turn 2 = .ok (.putfield 26, 3) := by decide +kernel
theorem dX6_turn_5 : decode cX6_turn 5 = .ok (.aload_n 0, 1) := by decide +kernel
theorem dX6_turn_6 : decode cX6_turn 6 = .ok (.iload_n 1, 1) := by decide +kernel
theorem dX6_turn_7 : decode cX6_turn 7 = .ok (.iload_n 2, 1) := by decide +kernel
theorem dX6_turn_8 : decode cX6_turn 8 = .ok (.invokestatic 108, 3) := by decide +kernel
theorem dX6_turn_11 : decode cX6_turn 11 = .ok (.ifCond .ne 7, 3) := by decide +kernel
theorem dX6_turn_14 : decode cX6_turn 14 = .ok (.iconst 1, 1) := by decide +kernel
theorem dX6_turn_15 : decode cX6_turn 15 = .ok (.goto 4, 3) := by decide +kernel
theorem dX6_turn_18 : decode cX6_turn 18 = .ok (.iconst 0, 1) := by decide +kernel
theorem dX6_turn_19 : decode cX6_turn 19 = .ok (.iconst 1, 1) := by decide +kernel
theorem dX6_turn_20 : decode cX6_turn 20 = .ok (.invokevirtual 34, 3) := by decide +kernel
theorem dX6_turn_23 : decode cX6_turn 23 = .ok (.ifCond .eq 5, 3) := by decide +kernel
theorem dX6_turn_26 : decode cX6_turn 26 = .ok (.iconst 0, 1) := by decide +kernel
theorem dX6_turn_27 : decode cX6_turn 27 = .ok (.ireturn, 1) := by decide +kernel
theorem dX6_turn_28 : decode cX6_turn 28 = .ok (.aload_n 0, 1) := by decide +kernel
theorem dX6_turn_29 : decode cX6_turn 29 = .ok (.aload_n 0, 1) := by decide +kernel
theorem dX6_turn_30 : decode cX6_turn 30 = .ok (.getfield 111, 3) := by decide +kernel
theorem dX6_turn_33 : decode cX6_turn 33 = .ok (.iload_n 1, 1) := by decide +kernel
theorem dX6_turn_34 : decode cX6_turn 34 = .ok (.iload_n 2, 1) := by decide +kernel
theorem dX6_turn_35 : decode cX6_turn 35 = .ok (.invokestatic 95, 3) := by decide +kernel
theorem dX6_turn_38 : decode cX6_turn 38 = .ok (.ixor, 1) := by decide +kernel
theorem dX6_turn_39 : decode cX6_turn 39 = .ok (.putfield 111, 3) := by decide +kernel
theorem dX6_turn_42 : decode cX6_turn 42 = .ok (.aload_n 0, 1) := by decide +kernel
theorem dX6_turn_43 : decode cX6_turn 43 = .ok (.getfield 111, 3) := by decide +kernel
theorem dX6_turn_46 : decode cX6_turn 46 = .ok (.iload_n 1, 1) := by decide +kernel
theorem dX6_turn_47 : decode cX6_turn 47 = .ok (.iload_n 2, 1) := by decide +kernel
theorem dX6_turn_48 : decode cX6_turn 48 = .ok (.invokestatic 98, 3) := by decide +kernel
theorem dX6_turn_51 : decode cX6_turn 51 = .ok (.ireturn, 1) := by decide +kernel
set_option maxRecDepth 20000 in
theorem ggX6_isUp__X6_isPlace : GoodIn wsX6_isUp_ wsX6_isPlace := goodIn_r _ [6] (by decide +kernel) (by decide +kernel)
set_option maxRecDepth 20000 in
theorem gX6_isUp__X6_isPlace : GoodIn wsX6_isUp_ (va_wsS RX6 108 yX6_isPlace wsX6_isPlace) := goodIn_app (goodIn_of _ (by decide +kernel)) ggX6_isUp__X6_isPlace
set_option maxRecDepth 20000 in
theorem ggX6_isUp__X6_fails : GoodIn wsX6_isUp_ wsX6_fails := goodIn_r _ [10, 1, 17, 18, 19, 20, 21, 22, 23, 24] (by decide +kernel) (by decide +kernel)
set_option maxRecDepth 20000 in
theorem gX6_isUp__X6_fails : GoodIn wsX6_isUp_ (wsV RX6 34 RX6 yX6_fails wsX6_fails) := goodIn_app (goodIn_of _ (by decide +kernel)) ggX6_isUp__X6_fails
set_option maxRecDepth 20000 in
theorem ggX6_isUp__X6_isUp : GoodIn wsX6_isUp_ wsX6_isUp := goodIn_r _ [13, 14, 15, 5, 16] (by decide +kernel) (by decide +kernel)
set_option maxRecDepth 20000 in
theorem gX6_isUp__X6_isUp : GoodIn wsX6_isUp_ (va_wsS RX6 98 yX6_isUp wsX6_isUp) := goodIn_app (goodIn_of _ (by decide +kernel)) ggX6_isUp__X6_isUp
theorem dX6_isUp__0 : decode cX6_isUp_ 0 = .ok (.aload_n 0, 1) := by decide +kernel
theorem dX6_isUp__1 : decode cX6_isUp_ 1 = .ok (.iconst 0, 1) := by decide +kernel
theorem dX6_isUp__2 : decode cX6_isUp_ 2 = .ok (.putfield 26, 3) := by decide +kernel
theorem dX6_isUp__5 : decode cX6_isUp_ 5 = .ok (.aload_n 0, 1) := by decide +kernel
theorem dX6_isUp__6 : decode cX6_isUp_ 6 = .ok (.iload_n 1, 1) := by decide +kernel
theorem dX6_isUp__7 : decode cX6_isUp_ 7 = .ok (.iload_n 2, 1) := by decide +kernel
theorem dX6_isUp__8 : decode cX6_isUp_ 8 = .ok (.invokestatic 108, 3) := by decide +kernel
theorem dX6_isUp__11 : decode cX6_isUp_ 11 = .ok (.ifCond .ne 7, 3) := by decide +kernel
theorem dX6_isUp__14 : decode cX6_isUp_ 14 = .ok (.iconst 1, 1) := by decide +kernel
theorem dX6_isUp__15 : decode cX6_isUp_ 15 = .ok (.goto 4, 3) := by decide +kernel
theorem dX6_isUp__18 : decode cX6_isUp_ 18 = .ok (.iconst 0, 1) := by decide +kernel
theorem dX6_isUp__19 : decode cX6_isUp_ 19 = .ok (.iconst 1, 1) := by decide +kernel
theorem dX6_isUp__20 : decode cX6_isUp_ 20 = .ok (.invokevirtual 34, 3) := by decide +kernel
theorem dX6_isUp__23 : decode cX6_isUp_ 23 = .ok (.ifCond .ne 19, 3) := by decide +kernel
theorem dX6_isUp__26 : decode cX6_isUp_ 26 = .ok (.aload_n 0, 1) := by decide +kernel
theorem dX6_isUp__27 : decode cX6_isUp_ 27 = .ok (.getfield 111, 3) := by decide +kernel
theorem dX6_isUp__30 : decode cX6_isUp_ 30 = .ok (.iload_n 1, 1) := by decide +kernel
theorem dX6_isUp__31 : decode cX6_isUp_ 31 = .ok (.iload_n 2, 1) := by decide +kernel
theorem dX6_isUp__32 : decode cX6_isUp_ 32 = .ok (.invokestatic 98, 3) := by decide +kernel
theorem dX6_isUp__35 : decode cX6_isUp_ 35 = .ok (.ifCond .eq 7, 3) := by decide +kernel
theorem dX6_isUp__38 : decode cX6_isUp_ 38 = .ok (.iconst 1, 1) := by decide +kernel
theorem dX6_isUp__39 : decode cX6_isUp_ 39 = .ok (.goto 4, 3) := by decide +kernel
theorem dX6_isUp__42 : decode cX6_isUp_ 42 = .ok (.iconst 0, 1) := by decide +kernel
theorem dX6_isUp__43 : decode cX6_isUp_ 43 = .ok (.ireturn, 1) := by decide +kernel
set_option maxRecDepth 20000 in
theorem ggX6_worth_X6_worthOf : GoodIn wsX6_worth wsX6_worthOf := goodIn_ca (goodIn_r _ [7, 8, 9, 10, 11, 6, 12, 13, 14, 15, 16, 17, 18, 3, 4, 5, 19, 20, 21, 22, 23, 24, 25, 26, 27, 28, 29] (by decide +kernel) (by decide +kernel)) (goodIn_sub (fun _ h => List.mem_cons_of_mem _ (List.mem_append_right _ h)) (by decide +kernel))
set_option maxRecDepth 20000 in
theorem gX6_worth_X6_worthOf : GoodIn wsX6_worth (wsV RX6 105 RX6 yX6_worthOf wsX6_worthOf) := goodIn_app (goodIn_of _ (by decide +kernel)) ggX6_worth_X6_worthOf
theorem dX6_worth_0 : decode cX6_worth 0 = .ok (.aload_n 0, 1) := by decide +kernel
theorem dX6_worth_1 : decode cX6_worth 1 = .ok (.iconst 0, 1) := by decide +kernel
theorem dX6_worth_2 : decode cX6_worth 2 = .ok (.putfield 26, 3) := by decide +kernel
theorem dX6_worth_5 : decode cX6_worth 5 = .ok (.aload_n 0, 1) := by decide +kernel
theorem dX6_worth_6 : decode cX6_worth 6 = .ok (.aload_n 0, 1) := by decide +kernel
theorem dX6_worth_7 : decode cX6_worth 7 = .ok (.getfield 111, 3) := by decide +kernel
theorem dX6_worth_10 : decode cX6_worth 10 = .ok (.invokevirtual 105, 3) := by decide +kernel
theorem dX6_worth_13 : decode cX6_worth 13 = .ok (.ireturn, 1) := by decide +kernel
set_option maxRecDepth 20000 in
theorem ggX6_plays_X6_isUp : GoodIn wsX6_plays wsX6_isUp := goodIn_r _ [6, 7, 8, 5, 9] (by decide +kernel) (by decide +kernel)
set_option maxRecDepth 20000 in
theorem gX6_plays_X6_isUp : GoodIn wsX6_plays (va_wsS RX6 98 yX6_isUp wsX6_isUp) := goodIn_app (goodIn_of _ (by decide +kernel)) ggX6_plays_X6_isUp
theorem dX6_plays_0 : decode cX6_plays 0 = .ok (.aload_n 0, 1) := by decide +kernel
theorem dX6_plays_1 : decode cX6_plays 1 = .ok (.iconst 0, 1) := by decide +kernel
theorem dX6_plays_2 : decode cX6_plays 2 = .ok (.putfield 26, 3) := by decide +kernel
theorem dX6_plays_5 : decode cX6_plays 5 = .ok (.iconst 0, 1) := by decide +kernel
theorem dX6_plays_6 : decode cX6_plays 6 = .ok (.istore_n 1, 1) := by decide +kernel
theorem dX6_plays_7 : decode cX6_plays 7 = .ok (.iconst 1, 1) := by decide +kernel
theorem dX6_plays_8 : decode cX6_plays 8 = .ok (.istore_n 2, 1) := by decide +kernel
theorem dX6_plays_9 : decode cX6_plays 9 = .ok (.iload_n 2, 1) := by decide +kernel
theorem dX6_plays_10 : decode cX6_plays 10 = .ok (.iconst 4, 1) := by decide +kernel
theorem dX6_plays_11 : decode cX6_plays 11 = .ok (.if_icmp .ge 44, 3) := by decide +kernel
theorem dX6_plays_14 : decode cX6_plays 14 = .ok (.iconst 1, 1) := by decide +kernel
theorem dX6_plays_15 : decode cX6_plays 15 = .ok (.istore_n 3, 1) := by decide +kernel
theorem dX6_plays_16 : decode cX6_plays 16 = .ok (.iload_n 3, 1) := by decide +kernel
theorem dX6_plays_17 : decode cX6_plays 17 = .ok (.iconst 4, 1) := by decide +kernel
theorem dX6_plays_18 : decode cX6_plays 18 = .ok (.if_icmp .ge 31, 3) := by decide +kernel
theorem dX6_plays_21 : decode cX6_plays 21 = .ok (.iload_n 1, 1) := by decide +kernel
theorem dX6_plays_22 : decode cX6_plays 22 = .ok (.aload_n 0, 1) := by decide +kernel
theorem dX6_plays_23 : decode cX6_plays 23 = .ok (.getfield 111, 3) := by decide +kernel
theorem dX6_plays_26 : decode cX6_plays 26 = .ok (.iload_n 2, 1) := by decide +kernel
theorem dX6_plays_27 : decode cX6_plays 27 = .ok (.iload_n 3, 1) := by decide +kernel
theorem dX6_plays_28 : decode cX6_plays 28 = .ok (.invokestatic 98, 3) := by decide +kernel
theorem dX6_plays_31 : decode cX6_plays 31 = .ok (.ifCond .eq 9, 3) := by decide +kernel
theorem dX6_plays_34 : decode cX6_plays 34 = .ok (.iload_n 2, 1) := by decide +kernel
theorem dX6_plays_35 : decode cX6_plays 35 = .ok (.iload_n 3, 1) := by decide +kernel
theorem dX6_plays_36 : decode cX6_plays 36 = .ok (.imul, 1) := by decide +kernel
theorem dX6_plays_37 : decode cX6_plays 37 = .ok (.goto 4, 3) := by decide +kernel
theorem dX6_plays_40 : decode cX6_plays 40 = .ok (.iconst 0, 1) := by decide +kernel
theorem dX6_plays_41 : decode cX6_plays 41 = .ok (.iadd, 1) := by decide +kernel
theorem dX6_plays_42 : decode cX6_plays 42 = .ok (.istore_n 1, 1) := by decide +kernel
theorem dX6_plays_43 : decode cX6_plays 43 = .ok (.iinc 3 1, 3) := by decide +kernel
theorem dX6_plays_46 : decode cX6_plays 46 = .ok (.goto (-30), 3) := by decide +kernel
theorem dX6_plays_49 : decode cX6_plays 49 = .ok (.iinc 2 1, 3) := by decide +kernel
theorem dX6_plays_52 : decode cX6_plays 52 = .ok (.goto (-43), 3) := by decide +kernel
theorem dX6_plays_55 : decode cX6_plays 55 = .ok (.iload_n 1, 1) := by decide +kernel
theorem dX6_plays_56 : decode cX6_plays 56 = .ok (.ireturn, 1) := by decide +kernel
set_option maxRecDepth 20000 in
theorem ggX6_play_X6_isPlace : GoodIn wsX6_play wsX6_isPlace := goodIn_r _ [6] (by decide +kernel) (by decide +kernel)
set_option maxRecDepth 20000 in
theorem gX6_play_X6_isPlace : GoodIn wsX6_play (va_wsS RX6 108 yX6_isPlace wsX6_isPlace) := goodIn_app (goodIn_of _ (by decide +kernel)) ggX6_play_X6_isPlace
set_option maxRecDepth 20000 in
theorem ggX6_play_X6_fails : GoodIn wsX6_play wsX6_fails := goodIn_r _ [10, 1, 29, 30, 31, 32, 33, 34, 35, 36] (by decide +kernel) (by decide +kernel)
set_option maxRecDepth 20000 in
theorem gX6_play_X6_fails : GoodIn wsX6_play (wsV RX6 34 RX6 yX6_fails wsX6_fails) := goodIn_app (goodIn_of _ (by decide +kernel)) ggX6_play_X6_fails
set_option maxRecDepth 20000 in
theorem ggX6_play_X6_isUp : GoodIn wsX6_play wsX6_isUp := goodIn_r _ [13, 14, 15, 5, 16] (by decide +kernel) (by decide +kernel)
set_option maxRecDepth 20000 in
theorem gX6_play_X6_isUp : GoodIn wsX6_play (va_wsS RX6 98 yX6_isUp wsX6_isUp) := goodIn_app (goodIn_of _ (by decide +kernel)) ggX6_play_X6_isUp
set_option maxRecDepth 20000 in
theorem ggX6_play_X6_turned : GoodIn wsX6_play wsX6_turned := goodIn_r _ [19, 14, 15, 5, 16] (by decide +kernel) (by decide +kernel)
set_option maxRecDepth 20000 in
theorem gX6_play_X6_turned : GoodIn wsX6_play (va_wsS RX6 101 yX6_turned wsX6_turned) := goodIn_app (goodIn_of _ (by decide +kernel)) ggX6_play_X6_turned
set_option maxRecDepth 20000 in
theorem ggX6_play_X6_worthOf : GoodIn wsX6_play wsX6_worthOf := goodIn_ca (goodIn_r _ [23, 24, 25, 11, 12, 5, 13, 14, 15, 16, 17, 18, 19, 20, 21, 22, 26, 27, 28, 29, 30, 31, 32, 33, 34, 35, 36] (by decide +kernel) (by decide +kernel)) (goodIn_sub (fun _ h => List.mem_cons_of_mem _ (List.mem_append_right _ h)) (by decide +kernel))
set_option maxRecDepth 20000 in
theorem gX6_play_X6_worthOf : GoodIn wsX6_play (wsV RX6 105 RX6 yX6_worthOf wsX6_worthOf) := goodIn_app (goodIn_of _ (by decide +kernel)) ggX6_play_X6_worthOf
theorem dX6_play_0 : decode cX6_play 0 = .ok (.aload_n 0, 1) := by decide +kernel
theorem dX6_play_1 : decode cX6_play 1 = .ok (.iconst 0, 1) := by decide +kernel
theorem dX6_play_2 : decode cX6_play 2 = .ok (.putfield 26, 3) := by decide +kernel
theorem dX6_play_5 : decode cX6_play 5 = .ok (.aload_n 0, 1) := by decide +kernel
theorem dX6_play_6 : decode cX6_play 6 = .ok (.iload_n 1, 1) := by decide +kernel
theorem dX6_play_7 : decode cX6_play 7 = .ok (.iload_n 2, 1) := by decide +kernel
theorem dX6_play_8 : decode cX6_play 8 = .ok (.invokestatic 108, 3) := by decide +kernel
theorem dX6_play_11 : decode cX6_play 11 = .ok (.ifCond .eq 12, 3) := by decide +kernel
theorem dX6_play_14 : decode cX6_play 14 = .ok (.iload_n 3, 1) := by decide +kernel
theorem dX6_play_15 : decode cX6_play 15 = .ok (.iload 4, 2) := by decide +kernel
theorem dX6_play_17 : decode cX6_play 17 = .ok (.invokestatic 108, 3) := by decide +kernel
theorem dX6_play_20 : decode cX6_play 20 = .ok (.ifCond .ne 7, 3) := by decide +kernel
theorem dX6_play_23 : decode cX6_play 23 = .ok (.iconst 1, 1) := by decide +kernel
theorem dX6_play_24 : decode cX6_play 24 = .ok (.goto 4, 3) := by decide +kernel
theorem dX6_play_27 : decode cX6_play 27 = .ok (.iconst 0, 1) := by decide +kernel
theorem dX6_play_28 : decode cX6_play 28 = .ok (.iconst 1, 1) := by decide +kernel
theorem dX6_play_29 : decode cX6_play 29 = .ok (.invokevirtual 34, 3) := by decide +kernel
theorem dX6_play_32 : decode cX6_play 32 = .ok (.ifCond .ne 39, 3) := by decide +kernel
theorem dX6_play_35 : decode cX6_play 35 = .ok (.aload_n 0, 1) := by decide +kernel
theorem dX6_play_36 : decode cX6_play 36 = .ok (.aload_n 0, 1) := by decide +kernel
theorem dX6_play_37 : decode cX6_play 37 = .ok (.getfield 111, 3) := by decide +kernel
theorem dX6_play_40 : decode cX6_play 40 = .ok (.iload_n 1, 1) := by decide +kernel
theorem dX6_play_41 : decode cX6_play 41 = .ok (.iload_n 2, 1) := by decide +kernel
theorem dX6_play_42 : decode cX6_play 42 = .ok (.invokestatic 98, 3) := by decide +kernel
theorem dX6_play_45 : decode cX6_play 45 = .ok (.ifCond .eq 14, 3) := by decide +kernel
theorem dX6_play_48 : decode cX6_play 48 = .ok (.iload_n 3, 1) := by decide +kernel
theorem dX6_play_49 : decode cX6_play 49 = .ok (.iload_n 1, 1) := by decide +kernel
theorem dX6_play_50 : decode cX6_play 50 = .ok (.if_icmp .ge 9, 3) := by decide +kernel
theorem dX6_play_53 : decode cX6_play 53 = .ok (.iload 4, 2) := by decide +kernel
theorem dX6_play_55 : decode cX6_play 55 = .ok (.iload_n 2, 1) := by decide +kernel
theorem dX6_play_56 : decode cX6_play 56 = .ok (.if_icmp .lt 7, 3) := by decide +kernel
theorem dX6_play_59 : decode cX6_play 59 = .ok (.iconst 1, 1) := by decide +kernel
theorem dX6_play_60 : decode cX6_play 60 = .ok (.goto 4, 3) := by decide +kernel
theorem dX6_play_63 : decode cX6_play 63 = .ok (.iconst 0, 1) := by decide +kernel
theorem dX6_play_64 : decode cX6_play 64 = .ok (.iconst 2, 1) := by decide +kernel
theorem dX6_play_65 : decode cX6_play 65 = .ok (.invokevirtual 34, 3) := by decide +kernel
theorem dX6_play_68 : decode cX6_play 68 = .ok (.ifCond .eq 5, 3) := by decide +kernel
theorem dX6_play_71 : decode cX6_play 71 = .ok (.iconst 0, 1) := by decide +kernel
theorem dX6_play_72 : decode cX6_play 72 = .ok (.ireturn, 1) := by decide +kernel
theorem dX6_play_73 : decode cX6_play 73 = .ok (.aload_n 0, 1) := by decide +kernel
theorem dX6_play_74 : decode cX6_play 74 = .ok (.aload_n 0, 1) := by decide +kernel
theorem dX6_play_75 : decode cX6_play 75 = .ok (.getfield 111, 3) := by decide +kernel
theorem dX6_play_78 : decode cX6_play 78 = .ok (.iload_n 1, 1) := by decide +kernel
theorem dX6_play_79 : decode cX6_play 79 = .ok (.iload_n 2, 1) := by decide +kernel
theorem dX6_play_80 : decode cX6_play 80 = .ok (.iload_n 3, 1) := by decide +kernel
theorem dX6_play_81 : decode cX6_play 81 = .ok (.iload 4, 2) := by decide +kernel
theorem dX6_play_83 : decode cX6_play 83 = .ok (.invokestatic 101, 3) := by decide +kernel
theorem dX6_play_86 : decode cX6_play 86 = .ok (.putfield 111, 3) := by decide +kernel
theorem dX6_play_89 : decode cX6_play 89 = .ok (.aload_n 0, 1) := by decide +kernel
theorem dX6_play_90 : decode cX6_play 90 = .ok (.aload_n 0, 1) := by decide +kernel
theorem dX6_play_91 : decode cX6_play 91 = .ok (.getfield 111, 3) := by decide +kernel
theorem dX6_play_94 : decode cX6_play 94 = .ok (.invokevirtual 105, 3) := by decide +kernel
theorem dX6_play_97 : decode cX6_play 97 = .ok (.ireturn, 1) := by decide +kernel
set_option maxRecDepth 20000 in
theorem ggX6_best_X6_isUp : GoodIn wsX6_best wsX6_isUp := goodIn_r _ [6, 7, 8, 5, 9] (by decide +kernel) (by decide +kernel)
set_option maxRecDepth 20000 in
theorem gX6_best_X6_isUp : GoodIn wsX6_best (va_wsS RX6 98 yX6_isUp wsX6_isUp) := goodIn_app (goodIn_of _ (by decide +kernel)) ggX6_best_X6_isUp
set_option maxRecDepth 20000 in
theorem ggX6_best_X6_turned : GoodIn wsX6_best wsX6_turned := goodIn_r _ [12, 7, 8, 5, 9] (by decide +kernel) (by decide +kernel)
set_option maxRecDepth 20000 in
theorem gX6_best_X6_turned : GoodIn wsX6_best (va_wsS RX6 101 yX6_turned wsX6_turned) := goodIn_app (goodIn_of _ (by decide +kernel)) ggX6_best_X6_turned
set_option maxRecDepth 20000 in
theorem ggX6_best_X6_worthOf : GoodIn wsX6_best wsX6_worthOf := goodIn_ca (goodIn_r _ [16, 17, 18, 3, 4, 5, 6, 7, 8, 9, 10, 11, 12, 13, 14, 15, 19, 20, 21, 22, 23, 24, 25, 26, 27, 28, 29] (by decide +kernel) (by decide +kernel)) (goodIn_sub (fun _ h => List.mem_cons_of_mem _ (List.mem_append_right _ h)) (by decide +kernel))
set_option maxRecDepth 20000 in
theorem gX6_best_X6_worthOf : GoodIn wsX6_best (wsV RX6 105 RX6 yX6_worthOf wsX6_worthOf) := goodIn_app (goodIn_of _ (by decide +kernel)) ggX6_best_X6_worthOf
theorem dX6_best_0 : decode cX6_best 0 = .ok (.aload_n 0, 1) := by decide +kernel
theorem dX6_best_1 : decode cX6_best 1 = .ok (.iconst 0, 1) := by decide +kernel
theorem dX6_best_2 : decode cX6_best 2 = .ok (.putfield 26, 3) := by decide +kernel
theorem dX6_best_5 : decode cX6_best 5 = .ok (.iconst 0, 1) := by decide +kernel
theorem dX6_best_6 : decode cX6_best 6 = .ok (.istore_n 1, 1) := by decide +kernel
theorem dX6_best_7 : decode cX6_best 7 = .ok (.iload_n 1, 1) := by decide +kernel
theorem dX6_best_8 : decode cX6_best 8 = .ok (.sipush 256, 3) := by decide +kernel
theorem dX6_best_11 : decode cX6_best 11 = .ok (.if_icmp .ge 91, 3) := by decide +kernel
theorem dX6_best_14 : decode cX6_best 14 = .ok (.iload_n 1, 1) := by decide +kernel
theorem dX6_best_15 : decode cX6_best 15 = .ok (.bipush 64, 2) := by decide +kernel
theorem dX6_best_17 : decode cX6_best 17 = .ok (.idiv, 1) := by decide +kernel
theorem dX6_best_18 : decode cX6_best 18 = .ok (.istore_n 2, 1) := by decide +kernel
theorem dX6_best_19 : decode cX6_best 19 = .ok (.iload_n 1, 1) := by decide +kernel
theorem dX6_best_20 : decode cX6_best 20 = .ok (.bipush 16, 2) := by decide +kernel
theorem dX6_best_22 : decode cX6_best 22 = .ok (.idiv, 1) := by decide +kernel
theorem dX6_best_23 : decode cX6_best 23 = .ok (.iconst 4, 1) := by decide +kernel
theorem dX6_best_24 : decode cX6_best 24 = .ok (.irem, 1) := by decide +kernel
theorem dX6_best_25 : decode cX6_best 25 = .ok (.istore_n 3, 1) := by decide +kernel
theorem dX6_best_26 : decode cX6_best 26 = .ok (.iload_n 1, 1) := by decide +kernel
theorem dX6_best_27 : decode cX6_best 27 = .ok (.iconst 4, 1) := by decide +kernel
theorem dX6_best_28 : decode cX6_best 28 = .ok (.idiv, 1) := by decide +kernel
theorem dX6_best_29 : decode cX6_best 29 = .ok (.iconst 4, 1) := by decide +kernel
theorem dX6_best_30 : decode cX6_best 30 = .ok (.irem, 1) := by decide +kernel
theorem dX6_best_31 : decode cX6_best 31 = .ok (.istore 4, 2) := by decide +kernel
theorem dX6_best_33 : decode cX6_best 33 = .ok (.iload_n 1, 1) := by decide +kernel
theorem dX6_best_34 : decode cX6_best 34 = .ok (.iconst 4, 1) := by decide +kernel
theorem dX6_best_35 : decode cX6_best 35 = .ok (.irem, 1) := by decide +kernel
theorem dX6_best_36 : decode cX6_best 36 = .ok (.istore 5, 2) := by decide +kernel
theorem dX6_best_38 : decode cX6_best 38 = .ok (.aload_n 0, 1) := by decide +kernel
theorem dX6_best_39 : decode cX6_best 39 = .ok (.getfield 111, 3) := by decide +kernel
theorem dX6_best_42 : decode cX6_best 42 = .ok (.iload_n 2, 1) := by decide +kernel
theorem dX6_best_43 : decode cX6_best 43 = .ok (.iload_n 3, 1) := by decide +kernel
theorem dX6_best_44 : decode cX6_best 44 = .ok (.invokestatic 98, 3) := by decide +kernel
theorem dX6_best_47 : decode cX6_best 47 = .ok (.ifCond .eq 19, 3) := by decide +kernel
theorem dX6_best_50 : decode cX6_best 50 = .ok (.iload 4, 2) := by decide +kernel
theorem dX6_best_52 : decode cX6_best 52 = .ok (.iload_n 2, 1) := by decide +kernel
theorem dX6_best_53 : decode cX6_best 53 = .ok (.if_icmp .ge 13, 3) := by decide +kernel
theorem dX6_best_56 : decode cX6_best 56 = .ok (.iload 5, 2) := by decide +kernel
theorem dX6_best_58 : decode cX6_best 58 = .ok (.iload_n 3, 1) := by decide +kernel
theorem dX6_best_59 : decode cX6_best 59 = .ok (.if_icmp .ge 7, 3) := by decide +kernel
theorem dX6_best_62 : decode cX6_best 62 = .ok (.iconst 1, 1) := by decide +kernel
theorem dX6_best_63 : decode cX6_best 63 = .ok (.goto 4, 3) := by decide +kernel
theorem dX6_best_66 : decode cX6_best 66 = .ok (.iconst 0, 1) := by decide +kernel
theorem dX6_best_67 : decode cX6_best 67 = .ok (.istore 6, 2) := by decide +kernel
theorem dX6_best_69 : decode cX6_best 69 = .ok (.iload 6, 2) := by decide +kernel
theorem dX6_best_71 : decode cX6_best 71 = .ok (.ifCond .eq 25, 3) := by decide +kernel
theorem dX6_best_74 : decode cX6_best 74 = .ok (.aload_n 0, 1) := by decide +kernel
theorem dX6_best_75 : decode cX6_best 75 = .ok (.aload_n 0, 1) := by decide +kernel
theorem dX6_best_76 : decode cX6_best 76 = .ok (.getfield 111, 3) := by decide +kernel
theorem dX6_best_79 : decode cX6_best 79 = .ok (.iload_n 2, 1) := by decide +kernel
theorem dX6_best_80 : decode cX6_best 80 = .ok (.iload_n 3, 1) := by decide +kernel
theorem dX6_best_81 : decode cX6_best 81 = .ok (.iload 4, 2) := by decide +kernel
theorem dX6_best_83 : decode cX6_best 83 = .ok (.iload 5, 2) := by decide +kernel
theorem dX6_best_85 : decode cX6_best 85 = .ok (.invokestatic 101, 3) := by decide +kernel
theorem dX6_best_88 : decode cX6_best 88 = .ok (.invokevirtual 105, 3) := by decide +kernel
theorem dX6_best_91 : decode cX6_best 91 = .ok (.ifCond .ne 5, 3) := by decide +kernel
theorem dX6_best_94 : decode cX6_best 94 = .ok (.iload_n 1, 1) := by decide +kernel
theorem dX6_best_95 : decode cX6_best 95 = .ok (.ireturn, 1) := by decide +kernel
theorem dX6_best_96 : decode cX6_best 96 = .ok (.iinc 1 1, 3) := by decide +kernel
theorem dX6_best_99 : decode cX6_best 99 = .ok (.goto (-92), 3) := by decide +kernel
theorem dX6_best_102 : decode cX6_best 102 = .ok (.iconst (-1), 1) := by decide +kernel
theorem dX6_best_103 : decode cX6_best 103 = .ok (.ireturn, 1) := by decide +kernel
set_option maxRecDepth 20000 in
theorem ggX6_answer_X6_best : GoodIn wsX6_answer wsX6_best := goodIn_ca (goodIn_r _ [6, 7, 1, 8, 9, 5, 10, 11, 12, 13, 14, 15, 16, 17, 18, 19, 20, 21, 22, 23, 24, 25, 26, 27, 28, 29, 30, 31, 32, 33] (by decide +kernel) (by decide +kernel)) (goodIn_sub (fun _ h => List.mem_cons_of_mem _ (List.mem_append_right _ h)) (by decide +kernel))
set_option maxRecDepth 20000 in
theorem gX6_answer_X6_best : GoodIn wsX6_answer (wsV RX6 114 RX6 yX6_best wsX6_best) := goodIn_app (goodIn_of _ (by decide +kernel)) ggX6_answer_X6_best
set_option maxRecDepth 20000 in
theorem ggX6_answer_X6_turned : GoodIn wsX6_answer wsX6_turned := goodIn_r _ [16, 11, 12, 5, 13] (by decide +kernel) (by decide +kernel)
set_option maxRecDepth 20000 in
theorem gX6_answer_X6_turned : GoodIn wsX6_answer (va_wsS RX6 101 yX6_turned wsX6_turned) := goodIn_app (goodIn_of _ (by decide +kernel)) ggX6_answer_X6_turned
theorem dX6_answer_0 : decode cX6_answer 0 = .ok (.aload_n 0, 1) := by decide +kernel
theorem dX6_answer_1 : decode cX6_answer 1 = .ok (.invokevirtual 114, 3) := by decide +kernel
theorem dX6_answer_4 : decode cX6_answer 4 = .ok (.istore_n 1, 1) := by decide +kernel
theorem dX6_answer_5 : decode cX6_answer 5 = .ok (.iload_n 1, 1) := by decide +kernel
theorem dX6_answer_6 : decode cX6_answer 6 = .ok (.iconst (-1), 1) := by decide +kernel
theorem dX6_answer_7 : decode cX6_answer 7 = .ok (.if_icmp .eq 32, 3) := by decide +kernel
theorem dX6_answer_10 : decode cX6_answer 10 = .ok (.aload_n 0, 1) := by decide +kernel
theorem dX6_answer_11 : decode cX6_answer 11 = .ok (.aload_n 0, 1) := by decide +kernel
theorem dX6_answer_12 : decode cX6_answer 12 = .ok (.getfield 111, 3) := by decide +kernel
theorem dX6_answer_15 : decode cX6_answer 15 = .ok (.iload_n 1, 1) := by decide +kernel
theorem dX6_answer_16 : decode cX6_answer 16 = .ok (.bipush 64, 2) := by decide +kernel
theorem dX6_answer_18 : decode cX6_answer 18 = .ok (.idiv, 1) := by decide +kernel
theorem dX6_answer_19 : decode cX6_answer 19 = .ok (.iload_n 1, 1) := by decide +kernel
theorem dX6_answer_20 : decode cX6_answer 20 = .ok (.bipush 16, 2) := by decide +kernel
theorem dX6_answer_22 : decode cX6_answer 22 = .ok (.idiv, 1) := by decide +kernel
theorem dX6_answer_23 : decode cX6_answer 23 = .ok (.iconst 4, 1) := by decide +kernel
theorem dX6_answer_24 : decode cX6_answer 24 = .ok (.irem, 1) := by decide +kernel
theorem dX6_answer_25 : decode cX6_answer 25 = .ok (.iload_n 1, 1) := by decide +kernel
theorem dX6_answer_26 : decode cX6_answer 26 = .ok (.iconst 4, 1) := by decide +kernel
theorem dX6_answer_27 : decode cX6_answer 27 = .ok (.idiv, 1) := by decide +kernel
theorem dX6_answer_28 : decode cX6_answer 28 = .ok (.iconst 4, 1) := by decide +kernel
theorem dX6_answer_29 : decode cX6_answer 29 = .ok (.irem, 1) := by decide +kernel
theorem dX6_answer_30 : decode cX6_answer 30 = .ok (.iload_n 1, 1) := by decide +kernel
theorem dX6_answer_31 : decode cX6_answer 31 = .ok (.iconst 4, 1) := by decide +kernel
theorem dX6_answer_32 : decode cX6_answer 32 = .ok (.irem, 1) := by decide +kernel
theorem dX6_answer_33 : decode cX6_answer 33 = .ok (.invokestatic 101, 3) := by decide +kernel
theorem dX6_answer_36 : decode cX6_answer 36 = .ok (.putfield 111, 3) := by decide +kernel
theorem dX6_answer_39 : decode cX6_answer 39 = .ok (.iload_n 1, 1) := by decide +kernel
theorem dX6_answer_40 : decode cX6_answer 40 = .ok (.ireturn, 1) := by decide +kernel
theorem dX6_sweep_0 : decode cX6_sweep 0 = .ok (.aload_n 0, 1) := by decide +kernel
theorem dX6_sweep_1 : decode cX6_sweep 1 = .ok (.iconst 0, 1) := by decide +kernel
theorem dX6_sweep_2 : decode cX6_sweep 2 = .ok (.putfield 26, 3) := by decide +kernel
theorem dX6_sweep_5 : decode cX6_sweep 5 = .ok (.iconst 0, 1) := by decide +kernel
theorem dX6_sweep_6 : decode cX6_sweep 6 = .ok (.istore_n 1, 1) := by decide +kernel
theorem dX6_sweep_7 : decode cX6_sweep 7 = .ok (.aload_n 0, 1) := by decide +kernel
theorem dX6_sweep_8 : decode cX6_sweep 8 = .ok (.getfield 111, 3) := by decide +kernel
theorem dX6_sweep_11 : decode cX6_sweep 11 = .ok (.istore_n 2, 1) := by decide +kernel
theorem dX6_sweep_12 : decode cX6_sweep 12 = .ok (.iload_n 2, 1) := by decide +kernel
theorem dX6_sweep_13 : decode cX6_sweep 13 = .ok (.ifCond .le 16, 3) := by decide +kernel
theorem dX6_sweep_16 : decode cX6_sweep 16 = .ok (.iload_n 1, 1) := by decide +kernel
theorem dX6_sweep_17 : decode cX6_sweep 17 = .ok (.iload_n 2, 1) := by decide +kernel
theorem dX6_sweep_18 : decode cX6_sweep 18 = .ok (.iconst 2, 1) := by decide +kernel
theorem dX6_sweep_19 : decode cX6_sweep 19 = .ok (.irem, 1) := by decide +kernel
theorem dX6_sweep_20 : decode cX6_sweep 20 = .ok (.iadd, 1) := by decide +kernel
theorem dX6_sweep_21 : decode cX6_sweep 21 = .ok (.istore_n 1, 1) := by decide +kernel
theorem dX6_sweep_22 : decode cX6_sweep 22 = .ok (.iload_n 2, 1) := by decide +kernel
theorem dX6_sweep_23 : decode cX6_sweep 23 = .ok (.iconst 2, 1) := by decide +kernel
theorem dX6_sweep_24 : decode cX6_sweep 24 = .ok (.idiv, 1) := by decide +kernel
theorem dX6_sweep_25 : decode cX6_sweep 25 = .ok (.istore_n 2, 1) := by decide +kernel
theorem dX6_sweep_26 : decode cX6_sweep 26 = .ok (.goto (-14), 3) := by decide +kernel
theorem dX6_sweep_29 : decode cX6_sweep 29 = .ok (.aload_n 0, 1) := by decide +kernel
theorem dX6_sweep_30 : decode cX6_sweep 30 = .ok (.iconst 0, 1) := by decide +kernel
theorem dX6_sweep_31 : decode cX6_sweep 31 = .ok (.putfield 111, 3) := by decide +kernel
theorem dX6_sweep_34 : decode cX6_sweep 34 = .ok (.iload_n 1, 1) := by decide +kernel
theorem dX6_sweep_35 : decode cX6_sweep 35 = .ok (.ireturn, 1) := by decide +kernel
set_option maxRecDepth 20000 in
theorem ggX6_share_X6_size : GoodIn wsX6_share wsX6_size := goodIn_ca (goodIn_r _ [6, 7, 8, 9, 10, 11, 12, 13, 14, 15, 16] (by decide +kernel) (by decide +kernel)) (goodIn_sub (fun _ h => List.mem_cons_of_mem _ (List.mem_append_right _ h)) (by decide +kernel))
set_option maxRecDepth 20000 in
theorem gX6_share_X6_size : GoodIn wsX6_share (wsV RX6 85 RX6 yX6_size wsX6_size) := goodIn_app (goodIn_of _ (by decide +kernel)) ggX6_share_X6_size
theorem dX6_share_0 : decode cX6_share 0 = .ok (.aload_n 0, 1) := by decide +kernel
theorem dX6_share_1 : decode cX6_share 1 = .ok (.invokevirtual 85, 3) := by decide +kernel
theorem dX6_share_4 : decode cX6_share 4 = .ok (.i2f, 1) := by decide +kernel
theorem dX6_share_5 : decode cX6_share 5 = .ok (.ldc 117, 2) := by decide +kernel
theorem dX6_share_7 : decode cX6_share 7 = .ok (.fdiv, 1) := by decide +kernel
theorem dX6_share_8 : decode cX6_share 8 = .ok (.freturn, 1) := by decide +kernel
theorem dX6_mean_0 : decode cX6_mean 0 = .ok (.aload_n 0, 1) := by decide +kernel
theorem dX6_mean_1 : decode cX6_mean 1 = .ok (.iconst 0, 1) := by decide +kernel
theorem dX6_mean_2 : decode cX6_mean 2 = .ok (.putfield 26, 3) := by decide +kernel
theorem dX6_mean_5 : decode cX6_mean 5 = .ok (.iconst 0, 1) := by decide +kernel
theorem dX6_mean_6 : decode cX6_mean 6 = .ok (.istore_n 1, 1) := by decide +kernel
theorem dX6_mean_7 : decode cX6_mean 7 = .ok (.aload_n 0, 1) := by decide +kernel
theorem dX6_mean_8 : decode cX6_mean 8 = .ok (.getfield 9, 3) := by decide +kernel
theorem dX6_mean_11 : decode cX6_mean 11 = .ok (.astore_n 2, 1) := by decide +kernel
theorem dX6_mean_12 : decode cX6_mean 12 = .ok (.aload_n 2, 1) := by decide +kernel
theorem dX6_mean_13 : decode cX6_mean 13 = .ok (.arraylength, 1) := by decide +kernel
theorem dX6_mean_14 : decode cX6_mean 14 = .ok (.istore_n 3, 1) := by decide +kernel
theorem dX6_mean_15 : decode cX6_mean 15 = .ok (.iconst 0, 1) := by decide +kernel
theorem dX6_mean_16 : decode cX6_mean 16 = .ok (.istore 4, 2) := by decide +kernel
theorem dX6_mean_18 : decode cX6_mean 18 = .ok (.iload 4, 2) := by decide +kernel
theorem dX6_mean_20 : decode cX6_mean 20 = .ok (.iload_n 3, 1) := by decide +kernel
theorem dX6_mean_21 : decode cX6_mean 21 = .ok (.if_icmp .ge 20, 3) := by decide +kernel
theorem dX6_mean_24 : decode cX6_mean 24 = .ok (.aload_n 2, 1) := by decide +kernel
theorem dX6_mean_25 : decode cX6_mean 25 = .ok (.iload 4, 2) := by decide +kernel
theorem dX6_mean_27 : decode cX6_mean 27 = .ok (.iaload, 1) := by decide +kernel
theorem dX6_mean_28 : decode cX6_mean 28 = .ok (.istore 5, 2) := by decide +kernel
theorem dX6_mean_30 : decode cX6_mean 30 = .ok (.iload_n 1, 1) := by decide +kernel
theorem dX6_mean_31 : decode cX6_mean 31 = .ok (.iload 5, 2) := by decide +kernel
theorem dX6_mean_33 : decode cX6_mean 33 = .ok (.iadd, 1) := by decide +kernel
theorem dX6_mean_34 : decode cX6_mean 34 = .ok (.istore_n 1, 1) := by decide +kernel
theorem dX6_mean_35 : decode cX6_mean 35 = .ok (.iinc 4 1, 3) := by decide +kernel
theorem dX6_mean_38 : decode cX6_mean 38 = .ok (.goto (-20), 3) := by decide +kernel
theorem dX6_mean_41 : decode cX6_mean 41 = .ok (.iload_n 1, 1) := by decide +kernel
theorem dX6_mean_42 : decode cX6_mean 42 = .ok (.i2d, 1) := by decide +kernel
theorem dX6_mean_43 : decode cX6_mean 43 = .ok (.ldc2_w 118, 3) := by decide +kernel
theorem dX6_mean_46 : decode cX6_mean 46 = .ok (.ddiv, 1) := by decide +kernel
theorem dX6_mean_47 : decode cX6_mean 47 = .ok (.dreturn, 1) := by decide +kernel
set_option maxRecDepth 20000 in
theorem ggX6_isSound_X6_areNone : GoodIn wsX6_isSound wsX6_areNone := goodIn_r _ [6, 7, 8, 9, 5, 10, 11, 12, 13, 14, 40, 41, 42, 43, 44, 45, 46, 47] (by decide +kernel) (by decide +kernel)
set_option maxRecDepth 20000 in
theorem gX6_isSound_X6_areNone : GoodIn wsX6_isSound (wsV RX6 52 RX6 yX6_areNone wsX6_areNone) := goodIn_app (goodIn_of _ (by decide +kernel)) ggX6_isSound_X6_areNone
set_option maxRecDepth 20000 in
theorem ggX6_isSound_X6_sumOf : GoodIn wsX6_isSound wsX6_sumOf := goodIn_ca (goodIn_r _ [17] (by decide +kernel) (by decide +kernel)) (goodIn_sub (fun _ h => List.mem_cons_of_mem _ (List.mem_append_right _ h)) (by decide +kernel))
set_option maxRecDepth 20000 in
theorem gX6_isSound_X6_sumOf : GoodIn wsX6_isSound (va_wsS RX6 42 yX6_sumOf wsX6_sumOf) := goodIn_app (goodIn_of _ (by decide +kernel)) ggX6_isSound_X6_sumOf
set_option maxRecDepth 20000 in
theorem ggX6_isSound_X6_rootOf : GoodIn wsX6_isSound wsX6_rootOf := goodIn_ca (goodIn_r _ [20, 21, 22, 5, 23, 15, 16, 17] (by decide +kernel) (by decide +kernel)) (goodIn_sub (fun _ h => List.mem_cons_of_mem _ (List.mem_append_right _ h)) (by decide +kernel))
set_option maxRecDepth 20000 in
theorem gX6_isSound_X6_rootOf : GoodIn wsX6_isSound (va_wsS RX6 69 yX6_rootOf wsX6_rootOf) := goodIn_app (goodIn_of _ (by decide +kernel)) ggX6_isSound_X6_rootOf
set_option maxRecDepth 20000 in
theorem ggX6_isSound_X6_triedSumOf : GoodIn wsX6_isSound wsX6_triedSumOf := goodIn_ca (goodIn_ca (goodIn_r _ [26, 27, 15, 16, 5, 17, 28, 29, 30] (by decide +kernel) (by decide +kernel)) (goodIn_sub (fun _ h => List.mem_cons_of_mem _ (List.mem_append_left _ (List.mem_append_right _ h))) (by decide +kernel))) (goodIn_sub (fun _ h => List.mem_cons_of_mem _ (List.mem_append_right _ h)) (by decide +kernel))
set_option maxRecDepth 20000 in
theorem gX6_isSound_X6_triedSumOf : GoodIn wsX6_isSound (va_wsS RX6 76 yX6_triedSumOf wsX6_triedSumOf) := goodIn_app (goodIn_of _ (by decide +kernel)) ggX6_isSound_X6_triedSumOf
set_option maxRecDepth 20000 in
theorem ggX6_isSound_X6_triedProductOf : GoodIn wsX6_isSound wsX6_triedProductOf := goodIn_ca (goodIn_ca (goodIn_r _ [33, 27, 21, 22, 5, 23, 15, 16, 17, 28, 29, 30] (by decide +kernel) (by decide +kernel)) (goodIn_sub (fun _ h => List.mem_cons_of_mem _ (List.mem_append_left _ (List.mem_append_right _ h))) (by decide +kernel))) (goodIn_sub (fun _ h => List.mem_cons_of_mem _ (List.mem_append_right _ h)) (by decide +kernel))
set_option maxRecDepth 20000 in
theorem gX6_isSound_X6_triedProductOf : GoodIn wsX6_isSound (va_wsS RX6 79 yX6_triedProductOf wsX6_triedProductOf) := goodIn_app (goodIn_of _ (by decide +kernel)) ggX6_isSound_X6_triedProductOf
set_option maxRecDepth 20000 in
theorem ggX6_isSound_X6_productOf : GoodIn wsX6_isSound wsX6_productOf := goodIn_ca (goodIn_r _ [23, 21, 22, 5, 15, 16, 17] (by decide +kernel) (by decide +kernel)) (goodIn_sub (fun _ h => List.mem_cons_of_mem _ (List.mem_append_right _ h)) (by decide +kernel))
set_option maxRecDepth 20000 in
theorem gX6_isSound_X6_productOf : GoodIn wsX6_isSound (va_wsS RX6 38 yX6_productOf wsX6_productOf) := goodIn_app (goodIn_of _ (by decide +kernel)) ggX6_isSound_X6_productOf
set_option maxRecDepth 20000 in
theorem ggX6_isSound_X6_quotientOf : GoodIn wsX6_isSound wsX6_quotientOf := goodIn_ca (goodIn_r _ [36, 21, 22, 5, 23, 15, 16, 17] (by decide +kernel) (by decide +kernel)) (goodIn_sub (fun _ h => List.mem_cons_of_mem _ (List.mem_append_right _ h)) (by decide +kernel))
set_option maxRecDepth 20000 in
theorem gX6_isSound_X6_quotientOf : GoodIn wsX6_isSound (va_wsS RX6 63 yX6_quotientOf wsX6_quotientOf) := goodIn_app (goodIn_of _ (by decide +kernel)) ggX6_isSound_X6_quotientOf
set_option maxRecDepth 20000 in
theorem ggX6_isSound_X6_traceOf : GoodIn wsX6_isSound wsX6_traceOf := goodIn_ca (goodIn_r _ [39, 15, 16, 5, 17, 21, 22, 23] (by decide +kernel) (by decide +kernel)) (goodIn_sub (fun _ h => List.mem_cons_of_mem _ (List.mem_append_right _ h)) (by decide +kernel))
set_option maxRecDepth 20000 in
theorem gX6_isSound_X6_traceOf : GoodIn wsX6_isSound (va_wsS RX6 73 yX6_traceOf wsX6_traceOf) := goodIn_app (goodIn_of _ (by decide +kernel)) ggX6_isSound_X6_traceOf
theorem dX6_isSound_0 : decode cX6_isSound 0 = .ok (.aload_n 0, 1) := by decide +kernel
theorem dX6_isSound_1 : decode cX6_isSound 1 = .ok (.iload_n 1, 1) := by decide +kernel
theorem dX6_isSound_2 : decode cX6_isSound 2 = .ok (.iload_n 2, 1) := by decide +kernel
theorem dX6_isSound_3 : decode cX6_isSound 3 = .ok (.iconst 0, 1) := by decide +kernel
theorem dX6_isSound_4 : decode cX6_isSound 4 = .ok (.invokevirtual 52, 3) := by decide +kernel
theorem dX6_isSound_7 : decode cX6_isSound 7 = .ok (.ifCond .eq 5, 3) := by decide +kernel
theorem dX6_isSound_10 : decode cX6_isSound 10 = .ok (.iconst 0, 1) := by decide +kernel
theorem dX6_isSound_11 : decode cX6_isSound 11 = .ok (.ireturn, 1) := by decide +kernel
theorem dX6_isSound_12 : decode cX6_isSound 12 = .ok (.aload_n 0, 1) := by decide +kernel
theorem dX6_isSound_13 : decode cX6_isSound 13 = .ok (.getfield 9, 3) := by decide +kernel
theorem dX6_isSound_16 : decode cX6_isSound 16 = .ok (.iload_n 1, 1) := by decide +kernel
theorem dX6_isSound_17 : decode cX6_isSound 17 = .ok (.iaload, 1) := by decide +kernel
theorem dX6_isSound_18 : decode cX6_isSound 18 = .ok (.istore_n 3, 1) := by decide +kernel
theorem dX6_isSound_19 : decode cX6_isSound 19 = .ok (.aload_n 0, 1) := by decide +kernel
theorem dX6_isSound_20 : decode cX6_isSound 20 = .ok (.getfield 9, 3) := by decide +kernel
theorem dX6_isSound_23 : decode cX6_isSound 23 = .ok (.iload_n 2, 1) := by decide +kernel
theorem dX6_isSound_24 : decode cX6_isSound 24 = .ok (.iaload, 1) := by decide +kernel
theorem dX6_isSound_25 : decode cX6_isSound 25 = .ok (.istore 4, 2) := by decide +kernel
theorem dX6_isSound_27 : decode cX6_isSound 27 = .ok (.iload_n 3, 1) := by decide +kernel
theorem dX6_isSound_28 : decode cX6_isSound 28 = .ok (.iload 4, 2) := by decide +kernel
theorem dX6_isSound_30 : decode cX6_isSound 30 = .ok (.invokestatic 42, 3) := by decide +kernel
theorem dX6_isSound_33 : decode cX6_isSound 33 = .ok (.istore 5, 2) := by decide +kernel
theorem dX6_isSound_35 : decode cX6_isSound 35 = .ok (.iload_n 3, 1) := by decide +kernel
theorem dX6_isSound_36 : decode cX6_isSound 36 = .ok (.invokestatic 69, 3) := by decide +kernel
theorem dX6_isSound_39 : decode cX6_isSound 39 = .ok (.istore 6, 2) := by decide +kernel
theorem dX6_isSound_41 : decode cX6_isSound 41 = .ok (.iload_n 3, 1) := by decide +kernel
theorem dX6_isSound_42 : decode cX6_isSound 42 = .ok (.iload 4, 2) := by decide +kernel
theorem dX6_isSound_44 : decode cX6_isSound 44 = .ok (.invokestatic 76, 3) := by decide +kernel
theorem dX6_isSound_47 : decode cX6_isSound 47 = .ok (.iload 5, 2) := by decide +kernel
theorem dX6_isSound_49 : decode cX6_isSound 49 = .ok (.if_icmp .ne 49, 3) := by decide +kernel
theorem dX6_isSound_52 : decode cX6_isSound 52 = .ok (.iload_n 3, 1) := by decide +kernel
theorem dX6_isSound_53 : decode cX6_isSound 53 = .ok (.bipush 16, 2) := by decide +kernel
theorem dX6_isSound_55 : decode cX6_isSound 55 = .ok (.irem, 1) := by decide +kernel
theorem dX6_isSound_56 : decode cX6_isSound 56 = .ok (.iload 4, 2) := by decide +kernel
theorem dX6_isSound_58 : decode cX6_isSound 58 = .ok (.bipush 16, 2) := by decide +kernel
theorem dX6_isSound_60 : decode cX6_isSound 60 = .ok (.irem, 1) := by decide +kernel
theorem dX6_isSound_61 : decode cX6_isSound 61 = .ok (.invokestatic 79, 3) := by decide +kernel
theorem dX6_isSound_64 : decode cX6_isSound 64 = .ok (.iload_n 3, 1) := by decide +kernel
theorem dX6_isSound_65 : decode cX6_isSound 65 = .ok (.bipush 16, 2) := by decide +kernel
theorem dX6_isSound_67 : decode cX6_isSound 67 = .ok (.irem, 1) := by decide +kernel
theorem dX6_isSound_68 : decode cX6_isSound 68 = .ok (.iload 4, 2) := by decide +kernel
theorem dX6_isSound_70 : decode cX6_isSound 70 = .ok (.bipush 16, 2) := by decide +kernel
theorem dX6_isSound_72 : decode cX6_isSound 72 = .ok (.irem, 1) := by decide +kernel
theorem dX6_isSound_73 : decode cX6_isSound 73 = .ok (.invokestatic 38, 3) := by decide +kernel
theorem dX6_isSound_76 : decode cX6_isSound 76 = .ok (.if_icmp .ne 22, 3) := by decide +kernel
theorem dX6_isSound_79 : decode cX6_isSound 79 = .ok (.iload_n 3, 1) := by decide +kernel
theorem dX6_isSound_80 : decode cX6_isSound 80 = .ok (.iload 4, 2) := by decide +kernel
theorem dX6_isSound_82 : decode cX6_isSound 82 = .ok (.invokestatic 38, 3) := by decide +kernel
theorem dX6_isSound_85 : decode cX6_isSound 85 = .ok (.iload 4, 2) := by decide +kernel
theorem dX6_isSound_87 : decode cX6_isSound 87 = .ok (.iload_n 3, 1) := by decide +kernel
theorem dX6_isSound_88 : decode cX6_isSound 88 = .ok (.invokestatic 38, 3) := by decide +kernel
theorem dX6_isSound_91 : decode cX6_isSound 91 = .ok (.if_icmp .ne 7, 3) := by decide +kernel
theorem dX6_isSound_94 : decode cX6_isSound 94 = .ok (.iconst 1, 1) := by decide +kernel
theorem dX6_isSound_95 : decode cX6_isSound 95 = .ok (.goto 4, 3) := by decide +kernel
theorem dX6_isSound_98 : decode cX6_isSound 98 = .ok (.iconst 0, 1) := by decide +kernel
theorem dX6_isSound_99 : decode cX6_isSound 99 = .ok (.istore 7, 2) := by decide +kernel
theorem dX6_isSound_101 : decode cX6_isSound 101 = .ok (.iload 7, 2) := by decide +kernel
theorem dX6_isSound_103 : decode cX6_isSound 103 = .ok (.ifCond .eq 66, 3) := by decide +kernel
theorem dX6_isSound_106 : decode cX6_isSound 106 = .ok (.iload_n 3, 1) := by decide +kernel
theorem dX6_isSound_107 : decode cX6_isSound 107 = .ok (.iload 4, 2) := by decide +kernel
theorem dX6_isSound_109 : decode cX6_isSound 109 = .ok (.iconst 1, 1) := by decide +kernel
theorem dX6_isSound_110 : decode cX6_isSound 110 = .ok (.invokestatic 42, 3) := by decide +kernel
theorem dX6_isSound_113 : decode cX6_isSound 113 = .ok (.invokestatic 38, 3) := by decide +kernel
theorem dX6_isSound_116 : decode cX6_isSound 116 = .ok (.iload_n 3, 1) := by decide +kernel
theorem dX6_isSound_117 : decode cX6_isSound 117 = .ok (.iload 4, 2) := by decide +kernel
theorem dX6_isSound_119 : decode cX6_isSound 119 = .ok (.invokestatic 38, 3) := by decide +kernel
theorem dX6_isSound_122 : decode cX6_isSound 122 = .ok (.iload_n 3, 1) := by decide +kernel
theorem dX6_isSound_123 : decode cX6_isSound 123 = .ok (.invokestatic 42, 3) := by decide +kernel
theorem dX6_isSound_126 : decode cX6_isSound 126 = .ok (.if_icmp .ne 43, 3) := by decide +kernel
theorem dX6_isSound_129 : decode cX6_isSound 129 = .ok (.iload 5, 2) := by decide +kernel
theorem dX6_isSound_131 : decode cX6_isSound 131 = .ok (.iload 5, 2) := by decide +kernel
theorem dX6_isSound_133 : decode cX6_isSound 133 = .ok (.invokestatic 38, 3) := by decide +kernel
theorem dX6_isSound_136 : decode cX6_isSound 136 = .ok (.iload_n 3, 1) := by decide +kernel
theorem dX6_isSound_137 : decode cX6_isSound 137 = .ok (.iload_n 3, 1) := by decide +kernel
theorem dX6_isSound_138 : decode cX6_isSound 138 = .ok (.invokestatic 38, 3) := by decide +kernel
theorem dX6_isSound_141 : decode cX6_isSound 141 = .ok (.iload 4, 2) := by decide +kernel
theorem dX6_isSound_143 : decode cX6_isSound 143 = .ok (.iload 4, 2) := by decide +kernel
theorem dX6_isSound_145 : decode cX6_isSound 145 = .ok (.invokestatic 38, 3) := by decide +kernel
theorem dX6_isSound_148 : decode cX6_isSound 148 = .ok (.invokestatic 42, 3) := by decide +kernel
theorem dX6_isSound_151 : decode cX6_isSound 151 = .ok (.if_icmp .ne 18, 3) := by decide +kernel
theorem dX6_isSound_154 : decode cX6_isSound 154 = .ok (.iload 6, 2) := by decide +kernel
theorem dX6_isSound_156 : decode cX6_isSound 156 = .ok (.iload 6, 2) := by decide +kernel
theorem dX6_isSound_158 : decode cX6_isSound 158 = .ok (.invokestatic 38, 3) := by decide +kernel
theorem dX6_isSound_161 : decode cX6_isSound 161 = .ok (.iload_n 3, 1) := by decide +kernel
theorem dX6_isSound_162 : decode cX6_isSound 162 = .ok (.if_icmp .ne 7, 3) := by decide +kernel
theorem dX6_isSound_165 : decode cX6_isSound 165 = .ok (.iconst 1, 1) := by decide +kernel
theorem dX6_isSound_166 : decode cX6_isSound 166 = .ok (.goto 4, 3) := by decide +kernel
theorem dX6_isSound_169 : decode cX6_isSound 169 = .ok (.iconst 0, 1) := by decide +kernel
theorem dX6_isSound_170 : decode cX6_isSound 170 = .ok (.istore 7, 2) := by decide +kernel
theorem dX6_isSound_172 : decode cX6_isSound 172 = .ok (.iload 7, 2) := by decide +kernel
theorem dX6_isSound_174 : decode cX6_isSound 174 = .ok (.ifCond .eq 47, 3) := by decide +kernel
theorem dX6_isSound_177 : decode cX6_isSound 177 = .ok (.iload 4, 2) := by decide +kernel
theorem dX6_isSound_179 : decode cX6_isSound 179 = .ok (.ifCond .eq 18, 3) := by decide +kernel
theorem dX6_isSound_182 : decode cX6_isSound 182 = .ok (.iload_n 3, 1) := by decide +kernel
theorem dX6_isSound_183 : decode cX6_isSound 183 = .ok (.iload 4, 2) := by decide +kernel
theorem dX6_isSound_185 : decode cX6_isSound 185 = .ok (.invokestatic 63, 3) := by decide +kernel
theorem dX6_isSound_188 : decode cX6_isSound 188 = .ok (.iload 4, 2) := by decide +kernel
theorem dX6_isSound_190 : decode cX6_isSound 190 = .ok (.invokestatic 38, 3) := by decide +kernel
theorem dX6_isSound_193 : decode cX6_isSound 193 = .ok (.iload_n 3, 1) := by decide +kernel
theorem dX6_isSound_194 : decode cX6_isSound 194 = .ok (.if_icmp .ne 27, 3) := by decide +kernel
theorem dX6_isSound_197 : decode cX6_isSound 197 = .ok (.iload 5, 2) := by decide +kernel
theorem dX6_isSound_199 : decode cX6_isSound 199 = .ok (.invokestatic 73, 3) := by decide +kernel
theorem dX6_isSound_202 : decode cX6_isSound 202 = .ok (.iload_n 3, 1) := by decide +kernel
theorem dX6_isSound_203 : decode cX6_isSound 203 = .ok (.invokestatic 73, 3) := by decide +kernel
theorem dX6_isSound_206 : decode cX6_isSound 206 = .ok (.iload 4, 2) := by decide +kernel
theorem dX6_isSound_208 : decode cX6_isSound 208 = .ok (.invokestatic 73, 3) := by decide +kernel
theorem dX6_isSound_211 : decode cX6_isSound 211 = .ok (.invokestatic 42, 3) := by decide +kernel
theorem dX6_isSound_214 : decode cX6_isSound 214 = .ok (.if_icmp .ne 7, 3) := by decide +kernel
theorem dX6_isSound_217 : decode cX6_isSound 217 = .ok (.iconst 1, 1) := by decide +kernel
theorem dX6_isSound_218 : decode cX6_isSound 218 = .ok (.goto 4, 3) := by decide +kernel
theorem dX6_isSound_221 : decode cX6_isSound 221 = .ok (.iconst 0, 1) := by decide +kernel
theorem dX6_isSound_222 : decode cX6_isSound 222 = .ok (.ireturn, 1) := by decide +kernel
set_option maxRecDepth 20000 in
theorem ggX6_checksum_X6_size : GoodIn wsX6_checksum wsX6_size := goodIn_ca (goodIn_r _ [11, 12, 4, 19, 20, 21, 22, 23, 24, 25, 26] (by decide +kernel) (by decide +kernel)) (goodIn_sub (fun _ h => List.mem_cons_of_mem _ (List.mem_append_right _ h)) (by decide +kernel))
set_option maxRecDepth 20000 in
theorem gX6_checksum_X6_size : GoodIn wsX6_checksum (wsV RX6 85 RX6 yX6_size wsX6_size) := goodIn_app (goodIn_of _ (by decide +kernel)) ggX6_checksum_X6_size
set_option maxRecDepth 20000 in
theorem ggX6_checksum_X6_isUp : GoodIn wsX6_checksum wsX6_isUp := goodIn_r _ [15, 16, 17, 10, 18] (by decide +kernel) (by decide +kernel)
set_option maxRecDepth 20000 in
theorem gX6_checksum_X6_isUp : GoodIn wsX6_checksum (va_wsS RX6 98 yX6_isUp wsX6_isUp) := goodIn_app (goodIn_of _ (by decide +kernel)) ggX6_checksum_X6_isUp
theorem dX6_checksum_0 : decode cX6_checksum 0 = .ok (.ldc2_w 120, 3) := by decide +kernel
theorem dX6_checksum_3 : decode cX6_checksum 3 = .ok (.lstore_n 1, 1) := by decide +kernel
theorem dX6_checksum_4 : decode cX6_checksum 4 = .ok (.aload_n 0, 1) := by decide +kernel
theorem dX6_checksum_5 : decode cX6_checksum 5 = .ok (.getfield 9, 3) := by decide +kernel
theorem dX6_checksum_8 : decode cX6_checksum 8 = .ok (.astore_n 3, 1) := by decide +kernel
theorem dX6_checksum_9 : decode cX6_checksum 9 = .ok (.aload_n 3, 1) := by decide +kernel
theorem dX6_checksum_10 : decode cX6_checksum 10 = .ok (.arraylength, 1) := by decide +kernel
theorem dX6_checksum_11 : decode cX6_checksum 11 = .ok (.istore 4, 2) := by decide +kernel
theorem dX6_checksum_13 : decode cX6_checksum 13 = .ok (.iconst 0, 1) := by decide +kernel
theorem dX6_checksum_14 : decode cX6_checksum 14 = .ok (.istore 5, 2) := by decide +kernel
theorem dX6_checksum_16 : decode cX6_checksum 16 = .ok (.iload 5, 2) := by decide +kernel
theorem dX6_checksum_18 : decode cX6_checksum 18 = .ok (.iload 4, 2) := by decide +kernel
theorem dX6_checksum_20 : decode cX6_checksum 20 = .ok (.if_icmp .ge 25, 3) := by decide +kernel
theorem dX6_checksum_23 : decode cX6_checksum 23 = .ok (.aload_n 3, 1) := by decide +kernel
theorem dX6_checksum_24 : decode cX6_checksum 24 = .ok (.iload 5, 2) := by decide +kernel
theorem dX6_checksum_26 : decode cX6_checksum 26 = .ok (.iaload, 1) := by decide +kernel
theorem dX6_checksum_27 : decode cX6_checksum 27 = .ok (.istore 6, 2) := by decide +kernel
theorem dX6_checksum_29 : decode cX6_checksum 29 = .ok (.ldc2_w 122, 3) := by decide +kernel
theorem dX6_checksum_32 : decode cX6_checksum 32 = .ok (.lload_n 1, 1) := by decide +kernel
theorem dX6_checksum_33 : decode cX6_checksum 33 = .ok (.lmul, 1) := by decide +kernel
theorem dX6_checksum_34 : decode cX6_checksum 34 = .ok (.iload 6, 2) := by decide +kernel
theorem dX6_checksum_36 : decode cX6_checksum 36 = .ok (.i2l, 1) := by decide +kernel
theorem dX6_checksum_37 : decode cX6_checksum 37 = .ok (.ladd, 1) := by decide +kernel
theorem dX6_checksum_38 : decode cX6_checksum 38 = .ok (.lstore_n 1, 1) := by decide +kernel
theorem dX6_checksum_39 : decode cX6_checksum 39 = .ok (.iinc 5 1, 3) := by decide +kernel
theorem dX6_checksum_42 : decode cX6_checksum 42 = .ok (.goto (-26), 3) := by decide +kernel
theorem dX6_checksum_45 : decode cX6_checksum 45 = .ok (.ldc2_w 122, 3) := by decide +kernel
theorem dX6_checksum_48 : decode cX6_checksum 48 = .ok (.lload_n 1, 1) := by decide +kernel
theorem dX6_checksum_49 : decode cX6_checksum 49 = .ok (.lmul, 1) := by decide +kernel
theorem dX6_checksum_50 : decode cX6_checksum 50 = .ok (.aload_n 0, 1) := by decide +kernel
theorem dX6_checksum_51 : decode cX6_checksum 51 = .ok (.invokevirtual 85, 3) := by decide +kernel
theorem dX6_checksum_54 : decode cX6_checksum 54 = .ok (.i2l, 1) := by decide +kernel
theorem dX6_checksum_55 : decode cX6_checksum 55 = .ok (.ladd, 1) := by decide +kernel
theorem dX6_checksum_56 : decode cX6_checksum 56 = .ok (.lstore_n 1, 1) := by decide +kernel
theorem dX6_checksum_57 : decode cX6_checksum 57 = .ok (.iconst 0, 1) := by decide +kernel
theorem dX6_checksum_58 : decode cX6_checksum 58 = .ok (.istore_n 3, 1) := by decide +kernel
theorem dX6_checksum_59 : decode cX6_checksum 59 = .ok (.iload_n 3, 1) := by decide +kernel
theorem dX6_checksum_60 : decode cX6_checksum 60 = .ok (.sipush 256, 3) := by decide +kernel
theorem dX6_checksum_63 : decode cX6_checksum 63 = .ok (.if_icmp .ge 31, 3) := by decide +kernel
theorem dX6_checksum_66 : decode cX6_checksum 66 = .ok (.aload_n 0, 1) := by decide +kernel
theorem dX6_checksum_67 : decode cX6_checksum 67 = .ok (.getfield 19, 3) := by decide +kernel
theorem dX6_checksum_70 : decode cX6_checksum 70 = .ok (.iload_n 3, 1) := by decide +kernel
theorem dX6_checksum_71 : decode cX6_checksum 71 = .ok (.baload, 1) := by decide +kernel
theorem dX6_checksum_72 : decode cX6_checksum 72 = .ok (.ifCond .eq 14, 3) := by decide +kernel
theorem dX6_checksum_75 : decode cX6_checksum 75 = .ok (.ldc2_w 122, 3) := by decide +kernel
theorem dX6_checksum_78 : decode cX6_checksum 78 = .ok (.lload_n 1, 1) := by decide +kernel
theorem dX6_checksum_79 : decode cX6_checksum 79 = .ok (.lmul, 1) := by decide +kernel
theorem dX6_checksum_80 : decode cX6_checksum 80 = .ok (.iload_n 3, 1) := by decide +kernel
theorem dX6_checksum_81 : decode cX6_checksum 81 = .ok (.i2l, 1) := by decide +kernel
theorem dX6_checksum_82 : decode cX6_checksum 82 = .ok (.ladd, 1) := by decide +kernel
theorem dX6_checksum_83 : decode cX6_checksum 83 = .ok (.goto 4, 3) := by decide +kernel
theorem dX6_checksum_86 : decode cX6_checksum 86 = .ok (.lload_n 1, 1) := by decide +kernel
theorem dX6_checksum_87 : decode cX6_checksum 87 = .ok (.lstore_n 1, 1) := by decide +kernel
theorem dX6_checksum_88 : decode cX6_checksum 88 = .ok (.iinc 3 1, 3) := by decide +kernel
theorem dX6_checksum_91 : decode cX6_checksum 91 = .ok (.goto (-32), 3) := by decide +kernel
theorem dX6_checksum_94 : decode cX6_checksum 94 = .ok (.iconst 0, 1) := by decide +kernel
theorem dX6_checksum_95 : decode cX6_checksum 95 = .ok (.istore_n 3, 1) := by decide +kernel
theorem dX6_checksum_96 : decode cX6_checksum 96 = .ok (.iload_n 3, 1) := by decide +kernel
theorem dX6_checksum_97 : decode cX6_checksum 97 = .ok (.iconst 4, 1) := by decide +kernel
theorem dX6_checksum_98 : decode cX6_checksum 98 = .ok (.if_icmp .ge 50, 3) := by decide +kernel
theorem dX6_checksum_101 : decode cX6_checksum 101 = .ok (.iconst 0, 1) := by decide +kernel
theorem dX6_checksum_102 : decode cX6_checksum 102 = .ok (.istore 4, 2) := by decide +kernel
theorem dX6_checksum_104 : decode cX6_checksum 104 = .ok (.iload 4, 2) := by decide +kernel
theorem dX6_checksum_106 : decode cX6_checksum 106 = .ok (.iconst 4, 1) := by decide +kernel
theorem dX6_checksum_107 : decode cX6_checksum 107 = .ok (.if_icmp .ge 35, 3) := by decide +kernel
theorem dX6_checksum_110 : decode cX6_checksum 110 = .ok (.ldc2_w 122, 3) := by decide +kernel
theorem dX6_checksum_113 : decode cX6_checksum 113 = .ok (.lload_n 1, 1) := by decide +kernel
theorem dX6_checksum_114 : decode cX6_checksum 114 = .ok (.lmul, 1) := by decide +kernel
theorem dX6_checksum_115 : decode cX6_checksum 115 = .ok (.aload_n 0, 1) := by decide +kernel
theorem dX6_checksum_116 : decode cX6_checksum 116 = .ok (.getfield 111, 3) := by decide +kernel
theorem dX6_checksum_119 : decode cX6_checksum 119 = .ok (.iload_n 3, 1) := by decide +kernel
theorem dX6_checksum_120 : decode cX6_checksum 120 = .ok (.iload 4, 2) := by decide +kernel
theorem dX6_checksum_122 : decode cX6_checksum 122 = .ok (.invokestatic 98, 3) := by decide +kernel
theorem dX6_checksum_125 : decode cX6_checksum 125 = .ok (.ifCond .eq 7, 3) := by decide +kernel
theorem dX6_checksum_128 : decode cX6_checksum 128 = .ok (.iconst 1, 1) := by decide +kernel
theorem dX6_checksum_129 : decode cX6_checksum 129 = .ok (.goto 4, 3) := by decide +kernel
theorem dX6_checksum_132 : decode cX6_checksum 132 = .ok (.iconst 0, 1) := by decide +kernel
theorem dX6_checksum_133 : decode cX6_checksum 133 = .ok (.i2l, 1) := by decide +kernel
theorem dX6_checksum_134 : decode cX6_checksum 134 = .ok (.ladd, 1) := by decide +kernel
theorem dX6_checksum_135 : decode cX6_checksum 135 = .ok (.lstore_n 1, 1) := by decide +kernel
theorem dX6_checksum_136 : decode cX6_checksum 136 = .ok (.iinc 4 1, 3) := by decide +kernel
theorem dX6_checksum_139 : decode cX6_checksum 139 = .ok (.goto (-35), 3) := by decide +kernel
theorem dX6_checksum_142 : decode cX6_checksum 142 = .ok (.iinc 3 1, 3) := by decide +kernel
theorem dX6_checksum_145 : decode cX6_checksum 145 = .ok (.goto (-49), 3) := by decide +kernel
theorem dX6_checksum_148 : decode cX6_checksum 148 = .ok (.ldc2_w 122, 3) := by decide +kernel
theorem dX6_checksum_151 : decode cX6_checksum 151 = .ok (.lload_n 1, 1) := by decide +kernel
theorem dX6_checksum_152 : decode cX6_checksum 152 = .ok (.lmul, 1) := by decide +kernel
theorem dX6_checksum_153 : decode cX6_checksum 153 = .ok (.aload_n 0, 1) := by decide +kernel
theorem dX6_checksum_154 : decode cX6_checksum 154 = .ok (.getfield 49, 3) := by decide +kernel
theorem dX6_checksum_157 : decode cX6_checksum 157 = .ok (.i2l, 1) := by decide +kernel
theorem dX6_checksum_158 : decode cX6_checksum 158 = .ok (.ladd, 1) := by decide +kernel
theorem dX6_checksum_159 : decode cX6_checksum 159 = .ok (.lreturn, 1) := by decide +kernel
theorem dJx00060_init_a7421_0 : decode cJx00060_init_a7421 0 = .ok (.aload_n 0, 1) := by decide +kernel
theorem dJx00060_init_a7421_1 : decode cJx00060_init_a7421 1 = .ok (.aload_n 1, 1) := by decide +kernel
theorem dJx00060_init_a7421_2 : decode cJx00060_init_a7421 2 = .ok (.invokespecial 7, 3) := by decide +kernel
theorem dJx00060_init_a7421_5 : decode cJx00060_init_a7421 5 = .ok (.return_, 1) := by decide +kernel
theorem dJ6_bitCount_0f7a4_0 : decode cJ6_bitCount_0f7a4 0 = .ok (.iload_n 0, 1) := by decide +kernel
theorem dJ6_bitCount_0f7a4_1 : decode cJ6_bitCount_0f7a4 1 = .ok (.iload_n 0, 1) := by decide +kernel
theorem dJ6_bitCount_0f7a4_2 : decode cJ6_bitCount_0f7a4 2 = .ok (.iconst 1, 1) := by decide +kernel
theorem dJ6_bitCount_0f7a4_3 : decode cJ6_bitCount_0f7a4 3 = .ok (.iushr, 1) := by decide +kernel
theorem dJ6_bitCount_0f7a4_4 : decode cJ6_bitCount_0f7a4 4 = .ok (.ldc_w 265, 3) := by decide +kernel
theorem dJ6_bitCount_0f7a4_7 : decode cJ6_bitCount_0f7a4 7 = .ok (.iand, 1) := by decide +kernel
theorem dJ6_bitCount_0f7a4_8 : decode cJ6_bitCount_0f7a4 8 = .ok (.isub, 1) := by decide +kernel
theorem dJ6_bitCount_0f7a4_9 : decode cJ6_bitCount_0f7a4 9 = .ok (.istore_n 0, 1) := by decide +kernel
theorem dJ6_bitCount_0f7a4_10 : decode cJ6_bitCount_0f7a4 10 = .ok (.iload_n 0, 1) := by decide +kernel
theorem dJ6_bitCount_0f7a4_11 : decode cJ6_bitCount_0f7a4 11 = .ok (.ldc_w 266, 3) := by decide +kernel
theorem dJ6_bitCount_0f7a4_14 : decode cJ6_bitCount_0f7a4 14 = .ok (.iand, 1) := by decide +kernel
theorem dJ6_bitCount_0f7a4_15 : decode cJ6_bitCount_0f7a4 15 = .ok (.iload_n 0, 1) := by decide +kernel
theorem dJ6_bitCount_0f7a4_16 : decode cJ6_bitCount_0f7a4 16 = .ok (.iconst 2, 1) := by decide +kernel
theorem dJ6_bitCount_0f7a4_17 : decode cJ6_bitCount_0f7a4 17 = .ok (.iushr, 1) := by decide +kernel
theorem dJ6_bitCount_0f7a4_18 : decode cJ6_bitCount_0f7a4 18 = .ok (.ldc_w 266, 3) := by decide +kernel
theorem dJ6_bitCount_0f7a4_21 : decode cJ6_bitCount_0f7a4 21 = .ok (.iand, 1) := by decide +kernel
theorem dJ6_bitCount_0f7a4_22 : decode cJ6_bitCount_0f7a4 22 = .ok (.iadd, 1) := by decide +kernel
theorem dJ6_bitCount_0f7a4_23 : decode cJ6_bitCount_0f7a4 23 = .ok (.istore_n 0, 1) := by decide +kernel
theorem dJ6_bitCount_0f7a4_24 : decode cJ6_bitCount_0f7a4 24 = .ok (.iload_n 0, 1) := by decide +kernel
theorem dJ6_bitCount_0f7a4_25 : decode cJ6_bitCount_0f7a4 25 = .ok (.iload_n 0, 1) := by decide +kernel
theorem dJ6_bitCount_0f7a4_26 : decode cJ6_bitCount_0f7a4 26 = .ok (.iconst 4, 1) := by decide +kernel
theorem dJ6_bitCount_0f7a4_27 : decode cJ6_bitCount_0f7a4 27 = .ok (.iushr, 1) := by decide +kernel
theorem dJ6_bitCount_0f7a4_28 : decode cJ6_bitCount_0f7a4 28 = .ok (.iadd, 1) := by decide +kernel
theorem dJ6_bitCount_0f7a4_29 : decode cJ6_bitCount_0f7a4 29 = .ok (.ldc_w 267, 3) := by decide +kernel
theorem dJ6_bitCount_0f7a4_32 : decode cJ6_bitCount_0f7a4 32 = .ok (.iand, 1) := by decide +kernel
theorem dJ6_bitCount_0f7a4_33 : decode cJ6_bitCount_0f7a4 33 = .ok (.istore_n 0, 1) := by decide +kernel
theorem dJ6_bitCount_0f7a4_34 : decode cJ6_bitCount_0f7a4 34 = .ok (.iload_n 0, 1) := by decide +kernel
theorem dJ6_bitCount_0f7a4_35 : decode cJ6_bitCount_0f7a4 35 = .ok (.iload_n 0, 1) := by decide +kernel
theorem dJ6_bitCount_0f7a4_36 : decode cJ6_bitCount_0f7a4 36 = .ok (.bipush 8, 2) := by decide +kernel
theorem dJ6_bitCount_0f7a4_38 : decode cJ6_bitCount_0f7a4 38 = .ok (.iushr, 1) := by decide +kernel
theorem dJ6_bitCount_0f7a4_39 : decode cJ6_bitCount_0f7a4 39 = .ok (.iadd, 1) := by decide +kernel
theorem dJ6_bitCount_0f7a4_40 : decode cJ6_bitCount_0f7a4 40 = .ok (.istore_n 0, 1) := by decide +kernel
theorem dJ6_bitCount_0f7a4_41 : decode cJ6_bitCount_0f7a4 41 = .ok (.iload_n 0, 1) := by decide +kernel
theorem dJ6_bitCount_0f7a4_42 : decode cJ6_bitCount_0f7a4 42 = .ok (.iload_n 0, 1) := by decide +kernel
theorem dJ6_bitCount_0f7a4_43 : decode cJ6_bitCount_0f7a4 43 = .ok (.bipush 16, 2) := by decide +kernel
theorem dJ6_bitCount_0f7a4_45 : decode cJ6_bitCount_0f7a4 45 = .ok (.iushr, 1) := by decide +kernel
theorem dJ6_bitCount_0f7a4_46 : decode cJ6_bitCount_0f7a4 46 = .ok (.iadd, 1) := by decide +kernel
theorem dJ6_bitCount_0f7a4_47 : decode cJ6_bitCount_0f7a4 47 = .ok (.istore_n 0, 1) := by decide +kernel
theorem dJ6_bitCount_0f7a4_48 : decode cJ6_bitCount_0f7a4 48 = .ok (.iload_n 0, 1) := by decide +kernel
theorem dJ6_bitCount_0f7a4_49 : decode cJ6_bitCount_0f7a4 49 = .ok (.bipush 63, 2) := by decide +kernel
theorem dJ6_bitCount_0f7a4_51 : decode cJ6_bitCount_0f7a4 51 = .ok (.iand, 1) := by decide +kernel
theorem dJ6_bitCount_0f7a4_52 : decode cJ6_bitCount_0f7a4 52 = .ok (.ireturn, 1) := by decide +kernel
theorem dJ9_floorMod_7cf53_0 : decode cJ9_floorMod_7cf53 0 = .ok (.iload_n 0, 1) := by decide +kernel
theorem dJ9_floorMod_7cf53_1 : decode cJ9_floorMod_7cf53 1 = .ok (.iload_n 1, 1) := by decide +kernel
theorem dJ9_floorMod_7cf53_2 : decode cJ9_floorMod_7cf53 2 = .ok (.irem, 1) := by decide +kernel
theorem dJ9_floorMod_7cf53_3 : decode cJ9_floorMod_7cf53 3 = .ok (.istore_n 2, 1) := by decide +kernel
theorem dJ9_floorMod_7cf53_4 : decode cJ9_floorMod_7cf53 4 = .ok (.iload_n 0, 1) := by decide +kernel
theorem dJ9_floorMod_7cf53_5 : decode cJ9_floorMod_7cf53 5 = .ok (.iload_n 1, 1) := by decide +kernel
theorem dJ9_floorMod_7cf53_6 : decode cJ9_floorMod_7cf53 6 = .ok (.ixor, 1) := by decide +kernel
theorem dJ9_floorMod_7cf53_7 : decode cJ9_floorMod_7cf53 7 = .ok (.ifCond .ge 11, 3) := by decide +kernel
theorem dJ9_floorMod_7cf53_10 : decode cJ9_floorMod_7cf53 10 = .ok (.iload_n 2, 1) := by decide +kernel
theorem dJ9_floorMod_7cf53_11 : decode cJ9_floorMod_7cf53 11 = .ok (.ifCond .eq 7, 3) := by decide +kernel
theorem dJ9_floorMod_7cf53_14 : decode cJ9_floorMod_7cf53 14 = .ok (.iload_n 2, 1) := by decide +kernel
theorem dJ9_floorMod_7cf53_15 : decode cJ9_floorMod_7cf53 15 = .ok (.iload_n 1, 1) := by decide +kernel
theorem dJ9_floorMod_7cf53_16 : decode cJ9_floorMod_7cf53 16 = .ok (.iadd, 1) := by decide +kernel
theorem dJ9_floorMod_7cf53_17 : decode cJ9_floorMod_7cf53 17 = .ok (.ireturn, 1) := by decide +kernel
theorem dJ9_floorMod_7cf53_18 : decode cJ9_floorMod_7cf53 18 = .ok (.iload_n 2, 1) := by decide +kernel
theorem dJ9_floorMod_7cf53_19 : decode cJ9_floorMod_7cf53 19 = .ok (.ireturn, 1) := by decide +kernel
theorem dJ9_min_7cf53_0 : decode cJ9_min_7cf53 0 = .ok (.iload_n 0, 1) := by decide +kernel
theorem dJ9_min_7cf53_1 : decode cJ9_min_7cf53 1 = .ok (.iload_n 1, 1) := by decide +kernel
theorem dJ9_min_7cf53_2 : decode cJ9_min_7cf53 2 = .ok (.if_icmp .gt 7, 3) := by decide +kernel
theorem dJ9_min_7cf53_5 : decode cJ9_min_7cf53 5 = .ok (.iload_n 0, 1) := by decide +kernel
theorem dJ9_min_7cf53_6 : decode cJ9_min_7cf53 6 = .ok (.goto 4, 3) := by decide +kernel
theorem dJ9_min_7cf53_9 : decode cJ9_min_7cf53 9 = .ok (.iload_n 1, 1) := by decide +kernel
theorem dJ9_min_7cf53_10 : decode cJ9_min_7cf53 10 = .ok (.ireturn, 1) := by decide +kernel
