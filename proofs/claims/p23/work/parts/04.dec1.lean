theorem dX1_init_0 : decode cX1_init 0 = .ok (.aload_n 0, 1) := by decide +kernel
theorem dX1_init_1 : decode cX1_init 1 = .ok (.invokespecial 3, 3) := by decide +kernel
theorem dX1_init_4 : decode cX1_init 4 = .ok (.aload_n 0, 1) := by decide +kernel
theorem dX1_init_5 : decode cX1_init 5 = .ok (.bipush 40, 2) := by decide +kernel
theorem dX1_init_7 : decode cX1_init 7 = .ok (.anewarray 9, 3) := by decide +kernel
theorem dX1_init_10 : decode cX1_init 10 = .ok (.putfield 11, 3) := by decide +kernel
theorem dX1_init_13 : decode cX1_init 13 = .ok (.aload_n 0, 1) := by decide +kernel
theorem dX1_init_14 : decode cX1_init 14 = .ok (.iconst 0, 1) := by decide +kernel
theorem dX1_init_15 : decode cX1_init 15 = .ok (.putfield 15, 3) := by decide +kernel
theorem dX1_init_18 : decode cX1_init 18 = .ok (.aload_n 0, 1) := by decide +kernel
theorem dX1_init_19 : decode cX1_init 19 = .ok (.iconst 0, 1) := by decide +kernel
theorem dX1_init_20 : decode cX1_init 20 = .ok (.putfield 19, 3) := by decide +kernel
theorem dX1_init_23 : decode cX1_init 23 = .ok (.return_, 1) := by decide +kernel
set_option maxRecDepth 20000 in
theorem ggX1_make_X1_howManyThere : GoodIn wsX1_make wsX1_howManyThere := goodIn_r _ [12, 13, 14, 15, 16, 11, 17, 18, 19, 20, 21, 22, 23, 60, 61, 62, 52, 53, 54, 55, 56, 57, 58, 59] (by decide +kernel) (by decide +kernel)
set_option maxRecDepth 20000 in
theorem gX1_make_X1_howManyThere : GoodIn wsX1_make (wsV RX1 29 RX1 yX1_howManyThere wsX1_howManyThere) := goodIn_app (goodIn_of _ (by decide +kernel)) ggX1_make_X1_howManyThere
set_option maxRecDepth 20000 in
theorem ggX1_make_X1_needNumbersLeft : GoodIn wsX1_make wsX1_needNumbersLeft := goodIn_ca (goodIn_r _ [27, 3, 4, 13, 60, 61, 62] (by decide +kernel) (by decide +kernel)) (goodIn_sub (fun _ h => List.mem_cons_of_mem _ (List.mem_append_right _ h)) (by decide +kernel))
set_option maxRecDepth 20000 in
theorem gX1_make_X1_needNumbersLeft : GoodIn wsX1_make (wsV RX1 38 RX1 yX1_needNumbersLeft wsX1_needNumbersLeft) := goodIn_app (goodIn_of _ (by decide +kernel)) ggX1_make_X1_needNumbersLeft
set_option maxRecDepth 20000 in
theorem ggX1_make_X0_init : GoodIn wsX1_make wsX0_init := goodIn_r _ [30, 31, 32, 33, 34, 35, 36, 37, 38, 39, 40, 41, 42, 43, 44, 45, 46, 47, 52, 53, 54, 55, 56, 57, 58, 59] (by decide +kernel) (by decide +kernel)
set_option maxRecDepth 20000 in
theorem gX1_make_X0_init : GoodIn wsX1_make (wsX0_init) := ggX1_make_X0_init
set_option maxRecDepth 20000 in
theorem ggX1_make_X1_put : GoodIn wsX1_make wsX1_put := goodIn_r _ [51, 13, 23, 60, 61, 62] (by decide +kernel) (by decide +kernel)
set_option maxRecDepth 20000 in
theorem gX1_make_X1_put : GoodIn wsX1_make (wsV RX1 44 RX1 yX1_put wsX1_put) := goodIn_app (goodIn_of _ (by decide +kernel)) ggX1_make_X1_put
theorem dX1_make_0 : decode cX1_make 0 = .ok (.iload_n 1, 1) := by decide +kernel
theorem dX1_make_1 : decode cX1_make 1 = .ok (.iconst 1, 1) := by decide +kernel
theorem dX1_make_2 : decode cX1_make 2 = .ok (.if_icmp .lt 9, 3) := by decide +kernel
theorem dX1_make_5 : decode cX1_make 5 = .ok (.iload_n 1, 1) := by decide +kernel
theorem dX1_make_6 : decode cX1_make 6 = .ok (.bipush 12, 2) := by decide +kernel
theorem dX1_make_8 : decode cX1_make 8 = .ok (.if_icmp .le 13, 3) := by decide +kernel
theorem dX1_make_11 : decode cX1_make 11 = .ok (.new 22, 3) := by decide +kernel
theorem dX1_make_14 : decode cX1_make 14 = .ok (.dup, 1) := by decide +kernel
theorem dX1_make_15 : decode cX1_make 15 = .ok (.ldc 24, 2) := by decide +kernel
theorem dX1_make_17 : decode cX1_make 17 = .ok (.invokespecial 26, 3) := by decide +kernel
theorem dX1_make_20 : decode cX1_make 20 = .ok (.athrow, 1) := by decide +kernel
theorem dX1_make_21 : decode cX1_make 21 = .ok (.aload_n 0, 1) := by decide +kernel
theorem dX1_make_22 : decode cX1_make 22 = .ok (.invokevirtual 29, 3) := by decide +kernel
theorem dX1_make_25 : decode cX1_make 25 = .ok (.bipush 12, 2) := by decide +kernel
theorem dX1_make_27 : decode cX1_make 27 = .ok (.if_icmp .lt 13, 3) := by decide +kernel
theorem dX1_make_30 : decode cX1_make 30 = .ok (.new 33, 3) := by decide +kernel
theorem dX1_make_33 : decode cX1_make 33 = .ok (.dup, 1) := by decide +kernel
theorem dX1_make_34 : decode cX1_make 34 = .ok (.ldc 35, 2) := by decide +kernel
theorem dX1_make_36 : decode cX1_make 36 = .ok (.invokespecial 37, 3) := by decide +kernel
theorem dX1_make_39 : decode cX1_make 39 = .ok (.athrow, 1) := by decide +kernel
theorem dX1_make_40 : decode cX1_make 40 = .ok (.aload_n 0, 1) := by decide +kernel
theorem dX1_make_41 : decode cX1_make 41 = .ok (.iconst 1, 1) := by decide +kernel
theorem dX1_make_42 : decode cX1_make 42 = .ok (.invokevirtual 38, 3) := by decide +kernel
theorem dX1_make_45 : decode cX1_make 45 = .ok (.aload_n 0, 1) := by decide +kernel
theorem dX1_make_46 : decode cX1_make 46 = .ok (.new 9, 3) := by decide +kernel
theorem dX1_make_49 : decode cX1_make 49 = .ok (.dup, 1) := by decide +kernel
theorem dX1_make_50 : decode cX1_make 50 = .ok (.iload_n 1, 1) := by decide +kernel
theorem dX1_make_51 : decode cX1_make 51 = .ok (.invokespecial 42, 3) := by decide +kernel
theorem dX1_make_54 : decode cX1_make 54 = .ok (.invokevirtual 44, 3) := by decide +kernel
theorem dX1_make_57 : decode cX1_make 57 = .ok (.ireturn, 1) := by decide +kernel
set_option maxRecDepth 20000 in
theorem ggX1_carve_X1_known : GoodIn wsX1_carve wsX1_known := goodIn_ca (goodIn_r _ [5, 6, 7, 8, 9, 10, 4, 11, 12, 43, 44, 45] (by decide +kernel) (by decide +kernel)) (goodIn_sub (fun _ h => List.mem_cons_of_mem _ (List.mem_append_left _ (List.mem_append_left _ (List.mem_append_right _ h)))) (by decide +kernel))
set_option maxRecDepth 20000 in
theorem gX1_carve_X1_known : GoodIn wsX1_carve (wsV RX1 48 RX1 yX1_known wsX1_known) := goodIn_app (goodIn_of _ (by decide +kernel)) ggX1_carve_X1_known
set_option maxRecDepth 20000 in
theorem ggX1_carve_X1_needPlace : GoodIn wsX1_carve wsX1_needPlace := goodIn_ca (goodIn_r _ [15, 6, 7, 16, 17, 18, 19, 20, 21, 46, 47, 48, 49, 50, 51, 52, 53] (by decide +kernel) (by decide +kernel)) (goodIn_sub (fun _ h => List.mem_cons_of_mem _ (List.mem_append_left _ (List.mem_append_left _ (List.mem_append_right _ h)))) (by decide +kernel))
set_option maxRecDepth 20000 in
theorem gX1_carve_X1_needPlace : GoodIn wsX1_carve (va_wsS RX1 52 yX1_needPlace wsX1_needPlace) := goodIn_app (goodIn_of _ (by decide +kernel)) ggX1_carve_X1_needPlace
set_option maxRecDepth 20000 in
theorem ggX1_carve_X1_needRune : GoodIn wsX1_carve wsX1_needRune := goodIn_ca (goodIn_r _ [24, 25, 26] (by decide +kernel) (by decide +kernel)) (goodIn_sub (fun _ h => List.mem_cons_of_mem _ (List.mem_append_left _ (List.mem_append_right _ h))) (by decide +kernel))
set_option maxRecDepth 20000 in
theorem gX1_carve_X1_needRune : GoodIn wsX1_carve (va_wsS RX1 56 yX1_needRune wsX1_needRune) := goodIn_app (goodIn_of _ (by decide +kernel)) ggX1_carve_X1_needRune
set_option maxRecDepth 20000 in
theorem ggX1_carve_X1_needThere : GoodIn wsX1_carve wsX1_needThere := goodIn_ca (goodIn_r _ [29, 30, 31, 32, 46, 47, 48, 49, 50, 51, 52, 53] (by decide +kernel) (by decide +kernel)) (goodIn_sub (fun _ h => List.mem_cons_of_mem _ (List.mem_append_right _ h)) (by decide +kernel))
set_option maxRecDepth 20000 in
theorem gX1_carve_X1_needThere : GoodIn wsX1_carve (va_wsS RX1 59 yX1_needThere wsX1_needThere) := goodIn_app (goodIn_of _ (by decide +kernel)) ggX1_carve_X1_needThere
set_option maxRecDepth 20000 in
theorem ggX1_carve_X0_runeAt : GoodIn wsX1_carve wsX0_runeAt := goodIn_r _ [36, 37, 38, 17, 18, 19, 20, 21, 46, 47, 48, 49, 50, 51, 52, 53] (by decide +kernel) (by decide +kernel)
set_option maxRecDepth 20000 in
theorem gX1_carve_X0_runeAt : GoodIn wsX1_carve (wsV RX1 63 RX0 yX0_runeAt wsX0_runeAt) := goodIn_app (goodIn_of _ (by decide +kernel)) ggX1_carve_X0_runeAt
set_option maxRecDepth 20000 in
theorem ggX1_carve_X0_putRune : GoodIn wsX1_carve wsX0_putRune := goodIn_r _ [42, 37, 38, 17, 18, 19, 20, 21, 46, 47, 48, 49, 50, 51, 52, 53] (by decide +kernel) (by decide +kernel)
set_option maxRecDepth 20000 in
theorem gX1_carve_X0_putRune : GoodIn wsX1_carve (wsV RX1 67 RX0 yX0_putRune wsX0_putRune) := goodIn_app (goodIn_of _ (by decide +kernel)) ggX1_carve_X0_putRune
theorem dX1_carve_0 : decode cX1_carve 0 = .ok (.aload_n 0, 1) := by decide +kernel
theorem dX1_carve_1 : decode cX1_carve 1 = .ok (.iload_n 1, 1) := by decide +kernel
theorem dX1_carve_2 : decode cX1_carve 2 = .ok (.invokevirtual 48, 3) := by decide +kernel
theorem dX1_carve_5 : decode cX1_carve 5 = .ok (.astore 5, 2) := by decide +kernel
theorem dX1_carve_7 : decode cX1_carve 7 = .ok (.aload 5, 2) := by decide +kernel
theorem dX1_carve_9 : decode cX1_carve 9 = .ok (.iload_n 2, 1) := by decide +kernel
theorem dX1_carve_10 : decode cX1_carve 10 = .ok (.iload_n 3, 1) := by decide +kernel
theorem dX1_carve_11 : decode cX1_carve 11 = .ok (.invokestatic 52, 3) := by decide +kernel
theorem dX1_carve_14 : decode cX1_carve 14 = .ok (.iload 4, 2) := by decide +kernel
theorem dX1_carve_16 : decode cX1_carve 16 = .ok (.invokestatic 56, 3) := by decide +kernel
theorem dX1_carve_19 : decode cX1_carve 19 = .ok (.aload 5, 2) := by decide +kernel
theorem dX1_carve_21 : decode cX1_carve 21 = .ok (.invokestatic 59, 3) := by decide +kernel
theorem dX1_carve_24 : decode cX1_carve 24 = .ok (.aload 5, 2) := by decide +kernel
theorem dX1_carve_26 : decode cX1_carve 26 = .ok (.iload_n 2, 1) := by decide +kernel
theorem dX1_carve_27 : decode cX1_carve 27 = .ok (.iload_n 3, 1) := by decide +kernel
theorem dX1_carve_28 : decode cX1_carve 28 = .ok (.invokevirtual 63, 3) := by decide +kernel
theorem dX1_carve_31 : decode cX1_carve 31 = .ok (.istore 6, 2) := by decide +kernel
theorem dX1_carve_33 : decode cX1_carve 33 = .ok (.aload 5, 2) := by decide +kernel
theorem dX1_carve_35 : decode cX1_carve 35 = .ok (.iload_n 2, 1) := by decide +kernel
theorem dX1_carve_36 : decode cX1_carve 36 = .ok (.iload_n 3, 1) := by decide +kernel
theorem dX1_carve_37 : decode cX1_carve 37 = .ok (.iload 4, 2) := by decide +kernel
theorem dX1_carve_39 : decode cX1_carve 39 = .ok (.invokevirtual 67, 3) := by decide +kernel
theorem dX1_carve_42 : decode cX1_carve 42 = .ok (.iload 6, 2) := by decide +kernel
theorem dX1_carve_44 : decode cX1_carve 44 = .ok (.ireturn, 1) := by decide +kernel
set_option maxRecDepth 20000 in
theorem ggX1_roll_X1_known : GoodIn wsX1_roll wsX1_known := goodIn_ca (goodIn_r _ [8, 9, 10, 11, 12, 13, 7, 14, 15, 30, 31, 32] (by decide +kernel) (by decide +kernel)) (goodIn_sub (fun _ h => List.mem_cons_of_mem _ (List.mem_append_left _ (List.mem_append_right _ h))) (by decide +kernel))
set_option maxRecDepth 20000 in
theorem gX1_roll_X1_known : GoodIn wsX1_roll (wsV RX1 48 RX1 yX1_known wsX1_known) := goodIn_app (goodIn_of _ (by decide +kernel)) ggX1_roll_X1_known
set_option maxRecDepth 20000 in
theorem ggX1_roll_X1_needThere : GoodIn wsX1_roll wsX1_needThere := goodIn_ca (goodIn_r _ [18, 19, 20, 21, 22, 23, 24, 25, 26, 27, 28, 29] (by decide +kernel) (by decide +kernel)) (goodIn_sub (fun _ h => List.mem_cons_of_mem _ (List.mem_append_right _ h)) (by decide +kernel))
set_option maxRecDepth 20000 in
theorem gX1_roll_X1_needThere : GoodIn wsX1_roll (va_wsS RX1 59 yX1_needThere wsX1_needThere) := goodIn_app (goodIn_of _ (by decide +kernel)) ggX1_roll_X1_needThere
theorem dX1_roll_0 : decode cX1_roll 0 = .ok (.aload_n 0, 1) := by decide +kernel
theorem dX1_roll_1 : decode cX1_roll 1 = .ok (.iload_n 1, 1) := by decide +kernel
theorem dX1_roll_2 : decode cX1_roll 2 = .ok (.invokevirtual 48, 3) := by decide +kernel
theorem dX1_roll_5 : decode cX1_roll 5 = .ok (.astore_n 3, 1) := by decide +kernel
theorem dX1_roll_6 : decode cX1_roll 6 = .ok (.iload_n 2, 1) := by decide +kernel
theorem dX1_roll_7 : decode cX1_roll 7 = .ok (.ifCond .lt 8, 3) := by decide +kernel
theorem dX1_roll_10 : decode cX1_roll 10 = .ok (.iload_n 2, 1) := by decide +kernel
theorem dX1_roll_11 : decode cX1_roll 11 = .ok (.iconst 3, 1) := by decide +kernel
theorem dX1_roll_12 : decode cX1_roll 12 = .ok (.if_icmp .lt 13, 3) := by decide +kernel
theorem dX1_roll_15 : decode cX1_roll 15 = .ok (.new 22, 3) := by decide +kernel
theorem dX1_roll_18 : decode cX1_roll 18 = .ok (.dup, 1) := by decide +kernel
theorem dX1_roll_19 : decode cX1_roll 19 = .ok (.ldc 73, 2) := by decide +kernel
theorem dX1_roll_21 : decode cX1_roll 21 = .ok (.invokespecial 26, 3) := by decide +kernel
theorem dX1_roll_24 : decode cX1_roll 24 = .ok (.athrow, 1) := by decide +kernel
theorem dX1_roll_25 : decode cX1_roll 25 = .ok (.aload_n 3, 1) := by decide +kernel
theorem dX1_roll_26 : decode cX1_roll 26 = .ok (.invokestatic 59, 3) := by decide +kernel
theorem dX1_roll_29 : decode cX1_roll 29 = .ok (.aload_n 3, 1) := by decide +kernel
theorem dX1_roll_30 : decode cX1_roll 30 = .ok (.aload_n 3, 1) := by decide +kernel
theorem dX1_roll_31 : decode cX1_roll 31 = .ok (.getfield 75, 3) := by decide +kernel
theorem dX1_roll_34 : decode cX1_roll 34 = .ok (.iload_n 2, 1) := by decide +kernel
theorem dX1_roll_35 : decode cX1_roll 35 = .ok (.iadd, 1) := by decide +kernel
theorem dX1_roll_36 : decode cX1_roll 36 = .ok (.iconst 3, 1) := by decide +kernel
theorem dX1_roll_37 : decode cX1_roll 37 = .ok (.irem, 1) := by decide +kernel
theorem dX1_roll_38 : decode cX1_roll 38 = .ok (.putfield 75, 3) := by decide +kernel
theorem dX1_roll_41 : decode cX1_roll 41 = .ok (.aload_n 3, 1) := by decide +kernel
theorem dX1_roll_42 : decode cX1_roll 42 = .ok (.getfield 75, 3) := by decide +kernel
theorem dX1_roll_45 : decode cX1_roll 45 = .ok (.ireturn, 1) := by decide +kernel
set_option maxRecDepth 20000 in
theorem ggX1_bend_X1_known : GoodIn wsX1_bend wsX1_known := goodIn_ca (goodIn_r _ [7, 8, 9, 10, 11, 12, 6, 13, 14, 122, 123, 124] (by decide +kernel) (by decide +kernel)) (goodIn_sub (fun _ h => List.mem_cons_of_mem _ (List.mem_append_left _ (List.mem_append_right _ h))) (by decide +kernel))
set_option maxRecDepth 20000 in
theorem gX1_bend_X1_known : GoodIn wsX1_bend (wsV RX1 48 RX1 yX1_known wsX1_known) := goodIn_app (goodIn_of _ (by decide +kernel)) ggX1_bend_X1_known
set_option maxRecDepth 20000 in
theorem ggX1_bend_X1_needForce : GoodIn wsX1_bend wsX1_needForce := goodIn_ca (goodIn_r _ [17, 18, 19] (by decide +kernel) (by decide +kernel)) (goodIn_sub (fun _ h => List.mem_cons_of_mem _ (List.mem_append_right _ h)) (by decide +kernel))
set_option maxRecDepth 20000 in
theorem gX1_bend_X1_needForce : GoodIn wsX1_bend (va_wsS RX1 78 yX1_needForce wsX1_needForce) := goodIn_app (goodIn_of _ (by decide +kernel)) ggX1_bend_X1_needForce
set_option maxRecDepth 20000 in
theorem ggX1_bend_X1_needThere : GoodIn wsX1_bend wsX1_needThere := goodIn_ca (goodIn_r _ [22, 1, 2, 23, 125, 126, 127, 128, 129, 130, 131, 132] (by decide +kernel) (by decide +kernel)) (goodIn_sub (fun _ h => List.mem_cons_of_mem _ (List.mem_append_left _ (List.mem_append_left _ (List.mem_append_right _ h)))) (by decide +kernel))
set_option maxRecDepth 20000 in
theorem gX1_bend_X1_needThere : GoodIn wsX1_bend (va_wsS RX1 59 yX1_needThere wsX1_needThere) := goodIn_app (goodIn_of _ (by decide +kernel)) ggX1_bend_X1_needThere
set_option maxRecDepth 20000 in
theorem ggX1_bend_X0_firstWeakestJoint : GoodIn wsX1_bend wsX0_firstWeakestJoint := goodIn_r _ [28, 29, 30, 31, 32, 27, 33, 34, 35, 36, 37, 38, 39, 40, 41, 42, 43, 44, 45, 46, 47, 48, 49, 50, 51, 52, 53, 54, 55, 56, 57, 58, 59, 125, 126, 127, 128, 129, 130, 131, 132] (by decide +kernel) (by decide +kernel)
set_option maxRecDepth 20000 in
theorem gX1_bend_X0_firstWeakestJoint : GoodIn wsX1_bend (wsV RX1 81 RX0 yX0_firstWeakestJoint wsX0_firstWeakestJoint) := goodIn_app (goodIn_of _ (by decide +kernel)) ggX1_bend_X0_firstWeakestJoint
set_option maxRecDepth 20000 in
theorem ggX1_bend_X0_strengthAt : GoodIn wsX1_bend wsX0_strengthAt := goodIn_r _ [33, 34, 35, 36, 37, 38, 39, 40, 27, 41, 42, 43, 44, 45, 46, 29, 47, 48, 49, 50, 51, 52, 53, 54, 55, 56, 57, 58, 59, 125, 126, 127, 128, 129, 130, 131, 132] (by decide +kernel) (by decide +kernel)
set_option maxRecDepth 20000 in
theorem gX1_bend_X0_strengthAt : GoodIn wsX1_bend (wsV RX1 84 RX0 yX0_strengthAt wsX0_strengthAt) := goodIn_app (goodIn_of _ (by decide +kernel)) ggX1_bend_X0_strengthAt
set_option maxRecDepth 20000 in
theorem ggX1_bend_X1_howManyThere : GoodIn wsX1_bend wsX1_howManyThere := goodIn_r _ [64, 65, 66, 67, 68, 6, 69, 23, 10, 11, 12, 13, 14, 122, 123, 124, 125, 126, 127, 128, 129, 130, 131, 132] (by decide +kernel) (by decide +kernel)
set_option maxRecDepth 20000 in
theorem gX1_bend_X1_howManyThere : GoodIn wsX1_bend (wsV RX1 29 RX1 yX1_howManyThere wsX1_howManyThere) := goodIn_app (goodIn_of _ (by decide +kernel)) ggX1_bend_X1_howManyThere
set_option maxRecDepth 20000 in
theorem ggX1_bend_X1_needNumbersLeft : GoodIn wsX1_bend wsX1_needNumbersLeft := goodIn_ca (goodIn_r _ [73, 1, 2, 65, 122, 123, 124] (by decide +kernel) (by decide +kernel)) (goodIn_sub (fun _ h => List.mem_cons_of_mem _ (List.mem_append_left _ (List.mem_append_left _ (List.mem_append_right _ h)))) (by decide +kernel))
set_option maxRecDepth 20000 in
theorem gX1_bend_X1_needNumbersLeft : GoodIn wsX1_bend (wsV RX1 38 RX1 yX1_needNumbersLeft wsX1_needNumbersLeft) := goodIn_app (goodIn_of _ (by decide +kernel)) ggX1_bend_X1_needNumbersLeft
set_option maxRecDepth 20000 in
theorem ggX1_bend_X1_breakAt : GoodIn wsX1_bend wsX1_breakAt := goodIn_r _ [77, 78, 79, 27, 80, 81, 82, 83, 84, 23, 85, 86, 87, 88, 89, 90, 29, 91, 92, 93, 94, 95, 55, 42, 96, 97, 98, 99, 100, 101, 102, 103, 104, 105, 51, 52, 53, 54, 56, 57, 58, 59, 106, 107, 108, 109, 38, 39, 40, 41, 43, 44, 45, 46, 110, 111, 112, 113, 114, 115, 116, 117, 118, 119, 120, 6, 121, 65, 14, 125, 126, 127, 128, 129, 130, 131, 132, 122, 123, 124] (by decide +kernel) (by decide +kernel)
set_option maxRecDepth 20000 in
theorem gX1_bend_X1_breakAt : GoodIn wsX1_bend (wsV RX1 88 RX1 yX1_breakAt wsX1_breakAt) := goodIn_app (goodIn_of _ (by decide +kernel)) ggX1_bend_X1_breakAt
theorem dX1_bend_0 : decode cX1_bend 0 = .ok (.aload_n 0, 1) := by decide +kernel
theorem dX1_bend_1 : decode cX1_bend 1 = .ok (.iload_n 1, 1) := by decide +kernel
theorem dX1_bend_2 : decode cX1_bend 2 = .ok (.invokevirtual 48, 3) := by decide +kernel
theorem dX1_bend_5 : decode cX1_bend 5 = .ok (.astore_n 3, 1) := by decide +kernel
theorem dX1_bend_6 : decode cX1_bend 6 = .ok (.iload_n 2, 1) := by decide +kernel
theorem dX1_bend_7 : decode cX1_bend 7 = .ok (.invokestatic 78, 3) := by decide +kernel
theorem dX1_bend_10 : decode cX1_bend 10 = .ok (.aload_n 3, 1) := by decide +kernel
theorem dX1_bend_11 : decode cX1_bend 11 = .ok (.invokestatic 59, 3) := by decide +kernel
theorem dX1_bend_14 : decode cX1_bend 14 = .ok (.aload_n 3, 1) := by decide +kernel
theorem dX1_bend_15 : decode cX1_bend 15 = .ok (.invokevirtual 81, 3) := by decide +kernel
theorem dX1_bend_18 : decode cX1_bend 18 = .ok (.istore 4, 2) := by decide +kernel
theorem dX1_bend_20 : decode cX1_bend 20 = .ok (.iload 4, 2) := by decide +kernel
theorem dX1_bend_22 : decode cX1_bend 22 = .ok (.iconst (-1), 1) := by decide +kernel
theorem dX1_bend_23 : decode cX1_bend 23 = .ok (.if_icmp .eq 13, 3) := by decide +kernel
theorem dX1_bend_26 : decode cX1_bend 26 = .ok (.aload_n 3, 1) := by decide +kernel
theorem dX1_bend_27 : decode cX1_bend 27 = .ok (.iload 4, 2) := by decide +kernel
theorem dX1_bend_29 : decode cX1_bend 29 = .ok (.invokevirtual 84, 3) := by decide +kernel
theorem dX1_bend_32 : decode cX1_bend 32 = .ok (.iload_n 2, 1) := by decide +kernel
theorem dX1_bend_33 : decode cX1_bend 33 = .ok (.if_icmp .lt 5, 3) := by decide +kernel
theorem dX1_bend_36 : decode cX1_bend 36 = .ok (.iconst (-1), 1) := by decide +kernel
theorem dX1_bend_37 : decode cX1_bend 37 = .ok (.ireturn, 1) := by decide +kernel
theorem dX1_bend_38 : decode cX1_bend 38 = .ok (.aload_n 0, 1) := by decide +kernel
theorem dX1_bend_39 : decode cX1_bend 39 = .ok (.invokevirtual 29, 3) := by decide +kernel
theorem dX1_bend_42 : decode cX1_bend 42 = .ok (.bipush 12, 2) := by decide +kernel
theorem dX1_bend_44 : decode cX1_bend 44 = .ok (.if_icmp .lt 13, 3) := by decide +kernel
theorem dX1_bend_47 : decode cX1_bend 47 = .ok (.new 33, 3) := by decide +kernel
theorem dX1_bend_50 : decode cX1_bend 50 = .ok (.dup, 1) := by decide +kernel
theorem dX1_bend_51 : decode cX1_bend 51 = .ok (.ldc 35, 2) := by decide +kernel
theorem dX1_bend_53 : decode cX1_bend 53 = .ok (.invokespecial 37, 3) := by decide +kernel
theorem dX1_bend_56 : decode cX1_bend 56 = .ok (.athrow, 1) := by decide +kernel
theorem dX1_bend_57 : decode cX1_bend 57 = .ok (.aload_n 0, 1) := by decide +kernel
theorem dX1_bend_58 : decode cX1_bend 58 = .ok (.iconst 2, 1) := by decide +kernel
theorem dX1_bend_59 : decode cX1_bend 59 = .ok (.invokevirtual 38, 3) := by decide +kernel
theorem dX1_bend_62 : decode cX1_bend 62 = .ok (.aload_n 0, 1) := by decide +kernel
theorem dX1_bend_63 : decode cX1_bend 63 = .ok (.aload_n 3, 1) := by decide +kernel
theorem dX1_bend_64 : decode cX1_bend 64 = .ok (.iload 4, 2) := by decide +kernel
theorem dX1_bend_66 : decode cX1_bend 66 = .ok (.invokevirtual 88, 3) := by decide +kernel
theorem dX1_bend_69 : decode cX1_bend 69 = .ok (.ireturn, 1) := by decide +kernel
set_option maxRecDepth 20000 in
theorem ggX1_glue_X1_known : GoodIn wsX1_glue wsX1_known := goodIn_ca (goodIn_r _ [10, 11, 12, 13, 14, 15, 9, 16, 17, 106, 107, 108] (by decide +kernel) (by decide +kernel)) (goodIn_sub (fun _ h => List.mem_cons_of_mem _ (List.mem_append_right _ h)) (by decide +kernel))
set_option maxRecDepth 20000 in
theorem gX1_glue_X1_known : GoodIn wsX1_glue (wsV RX1 48 RX1 yX1_known wsX1_known) := goodIn_app (goodIn_of _ (by decide +kernel)) ggX1_glue_X1_known
set_option maxRecDepth 20000 in
theorem ggX1_glue_X1_needThere : GoodIn wsX1_glue wsX1_needThere := goodIn_ca (goodIn_r _ [20, 3, 4, 21, 98, 99, 100, 101, 102, 103, 104, 105] (by decide +kernel) (by decide +kernel)) (goodIn_sub (fun _ h => List.mem_cons_of_mem _ (List.mem_append_left _ (List.mem_append_right _ h))) (by decide +kernel))
set_option maxRecDepth 20000 in
theorem gX1_glue_X1_needThere : GoodIn wsX1_glue (va_wsS RX1 59 yX1_needThere wsX1_needThere) := goodIn_app (goodIn_of _ (by decide +kernel)) ggX1_glue_X1_needThere
set_option maxRecDepth 20000 in
theorem ggX1_glue_X1_needNumbersLeft : GoodIn wsX1_glue wsX1_needNumbersLeft := goodIn_ca (goodIn_r _ [25, 3, 4, 26, 106, 107, 108] (by decide +kernel) (by decide +kernel)) (goodIn_sub (fun _ h => List.mem_cons_of_mem _ (List.mem_append_left _ (List.mem_append_right _ h))) (by decide +kernel))
set_option maxRecDepth 20000 in
theorem gX1_glue_X1_needNumbersLeft : GoodIn wsX1_glue (wsV RX1 38 RX1 yX1_needNumbersLeft wsX1_needNumbersLeft) := goodIn_app (goodIn_of _ (by decide +kernel)) ggX1_glue_X1_needNumbersLeft
set_option maxRecDepth 20000 in
theorem ggX1_glue_X1_joinBoth : GoodIn wsX1_glue wsX1_joinBoth := goodIn_r _ [30, 31, 32, 33, 5, 34, 35, 36, 21, 37, 38, 39, 40, 41, 42, 43, 44, 45, 46, 47, 48, 49, 50, 51, 52, 53, 54, 55, 56, 57, 58, 59, 60, 61, 62, 63, 64, 65, 66, 67, 68, 69, 70, 71, 72, 73, 74, 75, 76, 77, 78, 79, 80, 81, 82, 83, 84, 85, 86, 87, 88, 89, 90, 91, 92, 93, 94, 95, 96, 9, 97, 26, 17, 98, 99, 100, 101, 102, 103, 104, 105, 106, 107, 108] (by decide +kernel) (by decide +kernel)
set_option maxRecDepth 20000 in
theorem gX1_glue_X1_joinBoth : GoodIn wsX1_glue (wsV RX1 103 RX1 yX1_joinBoth wsX1_joinBoth) := goodIn_app (goodIn_of _ (by decide +kernel)) ggX1_glue_X1_joinBoth
theorem dX1_glue_0 : decode cX1_glue 0 = .ok (.aload_n 0, 1) := by decide +kernel
theorem dX1_glue_1 : decode cX1_glue 1 = .ok (.iload_n 1, 1) := by decide +kernel
theorem dX1_glue_2 : decode cX1_glue 2 = .ok (.invokevirtual 48, 3) := by decide +kernel
theorem dX1_glue_5 : decode cX1_glue 5 = .ok (.astore 5, 2) := by decide +kernel
theorem dX1_glue_7 : decode cX1_glue 7 = .ok (.aload_n 0, 1) := by decide +kernel
theorem dX1_glue_8 : decode cX1_glue 8 = .ok (.iload_n 2, 1) := by decide +kernel
theorem dX1_glue_9 : decode cX1_glue 9 = .ok (.invokevirtual 48, 3) := by decide +kernel
theorem dX1_glue_12 : decode cX1_glue 12 = .ok (.astore 6, 2) := by decide +kernel
theorem dX1_glue_14 : decode cX1_glue 14 = .ok (.iload_n 3, 1) := by decide +kernel
theorem dX1_glue_15 : decode cX1_glue 15 = .ok (.ifCond .lt 8, 3) := by decide +kernel
theorem dX1_glue_18 : decode cX1_glue 18 = .ok (.iload_n 3, 1) := by decide +kernel
theorem dX1_glue_19 : decode cX1_glue 19 = .ok (.iconst 3, 1) := by decide +kernel
theorem dX1_glue_20 : decode cX1_glue 20 = .ok (.if_icmp .lt 13, 3) := by decide +kernel
theorem dX1_glue_23 : decode cX1_glue 23 = .ok (.new 22, 3) := by decide +kernel
theorem dX1_glue_26 : decode cX1_glue 26 = .ok (.dup, 1) := by decide +kernel
theorem dX1_glue_27 : decode cX1_glue 27 = .ok (.ldc 92, 2) := by decide +kernel
theorem dX1_glue_29 : decode cX1_glue 29 = .ok (.invokespecial 26, 3) := by decide +kernel
theorem dX1_glue_32 : decode cX1_glue 32 = .ok (.athrow, 1) := by decide +kernel
theorem dX1_glue_33 : decode cX1_glue 33 = .ok (.iload 4, 2) := by decide +kernel
theorem dX1_glue_35 : decode cX1_glue 35 = .ok (.iconst 1, 1) := by decide +kernel
theorem dX1_glue_36 : decode cX1_glue 36 = .ok (.if_icmp .lt 10, 3) := by decide +kernel
theorem dX1_glue_39 : decode cX1_glue 39 = .ok (.iload 4, 2) := by decide +kernel
theorem dX1_glue_41 : decode cX1_glue 41 = .ok (.bipush 9, 2) := by decide +kernel
theorem dX1_glue_43 : decode cX1_glue 43 = .ok (.if_icmp .le 13, 3) := by decide +kernel
theorem dX1_glue_46 : decode cX1_glue 46 = .ok (.new 22, 3) := by decide +kernel
theorem dX1_glue_49 : decode cX1_glue 49 = .ok (.dup, 1) := by decide +kernel
theorem dX1_glue_50 : decode cX1_glue 50 = .ok (.ldc 94, 2) := by decide +kernel
theorem dX1_glue_52 : decode cX1_glue 52 = .ok (.invokespecial 26, 3) := by decide +kernel
theorem dX1_glue_55 : decode cX1_glue 55 = .ok (.athrow, 1) := by decide +kernel
theorem dX1_glue_56 : decode cX1_glue 56 = .ok (.aload 5, 2) := by decide +kernel
theorem dX1_glue_58 : decode cX1_glue 58 = .ok (.invokestatic 59, 3) := by decide +kernel
theorem dX1_glue_61 : decode cX1_glue 61 = .ok (.aload 6, 2) := by decide +kernel
theorem dX1_glue_63 : decode cX1_glue 63 = .ok (.invokestatic 59, 3) := by decide +kernel
theorem dX1_glue_66 : decode cX1_glue 66 = .ok (.aload 5, 2) := by decide +kernel
theorem dX1_glue_68 : decode cX1_glue 68 = .ok (.aload 6, 2) := by decide +kernel
theorem dX1_glue_70 : decode cX1_glue 70 = .ok (.if_acmp .ne 13, 3) := by decide +kernel
theorem dX1_glue_73 : decode cX1_glue 73 = .ok (.new 33, 3) := by decide +kernel
theorem dX1_glue_76 : decode cX1_glue 76 = .ok (.dup, 1) := by decide +kernel
theorem dX1_glue_77 : decode cX1_glue 77 = .ok (.ldc 96, 2) := by decide +kernel
theorem dX1_glue_79 : decode cX1_glue 79 = .ok (.invokespecial 37, 3) := by decide +kernel
theorem dX1_glue_82 : decode cX1_glue 82 = .ok (.athrow, 1) := by decide +kernel
theorem dX1_glue_83 : decode cX1_glue 83 = .ok (.aload 5, 2) := by decide +kernel
theorem dX1_glue_85 : decode cX1_glue 85 = .ok (.getfield 98, 3) := by decide +kernel
theorem dX1_glue_88 : decode cX1_glue 88 = .ok (.aload 6, 2) := by decide +kernel
theorem dX1_glue_90 : decode cX1_glue 90 = .ok (.getfield 98, 3) := by decide +kernel
theorem dX1_glue_93 : decode cX1_glue 93 = .ok (.iadd, 1) := by decide +kernel
theorem dX1_glue_94 : decode cX1_glue 94 = .ok (.bipush 12, 2) := by decide +kernel
theorem dX1_glue_96 : decode cX1_glue 96 = .ok (.if_icmp .le 13, 3) := by decide +kernel
theorem dX1_glue_99 : decode cX1_glue 99 = .ok (.new 33, 3) := by decide +kernel
theorem dX1_glue_102 : decode cX1_glue 102 = .ok (.dup, 1) := by decide +kernel
theorem dX1_glue_103 : decode cX1_glue 103 = .ok (.ldc 101, 2) := by decide +kernel
theorem dX1_glue_105 : decode cX1_glue 105 = .ok (.invokespecial 37, 3) := by decide +kernel
theorem dX1_glue_108 : decode cX1_glue 108 = .ok (.athrow, 1) := by decide +kernel
theorem dX1_glue_109 : decode cX1_glue 109 = .ok (.aload_n 0, 1) := by decide +kernel
theorem dX1_glue_110 : decode cX1_glue 110 = .ok (.iconst 1, 1) := by decide +kernel
theorem dX1_glue_111 : decode cX1_glue 111 = .ok (.invokevirtual 38, 3) := by decide +kernel
theorem dX1_glue_114 : decode cX1_glue 114 = .ok (.aload_n 0, 1) := by decide +kernel
theorem dX1_glue_115 : decode cX1_glue 115 = .ok (.aload 5, 2) := by decide +kernel
theorem dX1_glue_117 : decode cX1_glue 117 = .ok (.aload 6, 2) := by decide +kernel
theorem dX1_glue_119 : decode cX1_glue 119 = .ok (.iload_n 3, 1) := by decide +kernel
theorem dX1_glue_120 : decode cX1_glue 120 = .ok (.iload 4, 2) := by decide +kernel
theorem dX1_glue_122 : decode cX1_glue 122 = .ok (.invokevirtual 103, 3) := by decide +kernel
theorem dX1_glue_125 : decode cX1_glue 125 = .ok (.ireturn, 1) := by decide +kernel
set_option maxRecDepth 20000 in
theorem ggX1_stick_X1_known : GoodIn wsX1_stick wsX1_known := goodIn_ca (goodIn_r _ [7, 1, 2, 8, 9, 10, 6, 11, 12, 53, 54, 55] (by decide +kernel) (by decide +kernel)) (goodIn_sub (fun _ h => List.mem_cons_of_mem _ (List.mem_append_right _ h)) (by decide +kernel))
set_option maxRecDepth 20000 in
theorem gX1_stick_X1_known : GoodIn wsX1_stick (wsV RX1 48 RX1 yX1_known wsX1_known) := goodIn_app (goodIn_of _ (by decide +kernel)) ggX1_stick_X1_known
set_option maxRecDepth 20000 in
theorem ggX1_stick_X0_factAt : GoodIn wsX1_stick wsX0_factAt := goodIn_r _ [17, 18, 19, 20, 21, 22, 23, 24, 25, 16, 26, 27, 28, 29, 30, 31, 32, 33, 34, 35, 36, 37, 38, 39, 40, 41, 42, 43, 44, 45, 46, 47, 48, 49, 50, 51, 52, 56, 57, 58, 59, 60, 61, 62, 63] (by decide +kernel) (by decide +kernel)
set_option maxRecDepth 20000 in
theorem gX1_stick_X0_factAt : GoodIn wsX1_stick (wsV RX1 112 RX0 yX0_factAt wsX0_factAt) := goodIn_app (goodIn_of _ (by decide +kernel)) ggX1_stick_X0_factAt
theorem dX1_stick_0 : decode cX1_stick 0 = .ok (.aload_n 0, 1) := by decide +kernel
theorem dX1_stick_1 : decode cX1_stick 1 = .ok (.iload_n 1, 1) := by decide +kernel
theorem dX1_stick_2 : decode cX1_stick 2 = .ok (.invokevirtual 48, 3) := by decide +kernel
theorem dX1_stick_5 : decode cX1_stick 5 = .ok (.astore_n 3, 1) := by decide +kernel
theorem dX1_stick_6 : decode cX1_stick 6 = .ok (.iload_n 2, 1) := by decide +kernel
theorem dX1_stick_7 : decode cX1_stick 7 = .ok (.ifCond .lt 9, 3) := by decide +kernel
theorem dX1_stick_10 : decode cX1_stick 10 = .ok (.iload_n 2, 1) := by decide +kernel
theorem dX1_stick_11 : decode cX1_stick 11 = .ok (.bipush 7, 2) := by decide +kernel
theorem dX1_stick_13 : decode cX1_stick 13 = .ok (.if_icmp .lt 13, 3) := by decide +kernel
theorem dX1_stick_16 : decode cX1_stick 16 = .ok (.new 107, 3) := by decide +kernel
theorem dX1_stick_19 : decode cX1_stick 19 = .ok (.dup, 1) := by decide +kernel
theorem dX1_stick_20 : decode cX1_stick 20 = .ok (.ldc 109, 2) := by decide +kernel
theorem dX1_stick_22 : decode cX1_stick 22 = .ok (.invokespecial 111, 3) := by decide +kernel
theorem dX1_stick_25 : decode cX1_stick 25 = .ok (.athrow, 1) := by decide +kernel
theorem dX1_stick_26 : decode cX1_stick 26 = .ok (.aload_n 3, 1) := by decide +kernel
theorem dX1_stick_27 : decode cX1_stick 27 = .ok (.iload_n 2, 1) := by decide +kernel
theorem dX1_stick_28 : decode cX1_stick 28 = .ok (.invokevirtual 112, 3) := by decide +kernel
theorem dX1_stick_31 : decode cX1_stick 31 = .ok (.ireturn, 1) := by decide +kernel
set_option maxRecDepth 20000 in
theorem ggX1_rune_X1_known : GoodIn wsX1_rune wsX1_known := goodIn_ca (goodIn_r _ [5, 6, 7, 8, 9, 10, 4, 11, 12, 28, 29, 30] (by decide +kernel) (by decide +kernel)) (goodIn_sub (fun _ h => List.mem_cons_of_mem _ (List.mem_append_right _ h)) (by decide +kernel))
set_option maxRecDepth 20000 in
theorem gX1_rune_X1_known : GoodIn wsX1_rune (wsV RX1 48 RX1 yX1_known wsX1_known) := goodIn_app (goodIn_of _ (by decide +kernel)) ggX1_rune_X1_known
set_option maxRecDepth 20000 in
theorem ggX1_rune_X1_needPlace : GoodIn wsX1_rune wsX1_needPlace := goodIn_ca (goodIn_r _ [15, 6, 7, 16, 17, 18, 19, 20, 21, 31, 32, 33, 34, 35, 36, 37, 38] (by decide +kernel) (by decide +kernel)) (goodIn_sub (fun _ h => List.mem_cons_of_mem _ (List.mem_append_right _ h)) (by decide +kernel))
set_option maxRecDepth 20000 in
theorem gX1_rune_X1_needPlace : GoodIn wsX1_rune (va_wsS RX1 52 yX1_needPlace wsX1_needPlace) := goodIn_app (goodIn_of _ (by decide +kernel)) ggX1_rune_X1_needPlace
set_option maxRecDepth 20000 in
theorem ggX1_rune_X0_runeAt : GoodIn wsX1_rune wsX0_runeAt := goodIn_r _ [25, 26, 27, 17, 18, 19, 20, 21, 31, 32, 33, 34, 35, 36, 37, 38] (by decide +kernel) (by decide +kernel)
set_option maxRecDepth 20000 in
theorem gX1_rune_X0_runeAt : GoodIn wsX1_rune (wsV RX1 63 RX0 yX0_runeAt wsX0_runeAt) := goodIn_app (goodIn_of _ (by decide +kernel)) ggX1_rune_X0_runeAt
theorem dX1_rune_0 : decode cX1_rune 0 = .ok (.aload_n 0, 1) := by decide +kernel
theorem dX1_rune_1 : decode cX1_rune 1 = .ok (.iload_n 1, 1) := by decide +kernel
theorem dX1_rune_2 : decode cX1_rune 2 = .ok (.invokevirtual 48, 3) := by decide +kernel
theorem dX1_rune_5 : decode cX1_rune 5 = .ok (.astore 4, 2) := by decide +kernel
theorem dX1_rune_7 : decode cX1_rune 7 = .ok (.aload 4, 2) := by decide +kernel
theorem dX1_rune_9 : decode cX1_rune 9 = .ok (.iload_n 2, 1) := by decide +kernel
theorem dX1_rune_10 : decode cX1_rune 10 = .ok (.iload_n 3, 1) := by decide +kernel
theorem dX1_rune_11 : decode cX1_rune 11 = .ok (.invokestatic 52, 3) := by decide +kernel
theorem dX1_rune_14 : decode cX1_rune 14 = .ok (.aload 4, 2) := by decide +kernel
theorem dX1_rune_16 : decode cX1_rune 16 = .ok (.iload_n 2, 1) := by decide +kernel
theorem dX1_rune_17 : decode cX1_rune 17 = .ok (.iload_n 3, 1) := by decide +kernel
theorem dX1_rune_18 : decode cX1_rune 18 = .ok (.invokevirtual 63, 3) := by decide +kernel
theorem dX1_rune_21 : decode cX1_rune 21 = .ok (.ireturn, 1) := by decide +kernel
set_option maxRecDepth 20000 in
theorem ggX1_strength_X1_known : GoodIn wsX1_strength wsX1_known := goodIn_ca (goodIn_r _ [7, 1, 2, 8, 9, 10, 6, 11, 12, 46, 47, 48] (by decide +kernel) (by decide +kernel)) (goodIn_sub (fun _ h => List.mem_cons_of_mem _ (List.mem_append_right _ h)) (by decide +kernel))
set_option maxRecDepth 20000 in
theorem gX1_strength_X1_known : GoodIn wsX1_strength (wsV RX1 48 RX1 yX1_known wsX1_known) := goodIn_app (goodIn_of _ (by decide +kernel)) ggX1_strength_X1_known
set_option maxRecDepth 20000 in
theorem ggX1_strength_X0_hasJoint : GoodIn wsX1_strength wsX0_hasJoint := goodIn_r _ [17, 18, 49, 50, 51, 52, 53, 54, 55, 56] (by decide +kernel) (by decide +kernel)
set_option maxRecDepth 20000 in
theorem gX1_strength_X0_hasJoint : GoodIn wsX1_strength (wsV RX1 115 RX0 yX0_hasJoint wsX0_hasJoint) := goodIn_app (goodIn_of _ (by decide +kernel)) ggX1_strength_X0_hasJoint
set_option maxRecDepth 20000 in
theorem ggX1_strength_X0_strengthAt : GoodIn wsX1_strength wsX0_strengthAt := goodIn_r _ [22, 23, 24, 25, 26, 27, 28, 29, 16, 30, 31, 32, 14, 15, 17, 18, 33, 34, 35, 36, 37, 38, 39, 40, 41, 42, 43, 44, 45, 49, 50, 51, 52, 53, 54, 55, 56] (by decide +kernel) (by decide +kernel)
set_option maxRecDepth 20000 in
theorem gX1_strength_X0_strengthAt : GoodIn wsX1_strength (wsV RX1 84 RX0 yX0_strengthAt wsX0_strengthAt) := goodIn_app (goodIn_of _ (by decide +kernel)) ggX1_strength_X0_strengthAt
theorem dX1_strength_0 : decode cX1_strength 0 = .ok (.aload_n 0, 1) := by decide +kernel
theorem dX1_strength_1 : decode cX1_strength 1 = .ok (.iload_n 1, 1) := by decide +kernel
theorem dX1_strength_2 : decode cX1_strength 2 = .ok (.invokevirtual 48, 3) := by decide +kernel
theorem dX1_strength_5 : decode cX1_strength 5 = .ok (.astore_n 3, 1) := by decide +kernel
theorem dX1_strength_6 : decode cX1_strength 6 = .ok (.aload_n 3, 1) := by decide +kernel
theorem dX1_strength_7 : decode cX1_strength 7 = .ok (.iload_n 2, 1) := by decide +kernel
theorem dX1_strength_8 : decode cX1_strength 8 = .ok (.invokevirtual 115, 3) := by decide +kernel
theorem dX1_strength_11 : decode cX1_strength 11 = .ok (.ifCond .ne 13, 3) := by decide +kernel
theorem dX1_strength_14 : decode cX1_strength 14 = .ok (.new 107, 3) := by decide +kernel
theorem dX1_strength_17 : decode cX1_strength 17 = .ok (.dup, 1) := by decide +kernel
theorem dX1_strength_18 : decode cX1_strength 18 = .ok (.ldc 119, 2) := by decide +kernel
theorem dX1_strength_20 : decode cX1_strength 20 = .ok (.invokespecial 111, 3) := by decide +kernel
theorem dX1_strength_23 : decode cX1_strength 23 = .ok (.athrow, 1) := by decide +kernel
theorem dX1_strength_24 : decode cX1_strength 24 = .ok (.aload_n 3, 1) := by decide +kernel
theorem dX1_strength_25 : decode cX1_strength 25 = .ok (.iload_n 2, 1) := by decide +kernel
theorem dX1_strength_26 : decode cX1_strength 26 = .ok (.invokevirtual 84, 3) := by decide +kernel
theorem dX1_strength_29 : decode cX1_strength 29 = .ok (.ireturn, 1) := by decide +kernel
set_option maxRecDepth 20000 in
theorem ggX1_count_X1_total : GoodIn wsX1_count wsX1_total := goodIn_r _ [7, 8, 9, 10, 11, 12, 6, 13, 14, 15, 16, 17, 18, 19, 20, 21, 22, 23, 24, 25, 26, 27, 28, 29, 30, 31, 32, 33, 34, 35, 36, 37, 38, 39, 40, 41, 42, 43, 44, 45, 46, 47, 48, 49, 50, 51, 52, 53, 54, 55, 56, 57, 58, 59, 60, 61, 62, 63, 64, 65, 66, 67, 68, 69, 70, 71, 72, 73, 74, 75, 76, 77, 78, 79, 80, 81, 82, 83, 84, 85, 86, 87, 88, 89, 90] (by decide +kernel) (by decide +kernel)
set_option maxRecDepth 20000 in
theorem gX1_count_X1_total : GoodIn wsX1_count (wsV RX1 123 RX1 yX1_total wsX1_total) := goodIn_app (goodIn_of _ (by decide +kernel)) ggX1_count_X1_total
theorem dX1_count_0 : decode cX1_count 0 = .ok (.iload_n 1, 1) := by decide +kernel
theorem dX1_count_1 : decode cX1_count 1 = .ok (.ifCond .lt 9, 3) := by decide +kernel
theorem dX1_count_4 : decode cX1_count 4 = .ok (.iload_n 1, 1) := by decide +kernel
theorem dX1_count_5 : decode cX1_count 5 = .ok (.bipush 7, 2) := by decide +kernel
theorem dX1_count_7 : decode cX1_count 7 = .ok (.if_icmp .lt 13, 3) := by decide +kernel
theorem dX1_count_10 : decode cX1_count 10 = .ok (.new 107, 3) := by decide +kernel
theorem dX1_count_13 : decode cX1_count 13 = .ok (.dup, 1) := by decide +kernel
theorem dX1_count_14 : decode cX1_count 14 = .ok (.ldc 121, 2) := by decide +kernel
theorem dX1_count_16 : decode cX1_count 16 = .ok (.invokespecial 111, 3) := by decide +kernel
theorem dX1_count_19 : decode cX1_count 19 = .ok (.athrow, 1) := by decide +kernel
theorem dX1_count_20 : decode cX1_count 20 = .ok (.aload_n 0, 1) := by decide +kernel
theorem dX1_count_21 : decode cX1_count 21 = .ok (.iload_n 1, 1) := by decide +kernel
theorem dX1_count_22 : decode cX1_count 22 = .ok (.invokevirtual 123, 3) := by decide +kernel
theorem dX1_count_25 : decode cX1_count 25 = .ok (.ireturn, 1) := by decide +kernel
set_option maxRecDepth 20000 in
theorem ggX1_fits_X1_known : GoodIn wsX1_fits wsX1_known := goodIn_ca (goodIn_r _ [6, 7, 8, 9, 10, 11, 5, 12, 13, 29, 30, 31] (by decide +kernel) (by decide +kernel)) (goodIn_sub (fun _ h => List.mem_cons_of_mem _ (List.mem_append_right _ h)) (by decide +kernel))
set_option maxRecDepth 20000 in
theorem gX1_fits_X1_known : GoodIn wsX1_fits (wsV RX1 48 RX1 yX1_known wsX1_known) := goodIn_app (goodIn_of _ (by decide +kernel)) ggX1_fits_X1_known
set_option maxRecDepth 20000 in
theorem ggX1_fits_X0_fitsAheadOf : GoodIn wsX1_fits wsX0_fitsAheadOf := goodIn_r _ [18, 19, 20, 21, 22, 23, 24, 25, 26, 27, 28] (by decide +kernel) (by decide +kernel)
set_option maxRecDepth 20000 in
theorem gX1_fits_X0_fitsAheadOf : GoodIn wsX1_fits (wsV RX1 130 RX0 yX0_fitsAheadOf wsX0_fitsAheadOf) := goodIn_app (goodIn_of _ (by decide +kernel)) ggX1_fits_X0_fitsAheadOf
theorem dX1_fits_0 : decode cX1_fits 0 = .ok (.aload_n 0, 1) := by decide +kernel
theorem dX1_fits_1 : decode cX1_fits 1 = .ok (.iload_n 1, 1) := by decide +kernel
theorem dX1_fits_2 : decode cX1_fits 2 = .ok (.invokevirtual 48, 3) := by decide +kernel
theorem dX1_fits_5 : decode cX1_fits 5 = .ok (.astore_n 3, 1) := by decide +kernel
theorem dX1_fits_6 : decode cX1_fits 6 = .ok (.aload_n 0, 1) := by decide +kernel
theorem dX1_fits_7 : decode cX1_fits 7 = .ok (.iload_n 2, 1) := by decide +kernel
theorem dX1_fits_8 : decode cX1_fits 8 = .ok (.invokevirtual 48, 3) := by decide +kernel
theorem dX1_fits_11 : decode cX1_fits 11 = .ok (.astore 4, 2) := by decide +kernel
theorem dX1_fits_13 : decode cX1_fits 13 = .ok (.aload_n 3, 1) := by decide +kernel
theorem dX1_fits_14 : decode cX1_fits 14 = .ok (.getfield 126, 3) := by decide +kernel
theorem dX1_fits_17 : decode cX1_fits 17 = .ok (.ifCond .ne 24, 3) := by decide +kernel
theorem dX1_fits_20 : decode cX1_fits 20 = .ok (.aload 4, 2) := by decide +kernel
theorem dX1_fits_22 : decode cX1_fits 22 = .ok (.getfield 126, 3) := by decide +kernel
theorem dX1_fits_25 : decode cX1_fits 25 = .ok (.ifCond .ne 16, 3) := by decide +kernel
theorem dX1_fits_28 : decode cX1_fits 28 = .ok (.aload_n 3, 1) := by decide +kernel
theorem dX1_fits_29 : decode cX1_fits 29 = .ok (.aload 4, 2) := by decide +kernel
theorem dX1_fits_31 : decode cX1_fits 31 = .ok (.invokevirtual 130, 3) := by decide +kernel
theorem dX1_fits_34 : decode cX1_fits 34 = .ok (.ifCond .eq 7, 3) := by decide +kernel
theorem dX1_fits_37 : decode cX1_fits 37 = .ok (.iconst 1, 1) := by decide +kernel
theorem dX1_fits_38 : decode cX1_fits 38 = .ok (.goto 4, 3) := by decide +kernel
theorem dX1_fits_41 : decode cX1_fits 41 = .ok (.iconst 0, 1) := by decide +kernel
theorem dX1_fits_42 : decode cX1_fits 42 = .ok (.ireturn, 1) := by decide +kernel
set_option maxRecDepth 20000 in
theorem ggX1_size_X1_known : GoodIn wsX1_size wsX1_known := goodIn_ca (goodIn_r _ [6, 7, 8, 9, 10, 11, 5, 12, 13, 46, 47, 48] (by decide +kernel) (by decide +kernel)) (goodIn_sub (fun _ h => List.mem_cons_of_mem _ (List.mem_append_left _ (List.mem_append_right _ h))) (by decide +kernel))
set_option maxRecDepth 20000 in
theorem gX1_size_X1_known : GoodIn wsX1_size (wsV RX1 48 RX1 yX1_known wsX1_known) := goodIn_app (goodIn_of _ (by decide +kernel)) ggX1_size_X1_known
set_option maxRecDepth 20000 in
theorem ggX1_size_X1_needTurn : GoodIn wsX1_size wsX1_needTurn := goodIn_ca (goodIn_r _ [16, 17, 18] (by decide +kernel) (by decide +kernel)) (goodIn_sub (fun _ h => List.mem_cons_of_mem _ (List.mem_append_right _ h)) (by decide +kernel))
set_option maxRecDepth 20000 in
theorem gX1_size_X1_needTurn : GoodIn wsX1_size (va_wsS RX1 134 yX1_needTurn wsX1_needTurn) := goodIn_app (goodIn_of _ (by decide +kernel)) ggX1_size_X1_needTurn
set_option maxRecDepth 20000 in
theorem ggX1_size_X0_readingLength : GoodIn wsX1_size wsX0_readingLength := goodIn_r _ [23, 24, 25, 26, 27, 22, 28, 29, 30, 31, 32, 33, 34, 35, 36, 37, 38, 39, 40, 41, 42, 43, 44, 45] (by decide +kernel) (by decide +kernel)
set_option maxRecDepth 20000 in
theorem gX1_size_X0_readingLength : GoodIn wsX1_size (wsV RX1 137 RX0 yX0_readingLength wsX0_readingLength) := goodIn_app (goodIn_of _ (by decide +kernel)) ggX1_size_X0_readingLength
theorem dX1_size_0 : decode cX1_size 0 = .ok (.aload_n 0, 1) := by decide +kernel
theorem dX1_size_1 : decode cX1_size 1 = .ok (.iload_n 1, 1) := by decide +kernel
theorem dX1_size_2 : decode cX1_size 2 = .ok (.invokevirtual 48, 3) := by decide +kernel
theorem dX1_size_5 : decode cX1_size 5 = .ok (.astore_n 3, 1) := by decide +kernel
theorem dX1_size_6 : decode cX1_size 6 = .ok (.iload_n 2, 1) := by decide +kernel
theorem dX1_size_7 : decode cX1_size 7 = .ok (.invokestatic 134, 3) := by decide +kernel
theorem dX1_size_10 : decode cX1_size 10 = .ok (.aload_n 3, 1) := by decide +kernel
theorem dX1_size_11 : decode cX1_size 11 = .ok (.aload_n 3, 1) := by decide +kernel
theorem dX1_size_12 : decode cX1_size 12 = .ok (.getfield 75, 3) := by decide +kernel
theorem dX1_size_15 : decode cX1_size 15 = .ok (.iload_n 2, 1) := by decide +kernel
theorem dX1_size_16 : decode cX1_size 16 = .ok (.invokevirtual 137, 3) := by decide +kernel
theorem dX1_size_19 : decode cX1_size 19 = .ok (.ireturn, 1) := by decide +kernel
set_option maxRecDepth 20000 in
theorem ggX1_has_X1_known : GoodIn wsX1_has wsX1_known := goodIn_ca (goodIn_r _ [5, 6, 7, 8, 9, 10, 4, 11, 12, 37, 38, 39] (by decide +kernel) (by decide +kernel)) (goodIn_sub (fun _ h => List.mem_cons_of_mem _ (List.mem_append_left _ (List.mem_append_right _ h))) (by decide +kernel))
set_option maxRecDepth 20000 in
theorem gX1_has_X1_known : GoodIn wsX1_has (wsV RX1 48 RX1 yX1_known wsX1_known) := goodIn_app (goodIn_of _ (by decide +kernel)) ggX1_has_X1_known
set_option maxRecDepth 20000 in
theorem ggX1_has_X1_needRune : GoodIn wsX1_has wsX1_needRune := goodIn_ca (goodIn_r _ [15, 16, 17] (by decide +kernel) (by decide +kernel)) (goodIn_sub (fun _ h => List.mem_cons_of_mem _ (List.mem_append_right _ h)) (by decide +kernel))
set_option maxRecDepth 20000 in
theorem gX1_has_X1_needRune : GoodIn wsX1_has (va_wsS RX1 56 yX1_needRune wsX1_needRune) := goodIn_app (goodIn_of _ (by decide +kernel)) ggX1_has_X1_needRune
set_option maxRecDepth 20000 in
theorem ggX1_has_X0_readsPair : GoodIn wsX1_has wsX0_readsPair := goodIn_r _ [22, 23, 24, 25, 26, 21, 27, 28, 29, 30, 31, 32, 33, 34, 35, 36, 40, 41, 42, 43, 44, 45, 46, 47] (by decide +kernel) (by decide +kernel)
set_option maxRecDepth 20000 in
theorem gX1_has_X0_readsPair : GoodIn wsX1_has (wsV RX1 145 RX0 yX0_readsPair wsX0_readsPair) := goodIn_app (goodIn_of _ (by decide +kernel)) ggX1_has_X0_readsPair
theorem dX1_has_0 : decode cX1_has 0 = .ok (.aload_n 0, 1) := by decide +kernel
theorem dX1_has_1 : decode cX1_has 1 = .ok (.iload_n 1, 1) := by decide +kernel
theorem dX1_has_2 : decode cX1_has 2 = .ok (.invokevirtual 48, 3) := by decide +kernel
theorem dX1_has_5 : decode cX1_has 5 = .ok (.astore 4, 2) := by decide +kernel
theorem dX1_has_7 : decode cX1_has 7 = .ok (.iload_n 2, 1) := by decide +kernel
theorem dX1_has_8 : decode cX1_has 8 = .ok (.invokestatic 56, 3) := by decide +kernel
theorem dX1_has_11 : decode cX1_has 11 = .ok (.iload_n 3, 1) := by decide +kernel
theorem dX1_has_12 : decode cX1_has 12 = .ok (.invokestatic 56, 3) := by decide +kernel
theorem dX1_has_15 : decode cX1_has 15 = .ok (.iconst 0, 1) := by decide +kernel
theorem dX1_has_16 : decode cX1_has 16 = .ok (.istore 5, 2) := by decide +kernel
theorem dX1_has_18 : decode cX1_has 18 = .ok (.iconst 0, 1) := by decide +kernel
theorem dX1_has_19 : decode cX1_has 19 = .ok (.istore 6, 2) := by decide +kernel
theorem dX1_has_21 : decode cX1_has 21 = .ok (.iload 6, 2) := by decide +kernel
theorem dX1_has_23 : decode cX1_has 23 = .ok (.iconst 3, 1) := by decide +kernel
theorem dX1_has_24 : decode cX1_has 24 = .ok (.if_icmp .ge 41, 3) := by decide +kernel
theorem dX1_has_27 : decode cX1_has 27 = .ok (.iconst 0, 1) := by decide +kernel
theorem dX1_has_28 : decode cX1_has 28 = .ok (.istore 7, 2) := by decide +kernel
theorem dX1_has_30 : decode cX1_has 30 = .ok (.iload 7, 2) := by decide +kernel
theorem dX1_has_32 : decode cX1_has 32 = .ok (.iconst 3, 1) := by decide +kernel
theorem dX1_has_33 : decode cX1_has 33 = .ok (.if_icmp .ge 26, 3) := by decide +kernel
theorem dX1_has_36 : decode cX1_has 36 = .ok (.aload 4, 2) := by decide +kernel
theorem dX1_has_38 : decode cX1_has 38 = .ok (.iload 6, 2) := by decide +kernel
theorem dX1_has_40 : decode cX1_has 40 = .ok (.iload 7, 2) := by decide +kernel
theorem dX1_has_42 : decode cX1_has 42 = .ok (.iload_n 2, 1) := by decide +kernel
theorem dX1_has_43 : decode cX1_has 43 = .ok (.iload_n 3, 1) := by decide +kernel
theorem dX1_has_44 : decode cX1_has 44 = .ok (.invokevirtual 145, 3) := by decide +kernel
theorem dX1_has_47 : decode cX1_has 47 = .ok (.ifCond .eq 6, 3) := by decide +kernel
theorem dX1_has_50 : decode cX1_has 50 = .ok (.iinc 5 1, 3) := by decide +kernel
theorem dX1_has_53 : decode cX1_has 53 = .ok (.iinc 7 1, 3) := by decide +kernel
theorem dX1_has_56 : decode cX1_has 56 = .ok (.goto (-26), 3) := by decide +kernel
theorem dX1_has_59 : decode cX1_has 59 = .ok (.iinc 6 1, 3) := by decide +kernel
theorem dX1_has_62 : decode cX1_has 62 = .ok (.goto (-41), 3) := by decide +kernel
theorem dX1_has_65 : decode cX1_has 65 = .ok (.iload 5, 2) := by decide +kernel
theorem dX1_has_67 : decode cX1_has 67 = .ok (.ireturn, 1) := by decide +kernel
set_option maxRecDepth 20000 in
theorem ggX1_rhyme_X1_known : GoodIn wsX1_rhyme wsX1_known := goodIn_ca (goodIn_r _ [6, 7, 8, 9, 10, 11, 5, 12, 13, 54, 55, 56] (by decide +kernel) (by decide +kernel)) (goodIn_sub (fun _ h => List.mem_cons_of_mem _ (List.mem_append_left _ (List.mem_append_right _ h))) (by decide +kernel))
set_option maxRecDepth 20000 in
theorem gX1_rhyme_X1_known : GoodIn wsX1_rhyme (wsV RX1 48 RX1 yX1_known wsX1_known) := goodIn_app (goodIn_of _ (by decide +kernel)) ggX1_rhyme_X1_known
set_option maxRecDepth 20000 in
theorem ggX1_rhyme_X1_needTurn : GoodIn wsX1_rhyme wsX1_needTurn := goodIn_ca (goodIn_r _ [16, 17, 18] (by decide +kernel) (by decide +kernel)) (goodIn_sub (fun _ h => List.mem_cons_of_mem _ (List.mem_append_right _ h)) (by decide +kernel))
set_option maxRecDepth 20000 in
theorem gX1_rhyme_X1_needTurn : GoodIn wsX1_rhyme (va_wsS RX1 134 yX1_needTurn wsX1_needTurn) := goodIn_app (goodIn_of _ (by decide +kernel)) ggX1_rhyme_X1_needTurn
set_option maxRecDepth 20000 in
theorem ggX1_rhyme_X1_rhymeOf : GoodIn wsX1_rhyme wsX1_rhymeOf := goodIn_r _ [21, 22, 1, 23, 24, 25, 26, 27, 28, 29, 30, 31, 32, 33, 34, 35, 36, 37, 38, 39, 40, 41, 42, 43, 44, 5, 45, 46, 47, 48, 49, 50, 51, 52, 53] (by decide +kernel) (by decide +kernel)
set_option maxRecDepth 20000 in
theorem gX1_rhyme_X1_rhymeOf : GoodIn wsX1_rhyme (va_wsS RX1 149 yX1_rhymeOf wsX1_rhymeOf) := goodIn_app (goodIn_of _ (by decide +kernel)) ggX1_rhyme_X1_rhymeOf
theorem dX1_rhyme_0 : decode cX1_rhyme 0 = .ok (.aload_n 0, 1) := by decide +kernel
theorem dX1_rhyme_1 : decode cX1_rhyme 1 = .ok (.iload_n 1, 1) := by decide +kernel
theorem dX1_rhyme_2 : decode cX1_rhyme 2 = .ok (.invokevirtual 48, 3) := by decide +kernel
theorem dX1_rhyme_5 : decode cX1_rhyme 5 = .ok (.astore 4, 2) := by decide +kernel
theorem dX1_rhyme_7 : decode cX1_rhyme 7 = .ok (.aload_n 0, 1) := by decide +kernel
theorem dX1_rhyme_8 : decode cX1_rhyme 8 = .ok (.iload_n 2, 1) := by decide +kernel
theorem dX1_rhyme_9 : decode cX1_rhyme 9 = .ok (.invokevirtual 48, 3) := by decide +kernel
theorem dX1_rhyme_12 : decode cX1_rhyme 12 = .ok (.astore 5, 2) := by decide +kernel
theorem dX1_rhyme_14 : decode cX1_rhyme 14 = .ok (.iload_n 3, 1) := by decide +kernel
theorem dX1_rhyme_15 : decode cX1_rhyme 15 = .ok (.invokestatic 134, 3) := by decide +kernel
theorem dX1_rhyme_18 : decode cX1_rhyme 18 = .ok (.aload 4, 2) := by decide +kernel
theorem dX1_rhyme_20 : decode cX1_rhyme 20 = .ok (.aload 4, 2) := by decide +kernel
theorem dX1_rhyme_22 : decode cX1_rhyme 22 = .ok (.getfield 75, 3) := by decide +kernel
theorem dX1_rhyme_25 : decode cX1_rhyme 25 = .ok (.aload 5, 2) := by decide +kernel
theorem dX1_rhyme_27 : decode cX1_rhyme 27 = .ok (.iload_n 3, 1) := by decide +kernel
theorem dX1_rhyme_28 : decode cX1_rhyme 28 = .ok (.invokestatic 149, 3) := by decide +kernel
theorem dX1_rhyme_31 : decode cX1_rhyme 31 = .ok (.ireturn, 1) := by decide +kernel
set_option maxRecDepth 20000 in
theorem ggX1_best_X1_known : GoodIn wsX1_best wsX1_known := goodIn_ca (goodIn_r _ [5, 6, 7, 8, 9, 10, 4, 11, 12, 46, 47, 48] (by decide +kernel) (by decide +kernel)) (goodIn_sub (fun _ h => List.mem_cons_of_mem _ (List.mem_append_left _ (List.mem_append_right _ h))) (by decide +kernel))
set_option maxRecDepth 20000 in
theorem gX1_best_X1_known : GoodIn wsX1_best (wsV RX1 48 RX1 yX1_known wsX1_known) := goodIn_app (goodIn_of _ (by decide +kernel)) ggX1_best_X1_known
set_option maxRecDepth 20000 in
theorem ggX1_best_X1_needTurn : GoodIn wsX1_best wsX1_needTurn := goodIn_ca (goodIn_r _ [15, 16, 17] (by decide +kernel) (by decide +kernel)) (goodIn_sub (fun _ h => List.mem_cons_of_mem _ (List.mem_append_right _ h)) (by decide +kernel))
set_option maxRecDepth 20000 in
theorem gX1_best_X1_needTurn : GoodIn wsX1_best (va_wsS RX1 134 yX1_needTurn wsX1_needTurn) := goodIn_app (goodIn_of _ (by decide +kernel)) ggX1_best_X1_needTurn
set_option maxRecDepth 20000 in
theorem ggX1_best_X1_rhymeOf : GoodIn wsX1_best wsX1_rhymeOf := goodIn_r _ [20, 21, 22, 23, 24, 25, 26, 27, 28, 29, 30, 31, 32, 33, 34, 35, 36, 37, 38, 39, 40, 41, 42, 43, 44, 4, 45, 49, 50, 51, 52, 53, 54, 55, 56] (by decide +kernel) (by decide +kernel)
set_option maxRecDepth 20000 in
theorem gX1_best_X1_rhymeOf : GoodIn wsX1_best (va_wsS RX1 149 yX1_rhymeOf wsX1_rhymeOf) := goodIn_app (goodIn_of _ (by decide +kernel)) ggX1_best_X1_rhymeOf
theorem dX1_best_0 : decode cX1_best 0 = .ok (.aload_n 0, 1) := by decide +kernel
theorem dX1_best_1 : decode cX1_best 1 = .ok (.iload_n 1, 1) := by decide +kernel
theorem dX1_best_2 : decode cX1_best 2 = .ok (.invokevirtual 48, 3) := by decide +kernel
theorem dX1_best_5 : decode cX1_best 5 = .ok (.astore 4, 2) := by decide +kernel
theorem dX1_best_7 : decode cX1_best 7 = .ok (.aload_n 0, 1) := by decide +kernel
theorem dX1_best_8 : decode cX1_best 8 = .ok (.iload_n 2, 1) := by decide +kernel
theorem dX1_best_9 : decode cX1_best 9 = .ok (.invokevirtual 48, 3) := by decide +kernel
theorem dX1_best_12 : decode cX1_best 12 = .ok (.astore 5, 2) := by decide +kernel
theorem dX1_best_14 : decode cX1_best 14 = .ok (.iload_n 3, 1) := by decide +kernel
theorem dX1_best_15 : decode cX1_best 15 = .ok (.invokestatic 134, 3) := by decide +kernel
theorem dX1_best_18 : decode cX1_best 18 = .ok (.iconst 0, 1) := by decide +kernel
theorem dX1_best_19 : decode cX1_best 19 = .ok (.istore 6, 2) := by decide +kernel
theorem dX1_best_21 : decode cX1_best 21 = .ok (.iconst (-1), 1) := by decide +kernel
theorem dX1_best_22 : decode cX1_best 22 = .ok (.istore 7, 2) := by decide +kernel
theorem dX1_best_24 : decode cX1_best 24 = .ok (.iconst 0, 1) := by decide +kernel
theorem dX1_best_25 : decode cX1_best 25 = .ok (.istore 8, 2) := by decide +kernel
theorem dX1_best_27 : decode cX1_best 27 = .ok (.iload 8, 2) := by decide +kernel
theorem dX1_best_29 : decode cX1_best 29 = .ok (.iconst 3, 1) := by decide +kernel
theorem dX1_best_30 : decode cX1_best 30 = .ok (.if_icmp .ge 36, 3) := by decide +kernel
theorem dX1_best_33 : decode cX1_best 33 = .ok (.aload 4, 2) := by decide +kernel
theorem dX1_best_35 : decode cX1_best 35 = .ok (.iload 8, 2) := by decide +kernel
theorem dX1_best_37 : decode cX1_best 37 = .ok (.aload 5, 2) := by decide +kernel
theorem dX1_best_39 : decode cX1_best 39 = .ok (.iload_n 3, 1) := by decide +kernel
theorem dX1_best_40 : decode cX1_best 40 = .ok (.invokestatic 149, 3) := by decide +kernel
theorem dX1_best_43 : decode cX1_best 43 = .ok (.istore 9, 2) := by decide +kernel
theorem dX1_best_45 : decode cX1_best 45 = .ok (.iload 9, 2) := by decide +kernel
theorem dX1_best_47 : decode cX1_best 47 = .ok (.iload 7, 2) := by decide +kernel
theorem dX1_best_49 : decode cX1_best 49 = .ok (.if_icmp .le 11, 3) := by decide +kernel
theorem dX1_best_52 : decode cX1_best 52 = .ok (.iload 8, 2) := by decide +kernel
theorem dX1_best_54 : decode cX1_best 54 = .ok (.istore 6, 2) := by decide +kernel
theorem dX1_best_56 : decode cX1_best 56 = .ok (.iload 9, 2) := by decide +kernel
theorem dX1_best_58 : decode cX1_best 58 = .ok (.istore 7, 2) := by decide +kernel
theorem dX1_best_60 : decode cX1_best 60 = .ok (.iinc 8 1, 3) := by decide +kernel
theorem dX1_best_63 : decode cX1_best 63 = .ok (.goto (-36), 3) := by decide +kernel
theorem dX1_best_66 : decode cX1_best 66 = .ok (.iload 6, 2) := by decide +kernel
theorem dX1_best_68 : decode cX1_best 68 = .ok (.ireturn, 1) := by decide +kernel
set_option maxRecDepth 20000 in
theorem ggX1_pieces_X1_known : GoodIn wsX1_pieces wsX1_known := goodIn_ca (goodIn_r _ [5, 6, 7, 8, 9, 10, 4, 11, 12, 54, 55, 56] (by decide +kernel) (by decide +kernel)) (goodIn_sub (fun _ h => List.mem_cons_of_mem _ (List.mem_append_left _ (List.mem_append_right _ h))) (by decide +kernel))
set_option maxRecDepth 20000 in
theorem gX1_pieces_X1_known : GoodIn wsX1_pieces (wsV RX1 48 RX1 yX1_known wsX1_known) := goodIn_app (goodIn_of _ (by decide +kernel)) ggX1_pieces_X1_known
set_option maxRecDepth 20000 in
theorem ggX1_pieces_X1_needForce : GoodIn wsX1_pieces wsX1_needForce := goodIn_ca (goodIn_r _ [15, 16, 17] (by decide +kernel) (by decide +kernel)) (goodIn_sub (fun _ h => List.mem_cons_of_mem _ (List.mem_append_right _ h)) (by decide +kernel))
set_option maxRecDepth 20000 in
theorem gX1_pieces_X1_needForce : GoodIn wsX1_pieces (va_wsS RX1 78 yX1_needForce wsX1_needForce) := goodIn_app (goodIn_of _ (by decide +kernel)) ggX1_pieces_X1_needForce
set_option maxRecDepth 20000 in
theorem ggX1_pieces_X0_jointsWeakerThan : GoodIn wsX1_pieces wsX0_jointsWeakerThan := goodIn_r _ [22, 23, 24, 25, 26, 21, 27, 28, 29, 30, 31, 32, 33, 34, 35, 36, 37, 38, 39, 40, 41, 42, 43, 44, 45, 46, 47, 48, 49, 50, 51, 52, 53, 57, 58, 59, 60, 61, 62, 63, 64] (by decide +kernel) (by decide +kernel)
set_option maxRecDepth 20000 in
theorem gX1_pieces_X0_jointsWeakerThan : GoodIn wsX1_pieces (wsV RX1 153 RX0 yX0_jointsWeakerThan wsX0_jointsWeakerThan) := goodIn_app (goodIn_of _ (by decide +kernel)) ggX1_pieces_X0_jointsWeakerThan
theorem dX1_pieces_0 : decode cX1_pieces 0 = .ok (.aload_n 0, 1) := by decide +kernel
theorem dX1_pieces_1 : decode cX1_pieces 1 = .ok (.iload_n 1, 1) := by decide +kernel
theorem dX1_pieces_2 : decode cX1_pieces 2 = .ok (.invokevirtual 48, 3) := by decide +kernel
theorem dX1_pieces_5 : decode cX1_pieces 5 = .ok (.astore_n 3, 1) := by decide +kernel
theorem dX1_pieces_6 : decode cX1_pieces 6 = .ok (.iload_n 2, 1) := by decide +kernel
theorem dX1_pieces_7 : decode cX1_pieces 7 = .ok (.invokestatic 78, 3) := by decide +kernel
theorem dX1_pieces_10 : decode cX1_pieces 10 = .ok (.aload_n 3, 1) := by decide +kernel
theorem dX1_pieces_11 : decode cX1_pieces 11 = .ok (.iload_n 2, 1) := by decide +kernel
theorem dX1_pieces_12 : decode cX1_pieces 12 = .ok (.invokevirtual 153, 3) := by decide +kernel
theorem dX1_pieces_15 : decode cX1_pieces 15 = .ok (.iconst 1, 1) := by decide +kernel
theorem dX1_pieces_16 : decode cX1_pieces 16 = .ok (.iadd, 1) := by decide +kernel
theorem dX1_pieces_17 : decode cX1_pieces 17 = .ok (.ireturn, 1) := by decide +kernel
set_option maxRecDepth 20000 in
theorem ggX1_row_X1_known : GoodIn wsX1_row wsX1_known := goodIn_ca (goodIn_r _ [7, 8, 9, 10, 11, 12, 6, 13, 14, 57, 58, 59] (by decide +kernel) (by decide +kernel)) (goodIn_sub (fun _ h => List.mem_cons_of_mem _ (List.mem_append_left _ (List.mem_append_left _ (List.mem_append_right _ h)))) (by decide +kernel))
set_option maxRecDepth 20000 in
theorem gX1_row_X1_known : GoodIn wsX1_row (wsV RX1 48 RX1 yX1_known wsX1_known) := goodIn_app (goodIn_of _ (by decide +kernel)) ggX1_row_X1_known
set_option maxRecDepth 20000 in
theorem ggX1_row_X1_needTurn : GoodIn wsX1_row wsX1_needTurn := goodIn_ca (goodIn_r _ [17, 18, 19] (by decide +kernel) (by decide +kernel)) (goodIn_sub (fun _ h => List.mem_cons_of_mem _ (List.mem_append_left _ (List.mem_append_right _ h))) (by decide +kernel))
set_option maxRecDepth 20000 in
theorem gX1_row_X1_needTurn : GoodIn wsX1_row (va_wsS RX1 134 yX1_needTurn wsX1_needTurn) := goodIn_app (goodIn_of _ (by decide +kernel)) ggX1_row_X1_needTurn
set_option maxRecDepth 20000 in
theorem ggX1_row_X1_needThere : GoodIn wsX1_row wsX1_needThere := goodIn_ca (goodIn_r _ [22, 23, 24, 25, 60, 61, 62, 63, 64, 65, 66, 67] (by decide +kernel) (by decide +kernel)) (goodIn_sub (fun _ h => List.mem_cons_of_mem _ (List.mem_append_right _ h)) (by decide +kernel))
set_option maxRecDepth 20000 in
theorem gX1_row_X1_needThere : GoodIn wsX1_row (va_wsS RX1 59 yX1_needThere wsX1_needThere) := goodIn_app (goodIn_of _ (by decide +kernel)) ggX1_row_X1_needThere
set_option maxRecDepth 20000 in
theorem ggX1_row_X1_thereOrNull : GoodIn wsX1_row wsX1_thereOrNull := goodIn_r _ [29, 25, 10, 11, 12, 6, 13, 14, 60, 61, 62, 63, 64, 65, 66, 67, 57, 58, 59] (by decide +kernel) (by decide +kernel)
set_option maxRecDepth 20000 in
theorem gX1_row_X1_thereOrNull : GoodIn wsX1_row (wsV RX1 156 RX1 yX1_thereOrNull wsX1_thereOrNull) := goodIn_app (goodIn_of _ (by decide +kernel)) ggX1_row_X1_thereOrNull
set_option maxRecDepth 20000 in
theorem ggX1_row_X1_rhymeOf : GoodIn wsX1_row wsX1_rhymeOf := goodIn_r _ [32, 33, 2, 34, 35, 36, 37, 38, 39, 40, 41, 42, 43, 44, 45, 46, 47, 48, 49, 50, 51, 52, 53, 54, 55, 6, 56, 60, 61, 62, 63, 64, 65, 66, 67] (by decide +kernel) (by decide +kernel)
set_option maxRecDepth 20000 in
theorem gX1_row_X1_rhymeOf : GoodIn wsX1_row (va_wsS RX1 149 yX1_rhymeOf wsX1_rhymeOf) := goodIn_app (goodIn_of _ (by decide +kernel)) ggX1_row_X1_rhymeOf
theorem dX1_row_0 : decode cX1_row 0 = .ok (.aload_n 0, 1) := by decide +kernel
theorem dX1_row_1 : decode cX1_row 1 = .ok (.iload_n 1, 1) := by decide +kernel
theorem dX1_row_2 : decode cX1_row 2 = .ok (.invokevirtual 48, 3) := by decide +kernel
theorem dX1_row_5 : decode cX1_row 5 = .ok (.astore_n 3, 1) := by decide +kernel
theorem dX1_row_6 : decode cX1_row 6 = .ok (.iload_n 2, 1) := by decide +kernel
theorem dX1_row_7 : decode cX1_row 7 = .ok (.invokestatic 134, 3) := by decide +kernel
theorem dX1_row_10 : decode cX1_row 10 = .ok (.aload_n 3, 1) := by decide +kernel
theorem dX1_row_11 : decode cX1_row 11 = .ok (.invokestatic 59, 3) := by decide +kernel
theorem dX1_row_14 : decode cX1_row 14 = .ok (.iconst 1, 1) := by decide +kernel
theorem dX1_row_15 : decode cX1_row 15 = .ok (.istore 4, 2) := by decide +kernel
theorem dX1_row_17 : decode cX1_row 17 = .ok (.iconst 0, 1) := by decide +kernel
theorem dX1_row_18 : decode cX1_row 18 = .ok (.istore 5, 2) := by decide +kernel
theorem dX1_row_20 : decode cX1_row 20 = .ok (.iload 5, 2) := by decide +kernel
theorem dX1_row_22 : decode cX1_row 22 = .ok (.aload_n 0, 1) := by decide +kernel
theorem dX1_row_23 : decode cX1_row 23 = .ok (.getfield 15, 3) := by decide +kernel
theorem dX1_row_26 : decode cX1_row 26 = .ok (.if_icmp .ge 45, 3) := by decide +kernel
theorem dX1_row_29 : decode cX1_row 29 = .ok (.aload_n 0, 1) := by decide +kernel
theorem dX1_row_30 : decode cX1_row 30 = .ok (.iload 5, 2) := by decide +kernel
theorem dX1_row_32 : decode cX1_row 32 = .ok (.invokevirtual 156, 3) := by decide +kernel
theorem dX1_row_35 : decode cX1_row 35 = .ok (.astore 6, 2) := by decide +kernel
theorem dX1_row_37 : decode cX1_row 37 = .ok (.aload 6, 2) := by decide +kernel
theorem dX1_row_39 : decode cX1_row 39 = .ok (.ifnull 26, 3) := by decide +kernel
theorem dX1_row_42 : decode cX1_row 42 = .ok (.aload 6, 2) := by decide +kernel
theorem dX1_row_44 : decode cX1_row 44 = .ok (.aload_n 3, 1) := by decide +kernel
theorem dX1_row_45 : decode cX1_row 45 = .ok (.if_acmp .eq 20, 3) := by decide +kernel
theorem dX1_row_48 : decode cX1_row 48 = .ok (.aload_n 3, 1) := by decide +kernel
theorem dX1_row_49 : decode cX1_row 49 = .ok (.aload_n 3, 1) := by decide +kernel
theorem dX1_row_50 : decode cX1_row 50 = .ok (.getfield 75, 3) := by decide +kernel
theorem dX1_row_53 : decode cX1_row 53 = .ok (.aload 6, 2) := by decide +kernel
theorem dX1_row_55 : decode cX1_row 55 = .ok (.iload_n 2, 1) := by decide +kernel
theorem dX1_row_56 : decode cX1_row 56 = .ok (.invokestatic 149, 3) := by decide +kernel
theorem dX1_row_59 : decode cX1_row 59 = .ok (.ifCond .le 6, 3) := by decide +kernel
theorem dX1_row_62 : decode cX1_row 62 = .ok (.iinc 4 1, 3) := by decide +kernel
theorem dX1_row_65 : decode cX1_row 65 = .ok (.iinc 5 1, 3) := by decide +kernel
theorem dX1_row_68 : decode cX1_row 68 = .ok (.goto (-48), 3) := by decide +kernel
theorem dX1_row_71 : decode cX1_row 71 = .ok (.iload 4, 2) := by decide +kernel
theorem dX1_row_73 : decode cX1_row 73 = .ok (.ireturn, 1) := by decide +kernel
set_option maxRecDepth 20000 in
theorem ggX1_mean_X1_howManyThere : GoodIn wsX1_mean wsX1_howManyThere := goodIn_r _ [5, 6, 7, 8, 9, 4, 10, 11, 12, 13, 14, 15, 16, 61, 62, 63, 64, 65, 66, 67, 68, 69, 70, 71] (by decide +kernel) (by decide +kernel)
set_option maxRecDepth 20000 in
theorem gX1_mean_X1_howManyThere : GoodIn wsX1_mean (wsV RX1 29 RX1 yX1_howManyThere wsX1_howManyThere) := goodIn_app (goodIn_of _ (by decide +kernel)) ggX1_mean_X1_howManyThere
set_option maxRecDepth 20000 in
theorem ggX1_mean_X1_sumThere : GoodIn wsX1_mean wsX1_sumThere := goodIn_r _ [20, 6, 7, 8, 9, 4, 10, 11, 12, 13, 14, 15, 16, 21, 22, 23, 24, 25, 26, 27, 28, 29, 30, 31, 32, 33, 34, 35, 36, 37, 38, 39, 40, 41, 42, 43, 44, 45, 46, 47, 48, 49, 50, 51, 52, 53, 54, 55, 56, 57, 58, 59, 60, 61, 62, 63, 64, 65, 66, 67, 68, 69, 70, 71] (by decide +kernel) (by decide +kernel)
set_option maxRecDepth 20000 in
theorem gX1_mean_X1_sumThere : GoodIn wsX1_mean (wsV RX1 159 RX1 yX1_sumThere wsX1_sumThere) := goodIn_app (goodIn_of _ (by decide +kernel)) ggX1_mean_X1_sumThere
theorem dX1_mean_0 : decode cX1_mean 0 = .ok (.aload_n 0, 1) := by decide +kernel
theorem dX1_mean_1 : decode cX1_mean 1 = .ok (.invokevirtual 29, 3) := by decide +kernel
theorem dX1_mean_4 : decode cX1_mean 4 = .ok (.istore_n 1, 1) := by decide +kernel
theorem dX1_mean_5 : decode cX1_mean 5 = .ok (.iload_n 1, 1) := by decide +kernel
theorem dX1_mean_6 : decode cX1_mean 6 = .ok (.ifCond .ne 7, 3) := by decide +kernel
theorem dX1_mean_9 : decode cX1_mean 9 = .ok (.dconst 0, 1) := by decide +kernel
theorem dX1_mean_10 : decode cX1_mean 10 = .ok (.goto 12, 3) := by decide +kernel
theorem dX1_mean_13 : decode cX1_mean 13 = .ok (.aload_n 0, 1) := by decide +kernel
theorem dX1_mean_14 : decode cX1_mean 14 = .ok (.iconst 2, 1) := by decide +kernel
theorem dX1_mean_15 : decode cX1_mean 15 = .ok (.invokevirtual 159, 3) := by decide +kernel
theorem dX1_mean_18 : decode cX1_mean 18 = .ok (.i2d, 1) := by decide +kernel
theorem dX1_mean_19 : decode cX1_mean 19 = .ok (.iload_n 1, 1) := by decide +kernel
theorem dX1_mean_20 : decode cX1_mean 20 = .ok (.i2d, 1) := by decide +kernel
theorem dX1_mean_21 : decode cX1_mean 21 = .ok (.ddiv, 1) := by decide +kernel
theorem dX1_mean_22 : decode cX1_mean 22 = .ok (.dreturn, 1) := by decide +kernel
set_option maxRecDepth 20000 in
theorem ggX1_digest_X1_total : GoodIn wsX1_digest wsX1_total := goodIn_r _ [8, 3, 9, 10, 11, 12, 7, 13, 14, 15, 16, 17, 18, 19, 20, 21, 22, 23, 24, 25, 26, 27, 28, 29, 30, 31, 32, 33, 34, 35, 36, 37, 38, 39, 40, 41, 42, 43, 44, 45, 46, 47, 48, 49, 50, 51, 52, 53, 54, 55, 56, 57, 58, 59, 60, 61, 62, 63, 64, 65, 66, 67, 68, 69, 70, 71, 72, 73, 74, 75, 76, 77, 78, 79, 91, 92, 93, 94, 95, 96, 97, 98, 99, 100, 101] (by decide +kernel) (by decide +kernel)
set_option maxRecDepth 20000 in
theorem gX1_digest_X1_total : GoodIn wsX1_digest (wsV RX1 123 RX1 yX1_total wsX1_total) := goodIn_app (goodIn_of _ (by decide +kernel)) ggX1_digest_X1_total
set_option maxRecDepth 20000 in
theorem ggX1_digest_X1_stickOrNull : GoodIn wsX1_digest wsX1_stickOrNull := goodIn_r _ [22, 23, 91, 92, 93] (by decide +kernel) (by decide +kernel)
set_option maxRecDepth 20000 in
theorem gX1_digest_X1_stickOrNull : GoodIn wsX1_digest (wsV RX1 166 RX1 yX1_stickOrNull wsX1_stickOrNull) := goodIn_app (goodIn_of _ (by decide +kernel)) ggX1_digest_X1_stickOrNull
set_option maxRecDepth 20000 in
theorem ggX1_digest_X0_addedTo : GoodIn wsX1_digest wsX0_addedTo := goodIn_r _ [83, 84, 33, 85, 29, 30, 31, 32, 34, 35, 36, 37, 38, 39, 40, 41, 42, 43, 44, 45, 46, 47, 48, 49, 50, 51, 52, 53, 54, 55, 56, 57, 58, 59, 60, 61, 62, 63, 64, 65, 66, 67, 86, 87, 88, 89, 90, 94, 95, 96, 97, 98, 99, 100, 101] (by decide +kernel) (by decide +kernel)
set_option maxRecDepth 20000 in
theorem gX1_digest_X0_addedTo : GoodIn wsX1_digest (wsV RX1 169 RX0 yX0_addedTo wsX0_addedTo) := goodIn_app (goodIn_of _ (by decide +kernel)) ggX1_digest_X0_addedTo
theorem dX1_digest_0 : decode cX1_digest 0 = .ok (.ldc2_w 162, 3) := by decide +kernel
theorem dX1_digest_3 : decode cX1_digest 3 = .ok (.lstore_n 1, 1) := by decide +kernel
theorem dX1_digest_4 : decode cX1_digest 4 = .ok (.iconst 0, 1) := by decide +kernel
theorem dX1_digest_5 : decode cX1_digest 5 = .ok (.istore_n 3, 1) := by decide +kernel
theorem dX1_digest_6 : decode cX1_digest 6 = .ok (.iload_n 3, 1) := by decide +kernel
theorem dX1_digest_7 : decode cX1_digest 7 = .ok (.bipush 7, 2) := by decide +kernel
theorem dX1_digest_9 : decode cX1_digest 9 = .ok (.if_icmp .ge 22, 3) := by decide +kernel
theorem dX1_digest_12 : decode cX1_digest 12 = .ok (.lload_n 1, 1) := by decide +kernel
theorem dX1_digest_13 : decode cX1_digest 13 = .ok (.ldc2_w 164, 3) := by decide +kernel
theorem dX1_digest_16 : decode cX1_digest 16 = .ok (.lmul, 1) := by decide +kernel
theorem dX1_digest_17 : decode cX1_digest 17 = .ok (.aload_n 0, 1) := by decide +kernel
theorem dX1_digest_18 : decode cX1_digest 18 = .ok (.iload_n 3, 1) := by decide +kernel
theorem dX1_digest_19 : decode cX1_digest 19 = .ok (.invokevirtual 123, 3) := by decide +kernel
theorem dX1_digest_22 : decode cX1_digest 22 = .ok (.i2l, 1) := by decide +kernel
theorem dX1_digest_23 : decode cX1_digest 23 = .ok (.ladd, 1) := by decide +kernel
theorem dX1_digest_24 : decode cX1_digest 24 = .ok (.lstore_n 1, 1) := by decide +kernel
theorem dX1_digest_25 : decode cX1_digest 25 = .ok (.iinc 3 1, 3) := by decide +kernel
theorem dX1_digest_28 : decode cX1_digest 28 = .ok (.goto (-22), 3) := by decide +kernel
theorem dX1_digest_31 : decode cX1_digest 31 = .ok (.iconst 0, 1) := by decide +kernel
theorem dX1_digest_32 : decode cX1_digest 32 = .ok (.istore_n 3, 1) := by decide +kernel
theorem dX1_digest_33 : decode cX1_digest 33 = .ok (.iload_n 3, 1) := by decide +kernel
theorem dX1_digest_34 : decode cX1_digest 34 = .ok (.aload_n 0, 1) := by decide +kernel
theorem dX1_digest_35 : decode cX1_digest 35 = .ok (.getfield 15, 3) := by decide +kernel
theorem dX1_digest_38 : decode cX1_digest 38 = .ok (.if_icmp .ge 28, 3) := by decide +kernel
theorem dX1_digest_41 : decode cX1_digest 41 = .ok (.aload_n 0, 1) := by decide +kernel
theorem dX1_digest_42 : decode cX1_digest 42 = .ok (.iload_n 3, 1) := by decide +kernel
theorem dX1_digest_43 : decode cX1_digest 43 = .ok (.invokevirtual 166, 3) := by decide +kernel
theorem dX1_digest_46 : decode cX1_digest 46 = .ok (.astore 4, 2) := by decide +kernel
theorem dX1_digest_48 : decode cX1_digest 48 = .ok (.aload 4, 2) := by decide +kernel
theorem dX1_digest_50 : decode cX1_digest 50 = .ok (.ifnull 10, 3) := by decide +kernel
theorem dX1_digest_53 : decode cX1_digest 53 = .ok (.aload 4, 2) := by decide +kernel
theorem dX1_digest_55 : decode cX1_digest 55 = .ok (.lload_n 1, 1) := by decide +kernel
theorem dX1_digest_56 : decode cX1_digest 56 = .ok (.invokevirtual 169, 3) := by decide +kernel
theorem dX1_digest_59 : decode cX1_digest 59 = .ok (.lstore_n 1, 1) := by decide +kernel
theorem dX1_digest_60 : decode cX1_digest 60 = .ok (.iinc 3 1, 3) := by decide +kernel
theorem dX1_digest_63 : decode cX1_digest 63 = .ok (.goto (-30), 3) := by decide +kernel
theorem dX1_digest_66 : decode cX1_digest 66 = .ok (.lload_n 1, 1) := by decide +kernel
theorem dX1_digest_67 : decode cX1_digest 67 = .ok (.lreturn, 1) := by decide +kernel
set_option maxRecDepth 20000 in
theorem ggX1_known_X1_stickOrNull : GoodIn wsX1_known wsX1_stickOrNull := goodIn_r _ [7, 8, 9, 10, 11] (by decide +kernel) (by decide +kernel)
set_option maxRecDepth 20000 in
theorem gX1_known_X1_stickOrNull : GoodIn wsX1_known (wsV RX1 166 RX1 yX1_stickOrNull wsX1_stickOrNull) := goodIn_app (goodIn_of _ (by decide +kernel)) ggX1_known_X1_stickOrNull
theorem dX1_known_0 : decode cX1_known 0 = .ok (.aload_n 0, 1) := by decide +kernel
theorem dX1_known_1 : decode cX1_known 1 = .ok (.iload_n 1, 1) := by decide +kernel
theorem dX1_known_2 : decode cX1_known 2 = .ok (.invokevirtual 166, 3) := by decide +kernel
theorem dX1_known_5 : decode cX1_known 5 = .ok (.astore_n 2, 1) := by decide +kernel
theorem dX1_known_6 : decode cX1_known 6 = .ok (.aload_n 2, 1) := by decide +kernel
theorem dX1_known_7 : decode cX1_known 7 = .ok (.ifnonnull 13, 3) := by decide +kernel
theorem dX1_known_10 : decode cX1_known 10 = .ok (.new 107, 3) := by decide +kernel
theorem dX1_known_13 : decode cX1_known 13 = .ok (.dup, 1) := by decide +kernel
theorem dX1_known_14 : decode cX1_known 14 = .ok (.ldc 173, 2) := by decide +kernel
theorem dX1_known_16 : decode cX1_known 16 = .ok (.invokespecial 111, 3) := by decide +kernel
theorem dX1_known_19 : decode cX1_known 19 = .ok (.athrow, 1) := by decide +kernel
theorem dX1_known_20 : decode cX1_known 20 = .ok (.aload_n 2, 1) := by decide +kernel
theorem dX1_known_21 : decode cX1_known 21 = .ok (.areturn, 1) := by decide +kernel
theorem dX1_needNumbersLeft_0 : decode cX1_needNumbersLeft 0 = .ok (.aload_n 0, 1) := by decide +kernel
theorem dX1_needNumbersLeft_1 : decode cX1_needNumbersLeft 1 = .ok (.getfield 15, 3) := by decide +kernel
theorem dX1_needNumbersLeft_4 : decode cX1_needNumbersLeft 4 = .ok (.bipush 40, 2) := by decide +kernel
theorem dX1_needNumbersLeft_6 : decode cX1_needNumbersLeft 6 = .ok (.iload_n 1, 1) := by decide +kernel
theorem dX1_needNumbersLeft_7 : decode cX1_needNumbersLeft 7 = .ok (.isub, 1) := by decide +kernel
theorem dX1_needNumbersLeft_8 : decode cX1_needNumbersLeft 8 = .ok (.if_icmp .le 13, 3) := by decide +kernel
theorem dX1_needNumbersLeft_11 : decode cX1_needNumbersLeft 11 = .ok (.new 33, 3) := by decide +kernel
theorem dX1_needNumbersLeft_14 : decode cX1_needNumbersLeft 14 = .ok (.dup, 1) := by decide +kernel
theorem dX1_needNumbersLeft_15 : decode cX1_needNumbersLeft 15 = .ok (.ldc 175, 2) := by decide +kernel
theorem dX1_needNumbersLeft_17 : decode cX1_needNumbersLeft 17 = .ok (.invokespecial 37, 3) := by decide +kernel
theorem dX1_needNumbersLeft_20 : decode cX1_needNumbersLeft 20 = .ok (.athrow, 1) := by decide +kernel
theorem dX1_needNumbersLeft_21 : decode cX1_needNumbersLeft 21 = .ok (.return_, 1) := by decide +kernel
theorem dX1_needThere_0 : decode cX1_needThere 0 = .ok (.aload_n 0, 1) := by decide +kernel
theorem dX1_needThere_1 : decode cX1_needThere 1 = .ok (.getfield 126, 3) := by decide +kernel
theorem dX1_needThere_4 : decode cX1_needThere 4 = .ok (.ifCond .eq 13, 3) := by decide +kernel
theorem dX1_needThere_7 : decode cX1_needThere 7 = .ok (.new 33, 3) := by decide +kernel
theorem dX1_needThere_10 : decode cX1_needThere 10 = .ok (.dup, 1) := by decide +kernel
theorem dX1_needThere_11 : decode cX1_needThere 11 = .ok (.ldc 177, 2) := by decide +kernel
theorem dX1_needThere_13 : decode cX1_needThere 13 = .ok (.invokespecial 37, 3) := by decide +kernel
theorem dX1_needThere_16 : decode cX1_needThere 16 = .ok (.athrow, 1) := by decide +kernel
theorem dX1_needThere_17 : decode cX1_needThere 17 = .ok (.return_, 1) := by decide +kernel
set_option maxRecDepth 20000 in
theorem ggX1_needPlace_X0_hasPlace : GoodIn wsX1_needPlace wsX0_hasPlace := goodIn_r _ [7, 8, 9, 10, 11, 12, 13, 14, 15, 16] (by decide +kernel) (by decide +kernel)
set_option maxRecDepth 20000 in
theorem gX1_needPlace_X0_hasPlace : GoodIn wsX1_needPlace (wsV RX1 179 RX0 yX0_hasPlace wsX0_hasPlace) := goodIn_app (goodIn_of _ (by decide +kernel)) ggX1_needPlace_X0_hasPlace
theorem dX1_needPlace_0 : decode cX1_needPlace 0 = .ok (.aload_n 0, 1) := by decide +kernel
theorem dX1_needPlace_1 : decode cX1_needPlace 1 = .ok (.iload_n 1, 1) := by decide +kernel
theorem dX1_needPlace_2 : decode cX1_needPlace 2 = .ok (.iload_n 2, 1) := by decide +kernel
theorem dX1_needPlace_3 : decode cX1_needPlace 3 = .ok (.invokevirtual 179, 3) := by decide +kernel
theorem dX1_needPlace_6 : decode cX1_needPlace 6 = .ok (.ifCond .ne 13, 3) := by decide +kernel
theorem dX1_needPlace_9 : decode cX1_needPlace 9 = .ok (.new 107, 3) := by decide +kernel
theorem dX1_needPlace_12 : decode cX1_needPlace 12 = .ok (.dup, 1) := by decide +kernel
theorem dX1_needPlace_13 : decode cX1_needPlace 13 = .ok (.ldc 183, 2) := by decide +kernel
theorem dX1_needPlace_15 : decode cX1_needPlace 15 = .ok (.invokespecial 111, 3) := by decide +kernel
theorem dX1_needPlace_18 : decode cX1_needPlace 18 = .ok (.athrow, 1) := by decide +kernel
theorem dX1_needPlace_19 : decode cX1_needPlace 19 = .ok (.return_, 1) := by decide +kernel
theorem dX1_needRune_0 : decode cX1_needRune 0 = .ok (.iload_n 0, 1) := by decide +kernel
theorem dX1_needRune_1 : decode cX1_needRune 1 = .ok (.ifCond .lt 9, 3) := by decide +kernel
theorem dX1_needRune_4 : decode cX1_needRune 4 = .ok (.iload_n 0, 1) := by decide +kernel
theorem dX1_needRune_5 : decode cX1_needRune 5 = .ok (.bipush 24, 2) := by decide +kernel
theorem dX1_needRune_7 : decode cX1_needRune 7 = .ok (.if_icmp .lt 13, 3) := by decide +kernel
theorem dX1_needRune_10 : decode cX1_needRune 10 = .ok (.new 22, 3) := by decide +kernel
theorem dX1_needRune_13 : decode cX1_needRune 13 = .ok (.dup, 1) := by decide +kernel
theorem dX1_needRune_14 : decode cX1_needRune 14 = .ok (.ldc 185, 2) := by decide +kernel
theorem dX1_needRune_16 : decode cX1_needRune 16 = .ok (.invokespecial 26, 3) := by decide +kernel
theorem dX1_needRune_19 : decode cX1_needRune 19 = .ok (.athrow, 1) := by decide +kernel
theorem dX1_needRune_20 : decode cX1_needRune 20 = .ok (.return_, 1) := by decide +kernel
theorem dX1_needTurn_0 : decode cX1_needTurn 0 = .ok (.iload_n 0, 1) := by decide +kernel
theorem dX1_needTurn_1 : decode cX1_needTurn 1 = .ok (.ifCond .lt 8, 3) := by decide +kernel
theorem dX1_needTurn_4 : decode cX1_needTurn 4 = .ok (.iload_n 0, 1) := by decide +kernel
theorem dX1_needTurn_5 : decode cX1_needTurn 5 = .ok (.iconst 3, 1) := by decide +kernel
theorem dX1_needTurn_6 : decode cX1_needTurn 6 = .ok (.if_icmp .lt 13, 3) := by decide +kernel
theorem dX1_needTurn_9 : decode cX1_needTurn 9 = .ok (.new 22, 3) := by decide +kernel
theorem dX1_needTurn_12 : decode cX1_needTurn 12 = .ok (.dup, 1) := by decide +kernel
theorem dX1_needTurn_13 : decode cX1_needTurn 13 = .ok (.ldc 187, 2) := by decide +kernel
theorem dX1_needTurn_15 : decode cX1_needTurn 15 = .ok (.invokespecial 26, 3) := by decide +kernel
theorem dX1_needTurn_18 : decode cX1_needTurn 18 = .ok (.athrow, 1) := by decide +kernel
theorem dX1_needTurn_19 : decode cX1_needTurn 19 = .ok (.return_, 1) := by decide +kernel
theorem dX1_needForce_0 : decode cX1_needForce 0 = .ok (.iload_n 0, 1) := by decide +kernel
theorem dX1_needForce_1 : decode cX1_needForce 1 = .ok (.iconst 1, 1) := by decide +kernel
theorem dX1_needForce_2 : decode cX1_needForce 2 = .ok (.if_icmp .lt 9, 3) := by decide +kernel
theorem dX1_needForce_5 : decode cX1_needForce 5 = .ok (.iload_n 0, 1) := by decide +kernel
theorem dX1_needForce_6 : decode cX1_needForce 6 = .ok (.bipush 20, 2) := by decide +kernel
theorem dX1_needForce_8 : decode cX1_needForce 8 = .ok (.if_icmp .le 13, 3) := by decide +kernel
theorem dX1_needForce_11 : decode cX1_needForce 11 = .ok (.new 22, 3) := by decide +kernel
theorem dX1_needForce_14 : decode cX1_needForce 14 = .ok (.dup, 1) := by decide +kernel
theorem dX1_needForce_15 : decode cX1_needForce 15 = .ok (.ldc 189, 2) := by decide +kernel
theorem dX1_needForce_17 : decode cX1_needForce 17 = .ok (.invokespecial 26, 3) := by decide +kernel
theorem dX1_needForce_20 : decode cX1_needForce 20 = .ok (.athrow, 1) := by decide +kernel
theorem dX1_needForce_21 : decode cX1_needForce 21 = .ok (.return_, 1) := by decide +kernel
theorem dX1_stickOrNull_0 : decode cX1_stickOrNull 0 = .ok (.iload_n 1, 1) := by decide +kernel
theorem dX1_stickOrNull_1 : decode cX1_stickOrNull 1 = .ok (.ifCond .lt 12, 3) := by decide +kernel
theorem dX1_stickOrNull_4 : decode cX1_stickOrNull 4 = .ok (.iload_n 1, 1) := by decide +kernel
theorem dX1_stickOrNull_5 : decode cX1_stickOrNull 5 = .ok (.aload_n 0, 1) := by decide +kernel
theorem dX1_stickOrNull_6 : decode cX1_stickOrNull 6 = .ok (.getfield 11, 3) := by decide +kernel
theorem dX1_stickOrNull_9 : decode cX1_stickOrNull 9 = .ok (.arraylength, 1) := by decide +kernel
theorem dX1_stickOrNull_10 : decode cX1_stickOrNull 10 = .ok (.if_icmp .lt 7, 3) := by decide +kernel
theorem dX1_stickOrNull_13 : decode cX1_stickOrNull 13 = .ok (.aconst_null, 1) := by decide +kernel
theorem dX1_stickOrNull_14 : decode cX1_stickOrNull 14 = .ok (.goto 9, 3) := by decide +kernel
theorem dX1_stickOrNull_17 : decode cX1_stickOrNull 17 = .ok (.aload_n 0, 1) := by decide +kernel
theorem dX1_stickOrNull_18 : decode cX1_stickOrNull 18 = .ok (.getfield 11, 3) := by decide +kernel
theorem dX1_stickOrNull_21 : decode cX1_stickOrNull 21 = .ok (.iload_n 1, 1) := by decide +kernel
theorem dX1_stickOrNull_22 : decode cX1_stickOrNull 22 = .ok (.aaload, 1) := by decide +kernel
theorem dX1_stickOrNull_23 : decode cX1_stickOrNull 23 = .ok (.areturn, 1) := by decide +kernel
set_option maxRecDepth 20000 in
theorem ggX1_thereOrNull_X1_stickOrNull : GoodIn wsX1_thereOrNull wsX1_stickOrNull := goodIn_r _ [6, 7, 16, 17, 18] (by decide +kernel) (by decide +kernel)
set_option maxRecDepth 20000 in
theorem gX1_thereOrNull_X1_stickOrNull : GoodIn wsX1_thereOrNull (wsV RX1 166 RX1 yX1_stickOrNull wsX1_stickOrNull) := goodIn_app (goodIn_of _ (by decide +kernel)) ggX1_thereOrNull_X1_stickOrNull
theorem dX1_thereOrNull_0 : decode cX1_thereOrNull 0 = .ok (.aload_n 0, 1) := by decide +kernel
theorem dX1_thereOrNull_1 : decode cX1_thereOrNull 1 = .ok (.iload_n 1, 1) := by decide +kernel
theorem dX1_thereOrNull_2 : decode cX1_thereOrNull 2 = .ok (.invokevirtual 166, 3) := by decide +kernel
theorem dX1_thereOrNull_5 : decode cX1_thereOrNull 5 = .ok (.astore_n 2, 1) := by decide +kernel
theorem dX1_thereOrNull_6 : decode cX1_thereOrNull 6 = .ok (.aload_n 2, 1) := by decide +kernel
theorem dX1_thereOrNull_7 : decode cX1_thereOrNull 7 = .ok (.ifnull 10, 3) := by decide +kernel
theorem dX1_thereOrNull_10 : decode cX1_thereOrNull 10 = .ok (.aload_n 2, 1) := by decide +kernel
theorem dX1_thereOrNull_11 : decode cX1_thereOrNull 11 = .ok (.getfield 126, 3) := by decide +kernel
theorem dX1_thereOrNull_14 : decode cX1_thereOrNull 14 = .ok (.ifCond .eq 7, 3) := by decide +kernel
theorem dX1_thereOrNull_17 : decode cX1_thereOrNull 17 = .ok (.aconst_null, 1) := by decide +kernel
theorem dX1_thereOrNull_18 : decode cX1_thereOrNull 18 = .ok (.goto 4, 3) := by decide +kernel
theorem dX1_thereOrNull_21 : decode cX1_thereOrNull 21 = .ok (.aload_n 2, 1) := by decide +kernel
theorem dX1_thereOrNull_22 : decode cX1_thereOrNull 22 = .ok (.areturn, 1) := by decide +kernel
theorem dX1_put_0 : decode cX1_put 0 = .ok (.aload_n 0, 1) := by decide +kernel
theorem dX1_put_1 : decode cX1_put 1 = .ok (.getfield 15, 3) := by decide +kernel
theorem dX1_put_4 : decode cX1_put 4 = .ok (.istore_n 2, 1) := by decide +kernel
theorem dX1_put_5 : decode cX1_put 5 = .ok (.iload_n 2, 1) := by decide +kernel
theorem dX1_put_6 : decode cX1_put 6 = .ok (.ifCond .lt 26, 3) := by decide +kernel
theorem dX1_put_9 : decode cX1_put 9 = .ok (.iload_n 2, 1) := by decide +kernel
theorem dX1_put_10 : decode cX1_put 10 = .ok (.aload_n 0, 1) := by decide +kernel
theorem dX1_put_11 : decode cX1_put 11 = .ok (.getfield 11, 3) := by decide +kernel
theorem dX1_put_14 : decode cX1_put 14 = .ok (.arraylength, 1) := by decide +kernel
theorem dX1_put_15 : decode cX1_put 15 = .ok (.if_icmp .ge 17, 3) := by decide +kernel
theorem dX1_put_18 : decode cX1_put 18 = .ok (.aload_n 0, 1) := by decide +kernel
theorem dX1_put_19 : decode cX1_put 19 = .ok (.getfield 11, 3) := by decide +kernel
theorem dX1_put_22 : decode cX1_put 22 = .ok (.iload_n 2, 1) := by decide +kernel
theorem dX1_put_23 : decode cX1_put 23 = .ok (.aload_n 1, 1) := by decide +kernel
theorem dX1_put_24 : decode cX1_put 24 = .ok (.aastore, 1) := by decide +kernel
theorem dX1_put_25 : decode cX1_put 25 = .ok (.aload_n 0, 1) := by decide +kernel
theorem dX1_put_26 : decode cX1_put 26 = .ok (.iload_n 2, 1) := by decide +kernel
theorem dX1_put_27 : decode cX1_put 27 = .ok (.iconst 1, 1) := by decide +kernel
theorem dX1_put_28 : decode cX1_put 28 = .ok (.iadd, 1) := by decide +kernel
theorem dX1_put_29 : decode cX1_put 29 = .ok (.putfield 15, 3) := by decide +kernel
theorem dX1_put_32 : decode cX1_put 32 = .ok (.iload_n 2, 1) := by decide +kernel
theorem dX1_put_33 : decode cX1_put 33 = .ok (.ireturn, 1) := by decide +kernel
set_option maxRecDepth 20000 in
theorem ggX1_breakAt_X0_init : GoodIn wsX1_breakAt wsX0_init := goodIn_r _ [12, 13, 14, 15, 16, 17, 18, 19, 20, 21, 22, 23, 24, 25, 26, 27, 28, 29, 69, 70, 71, 72, 73, 74, 75, 76] (by decide +kernel) (by decide +kernel)
set_option maxRecDepth 20000 in
theorem gX1_breakAt_X0_init : GoodIn wsX1_breakAt (wsX0_init) := ggX1_breakAt_X0_init
set_option maxRecDepth 20000 in
theorem ggX1_breakAt_X0_takePlaces : GoodIn wsX1_breakAt wsX0_takePlaces := goodIn_r _ [33, 34, 35, 36, 3, 37, 22, 38, 39, 40, 41, 16, 42, 43, 44, 45, 46, 47, 48, 49, 23, 50, 51, 52, 53, 54, 55, 56, 57, 25, 58, 59, 60, 61, 69, 70, 71, 72, 73, 74, 75, 76] (by decide +kernel) (by decide +kernel)
set_option maxRecDepth 20000 in
theorem gX1_breakAt_X0_takePlaces : GoodIn wsX1_breakAt (wsV RX1 191 RX0 yX0_takePlaces wsX0_takePlaces) := goodIn_app (goodIn_of _ (by decide +kernel)) ggX1_breakAt_X0_takePlaces
set_option maxRecDepth 20000 in
theorem ggX1_breakAt_X1_put : GoodIn wsX1_breakAt wsX1_put := goodIn_r _ [66, 67, 68, 77, 78, 79] (by decide +kernel) (by decide +kernel)
set_option maxRecDepth 20000 in
theorem gX1_breakAt_X1_put : GoodIn wsX1_breakAt (wsV RX1 44 RX1 yX1_put wsX1_put) := goodIn_app (goodIn_of _ (by decide +kernel)) ggX1_breakAt_X1_put
theorem dX1_breakAt_0 : decode cX1_breakAt 0 = .ok (.iload_n 2, 1) := by decide +kernel
theorem dX1_breakAt_1 : decode cX1_breakAt 1 = .ok (.iconst 1, 1) := by decide +kernel
theorem dX1_breakAt_2 : decode cX1_breakAt 2 = .ok (.iadd, 1) := by decide +kernel
theorem dX1_breakAt_3 : decode cX1_breakAt 3 = .ok (.istore_n 3, 1) := by decide +kernel
theorem dX1_breakAt_4 : decode cX1_breakAt 4 = .ok (.new 9, 3) := by decide +kernel
theorem dX1_breakAt_7 : decode cX1_breakAt 7 = .ok (.dup, 1) := by decide +kernel
theorem dX1_breakAt_8 : decode cX1_breakAt 8 = .ok (.iload_n 3, 1) := by decide +kernel
theorem dX1_breakAt_9 : decode cX1_breakAt 9 = .ok (.invokespecial 42, 3) := by decide +kernel
theorem dX1_breakAt_12 : decode cX1_breakAt 12 = .ok (.astore 4, 2) := by decide +kernel
theorem dX1_breakAt_14 : decode cX1_breakAt 14 = .ok (.aload 4, 2) := by decide +kernel
theorem dX1_breakAt_16 : decode cX1_breakAt 16 = .ok (.aload_n 1, 1) := by decide +kernel
theorem dX1_breakAt_17 : decode cX1_breakAt 17 = .ok (.iconst 0, 1) := by decide +kernel
theorem dX1_breakAt_18 : decode cX1_breakAt 18 = .ok (.iload_n 3, 1) := by decide +kernel
theorem dX1_breakAt_19 : decode cX1_breakAt 19 = .ok (.iconst 0, 1) := by decide +kernel
theorem dX1_breakAt_20 : decode cX1_breakAt 20 = .ok (.iconst 0, 1) := by decide +kernel
theorem dX1_breakAt_21 : decode cX1_breakAt 21 = .ok (.invokevirtual 191, 3) := by decide +kernel
theorem dX1_breakAt_24 : decode cX1_breakAt 24 = .ok (.aload 4, 2) := by decide +kernel
theorem dX1_breakAt_26 : decode cX1_breakAt 26 = .ok (.aload_n 1, 1) := by decide +kernel
theorem dX1_breakAt_27 : decode cX1_breakAt 27 = .ok (.getfield 75, 3) := by decide +kernel
theorem dX1_breakAt_30 : decode cX1_breakAt 30 = .ok (.putfield 75, 3) := by decide +kernel
theorem dX1_breakAt_33 : decode cX1_breakAt 33 = .ok (.aload 4, 2) := by decide +kernel
theorem dX1_breakAt_35 : decode cX1_breakAt 35 = .ok (.aload_n 1, 1) := by decide +kernel
theorem dX1_breakAt_36 : decode cX1_breakAt 36 = .ok (.getfield 195, 3) := by decide +kernel
theorem dX1_breakAt_39 : decode cX1_breakAt 39 = .ok (.putfield 195, 3) := by decide +kernel
theorem dX1_breakAt_42 : decode cX1_breakAt 42 = .ok (.aload 4, 2) := by decide +kernel
theorem dX1_breakAt_44 : decode cX1_breakAt 44 = .ok (.aload_n 0, 1) := by decide +kernel
theorem dX1_breakAt_45 : decode cX1_breakAt 45 = .ok (.getfield 19, 3) := by decide +kernel
theorem dX1_breakAt_48 : decode cX1_breakAt 48 = .ok (.putfield 198, 3) := by decide +kernel
theorem dX1_breakAt_51 : decode cX1_breakAt 51 = .ok (.new 9, 3) := by decide +kernel
theorem dX1_breakAt_54 : decode cX1_breakAt 54 = .ok (.dup, 1) := by decide +kernel
theorem dX1_breakAt_55 : decode cX1_breakAt 55 = .ok (.aload_n 1, 1) := by decide +kernel
theorem dX1_breakAt_56 : decode cX1_breakAt 56 = .ok (.getfield 98, 3) := by decide +kernel
theorem dX1_breakAt_59 : decode cX1_breakAt 59 = .ok (.iload_n 3, 1) := by decide +kernel
theorem dX1_breakAt_60 : decode cX1_breakAt 60 = .ok (.isub, 1) := by decide +kernel
theorem dX1_breakAt_61 : decode cX1_breakAt 61 = .ok (.invokespecial 42, 3) := by decide +kernel
theorem dX1_breakAt_64 : decode cX1_breakAt 64 = .ok (.astore 5, 2) := by decide +kernel
theorem dX1_breakAt_66 : decode cX1_breakAt 66 = .ok (.aload 5, 2) := by decide +kernel
theorem dX1_breakAt_68 : decode cX1_breakAt 68 = .ok (.aload_n 1, 1) := by decide +kernel
theorem dX1_breakAt_69 : decode cX1_breakAt 69 = .ok (.iload_n 3, 1) := by decide +kernel
theorem dX1_breakAt_70 : decode cX1_breakAt 70 = .ok (.aload_n 1, 1) := by decide +kernel
theorem dX1_breakAt_71 : decode cX1_breakAt 71 = .ok (.getfield 98, 3) := by decide +kernel
theorem dX1_breakAt_74 : decode cX1_breakAt 74 = .ok (.iload_n 3, 1) := by decide +kernel
theorem dX1_breakAt_75 : decode cX1_breakAt 75 = .ok (.isub, 1) := by decide +kernel
theorem dX1_breakAt_76 : decode cX1_breakAt 76 = .ok (.iconst 0, 1) := by decide +kernel
theorem dX1_breakAt_77 : decode cX1_breakAt 77 = .ok (.iconst 0, 1) := by decide +kernel
theorem dX1_breakAt_78 : decode cX1_breakAt 78 = .ok (.invokevirtual 191, 3) := by decide +kernel
theorem dX1_breakAt_81 : decode cX1_breakAt 81 = .ok (.aload 5, 2) := by decide +kernel
theorem dX1_breakAt_83 : decode cX1_breakAt 83 = .ok (.aload_n 1, 1) := by decide +kernel
theorem dX1_breakAt_84 : decode cX1_breakAt 84 = .ok (.getfield 75, 3) := by decide +kernel
theorem dX1_breakAt_87 : decode cX1_breakAt 87 = .ok (.putfield 75, 3) := by decide +kernel
theorem dX1_breakAt_90 : decode cX1_breakAt 90 = .ok (.aload 5, 2) := by decide +kernel
theorem dX1_breakAt_92 : decode cX1_breakAt 92 = .ok (.aload_n 0, 1) := by decide +kernel
theorem dX1_breakAt_93 : decode cX1_breakAt 93 = .ok (.getfield 19, 3) := by decide +kernel
theorem dX1_breakAt_96 : decode cX1_breakAt 96 = .ok (.putfield 195, 3) := by decide +kernel
theorem dX1_breakAt_99 : decode cX1_breakAt 99 = .ok (.aload 5, 2) := by decide +kernel
theorem dX1_breakAt_101 : decode cX1_breakAt 101 = .ok (.aload_n 1, 1) := by decide +kernel
theorem dX1_breakAt_102 : decode cX1_breakAt 102 = .ok (.getfield 198, 3) := by decide +kernel
theorem dX1_breakAt_105 : decode cX1_breakAt 105 = .ok (.putfield 198, 3) := by decide +kernel
theorem dX1_breakAt_108 : decode cX1_breakAt 108 = .ok (.aload_n 0, 1) := by decide +kernel
theorem dX1_breakAt_109 : decode cX1_breakAt 109 = .ok (.dup, 1) := by decide +kernel
theorem dX1_breakAt_110 : decode cX1_breakAt 110 = .ok (.getfield 19, 3) := by decide +kernel
theorem dX1_breakAt_113 : decode cX1_breakAt 113 = .ok (.iconst 1, 1) := by decide +kernel
theorem dX1_breakAt_114 : decode cX1_breakAt 114 = .ok (.iadd, 1) := by decide +kernel
theorem dX1_breakAt_115 : decode cX1_breakAt 115 = .ok (.putfield 19, 3) := by decide +kernel
theorem dX1_breakAt_118 : decode cX1_breakAt 118 = .ok (.aload_n 1, 1) := by decide +kernel
theorem dX1_breakAt_119 : decode cX1_breakAt 119 = .ok (.iconst 1, 1) := by decide +kernel
theorem dX1_breakAt_120 : decode cX1_breakAt 120 = .ok (.putfield 126, 3) := by decide +kernel
theorem dX1_breakAt_123 : decode cX1_breakAt 123 = .ok (.aload_n 0, 1) := by decide +kernel
theorem dX1_breakAt_124 : decode cX1_breakAt 124 = .ok (.aload 4, 2) := by decide +kernel
theorem dX1_breakAt_126 : decode cX1_breakAt 126 = .ok (.invokevirtual 44, 3) := by decide +kernel
theorem dX1_breakAt_129 : decode cX1_breakAt 129 = .ok (.istore 6, 2) := by decide +kernel
theorem dX1_breakAt_131 : decode cX1_breakAt 131 = .ok (.aload_n 0, 1) := by decide +kernel
theorem dX1_breakAt_132 : decode cX1_breakAt 132 = .ok (.aload 5, 2) := by decide +kernel
theorem dX1_breakAt_134 : decode cX1_breakAt 134 = .ok (.invokevirtual 44, 3) := by decide +kernel
theorem dX1_breakAt_137 : decode cX1_breakAt 137 = .ok (.pop, 1) := by decide +kernel
theorem dX1_breakAt_138 : decode cX1_breakAt 138 = .ok (.iload 6, 2) := by decide +kernel
theorem dX1_breakAt_140 : decode cX1_breakAt 140 = .ok (.ireturn, 1) := by decide +kernel
set_option maxRecDepth 20000 in
theorem ggX1_joinBoth_X0_fitsAheadOf : GoodIn wsX1_joinBoth wsX0_fitsAheadOf := goodIn_r _ [12, 13, 14, 73, 74, 75, 76, 77, 78, 79, 80] (by decide +kernel) (by decide +kernel)
set_option maxRecDepth 20000 in
theorem gX1_joinBoth_X0_fitsAheadOf : GoodIn wsX1_joinBoth (wsV RX1 130 RX0 yX0_fitsAheadOf wsX0_fitsAheadOf) := goodIn_app (goodIn_of _ (by decide +kernel)) ggX1_joinBoth_X0_fitsAheadOf
set_option maxRecDepth 20000 in
theorem ggX1_joinBoth_X0_init : GoodIn wsX1_joinBoth wsX0_init := goodIn_r _ [17, 18, 19, 20, 21, 22, 14, 13, 23, 24, 25, 26, 27, 28, 29, 30, 31, 32, 73, 74, 75, 76, 77, 78, 79, 80] (by decide +kernel) (by decide +kernel)
set_option maxRecDepth 20000 in
theorem gX1_joinBoth_X0_init : GoodIn wsX1_joinBoth (wsX0_init) := ggX1_joinBoth_X0_init
set_option maxRecDepth 20000 in
theorem ggX1_joinBoth_X0_takePlaces : GoodIn wsX1_joinBoth wsX0_takePlaces := goodIn_r _ [36, 37, 38, 39, 3, 40, 25, 41, 42, 43, 44, 21, 45, 46, 47, 48, 49, 50, 51, 52, 26, 53, 54, 55, 56, 57, 58, 59, 60, 28, 61, 62, 63, 64, 73, 74, 75, 76, 77, 78, 79, 80] (by decide +kernel) (by decide +kernel)
set_option maxRecDepth 20000 in
theorem gX1_joinBoth_X0_takePlaces : GoodIn wsX1_joinBoth (wsV RX1 191 RX0 yX0_takePlaces wsX0_takePlaces) := goodIn_app (goodIn_of _ (by decide +kernel)) ggX1_joinBoth_X0_takePlaces
set_option maxRecDepth 20000 in
theorem ggX1_joinBoth_X0_putJoint : GoodIn wsX1_joinBoth wsX0_putJoint := goodIn_r _ [64, 26, 28, 53, 54, 55, 3, 56, 21, 73, 74, 75, 76, 77, 78, 79, 80] (by decide +kernel) (by decide +kernel)
set_option maxRecDepth 20000 in
theorem gX1_joinBoth_X0_putJoint : GoodIn wsX1_joinBoth (wsV RX1 201 RX0 yX0_putJoint wsX0_putJoint) := goodIn_app (goodIn_of _ (by decide +kernel)) ggX1_joinBoth_X0_putJoint
set_option maxRecDepth 20000 in
theorem ggX1_joinBoth_X1_put : GoodIn wsX1_joinBoth wsX1_put := goodIn_r _ [70, 71, 72, 81, 82, 83] (by decide +kernel) (by decide +kernel)
set_option maxRecDepth 20000 in
theorem gX1_joinBoth_X1_put : GoodIn wsX1_joinBoth (wsV RX1 44 RX1 yX1_put wsX1_put) := goodIn_app (goodIn_of _ (by decide +kernel)) ggX1_joinBoth_X1_put
theorem dX1_joinBoth_0 : decode cX1_joinBoth 0 = .ok (.iload_n 3, 1) := by decide +kernel
theorem dX1_joinBoth_1 : decode cX1_joinBoth 1 = .ok (.ifCond .ne 15, 3) := by decide +kernel
theorem dX1_joinBoth_4 : decode cX1_joinBoth 4 = .ok (.aload_n 1, 1) := by decide +kernel
theorem dX1_joinBoth_5 : decode cX1_joinBoth 5 = .ok (.aload_n 2, 1) := by decide +kernel
theorem dX1_joinBoth_6 : decode cX1_joinBoth 6 = .ok (.invokevirtual 130, 3) := by decide +kernel
theorem dX1_joinBoth_9 : decode cX1_joinBoth 9 = .ok (.ifCond .eq 7, 3) := by decide +kernel
theorem dX1_joinBoth_12 : decode cX1_joinBoth 12 = .ok (.iconst 3, 1) := by decide +kernel
theorem dX1_joinBoth_13 : decode cX1_joinBoth 13 = .ok (.goto 4, 3) := by decide +kernel
theorem dX1_joinBoth_16 : decode cX1_joinBoth 16 = .ok (.iconst 0, 1) := by decide +kernel
theorem dX1_joinBoth_17 : decode cX1_joinBoth 17 = .ok (.istore 5, 2) := by decide +kernel
theorem dX1_joinBoth_19 : decode cX1_joinBoth 19 = .ok (.new 9, 3) := by decide +kernel
theorem dX1_joinBoth_22 : decode cX1_joinBoth 22 = .ok (.dup, 1) := by decide +kernel
theorem dX1_joinBoth_23 : decode cX1_joinBoth 23 = .ok (.aload_n 1, 1) := by decide +kernel
theorem dX1_joinBoth_24 : decode cX1_joinBoth 24 = .ok (.getfield 98, 3) := by decide +kernel
theorem dX1_joinBoth_27 : decode cX1_joinBoth 27 = .ok (.aload_n 2, 1) := by decide +kernel
theorem dX1_joinBoth_28 : decode cX1_joinBoth 28 = .ok (.getfield 98, 3) := by decide +kernel
theorem dX1_joinBoth_31 : decode cX1_joinBoth 31 = .ok (.iadd, 1) := by decide +kernel
theorem dX1_joinBoth_32 : decode cX1_joinBoth 32 = .ok (.invokespecial 42, 3) := by decide +kernel
theorem dX1_joinBoth_35 : decode cX1_joinBoth 35 = .ok (.astore 6, 2) := by decide +kernel
theorem dX1_joinBoth_37 : decode cX1_joinBoth 37 = .ok (.aload 6, 2) := by decide +kernel
theorem dX1_joinBoth_39 : decode cX1_joinBoth 39 = .ok (.aload_n 1, 1) := by decide +kernel
theorem dX1_joinBoth_40 : decode cX1_joinBoth 40 = .ok (.iconst 0, 1) := by decide +kernel
theorem dX1_joinBoth_41 : decode cX1_joinBoth 41 = .ok (.aload_n 1, 1) := by decide +kernel
theorem dX1_joinBoth_42 : decode cX1_joinBoth 42 = .ok (.getfield 98, 3) := by decide +kernel
theorem dX1_joinBoth_45 : decode cX1_joinBoth 45 = .ok (.iconst 0, 1) := by decide +kernel
theorem dX1_joinBoth_46 : decode cX1_joinBoth 46 = .ok (.iconst 0, 1) := by decide +kernel
theorem dX1_joinBoth_47 : decode cX1_joinBoth 47 = .ok (.invokevirtual 191, 3) := by decide +kernel
theorem dX1_joinBoth_50 : decode cX1_joinBoth 50 = .ok (.aload 6, 2) := by decide +kernel
theorem dX1_joinBoth_52 : decode cX1_joinBoth 52 = .ok (.aload_n 2, 1) := by decide +kernel
theorem dX1_joinBoth_53 : decode cX1_joinBoth 53 = .ok (.iconst 0, 1) := by decide +kernel
theorem dX1_joinBoth_54 : decode cX1_joinBoth 54 = .ok (.aload_n 2, 1) := by decide +kernel
theorem dX1_joinBoth_55 : decode cX1_joinBoth 55 = .ok (.getfield 98, 3) := by decide +kernel
theorem dX1_joinBoth_58 : decode cX1_joinBoth 58 = .ok (.aload_n 1, 1) := by decide +kernel
theorem dX1_joinBoth_59 : decode cX1_joinBoth 59 = .ok (.getfield 98, 3) := by decide +kernel
theorem dX1_joinBoth_62 : decode cX1_joinBoth 62 = .ok (.iload_n 3, 1) := by decide +kernel
theorem dX1_joinBoth_63 : decode cX1_joinBoth 63 = .ok (.invokevirtual 191, 3) := by decide +kernel
theorem dX1_joinBoth_66 : decode cX1_joinBoth 66 = .ok (.aload 6, 2) := by decide +kernel
theorem dX1_joinBoth_68 : decode cX1_joinBoth 68 = .ok (.aload_n 1, 1) := by decide +kernel
theorem dX1_joinBoth_69 : decode cX1_joinBoth 69 = .ok (.getfield 98, 3) := by decide +kernel
theorem dX1_joinBoth_72 : decode cX1_joinBoth 72 = .ok (.iconst 1, 1) := by decide +kernel
theorem dX1_joinBoth_73 : decode cX1_joinBoth 73 = .ok (.isub, 1) := by decide +kernel
theorem dX1_joinBoth_74 : decode cX1_joinBoth 74 = .ok (.iload 4, 2) := by decide +kernel
theorem dX1_joinBoth_76 : decode cX1_joinBoth 76 = .ok (.iload 5, 2) := by decide +kernel
theorem dX1_joinBoth_78 : decode cX1_joinBoth 78 = .ok (.iadd, 1) := by decide +kernel
theorem dX1_joinBoth_79 : decode cX1_joinBoth 79 = .ok (.iconst 1, 1) := by decide +kernel
theorem dX1_joinBoth_80 : decode cX1_joinBoth 80 = .ok (.invokevirtual 201, 3) := by decide +kernel
theorem dX1_joinBoth_83 : decode cX1_joinBoth 83 = .ok (.aload 6, 2) := by decide +kernel
theorem dX1_joinBoth_85 : decode cX1_joinBoth 85 = .ok (.aload_n 1, 1) := by decide +kernel
theorem dX1_joinBoth_86 : decode cX1_joinBoth 86 = .ok (.getfield 75, 3) := by decide +kernel
theorem dX1_joinBoth_89 : decode cX1_joinBoth 89 = .ok (.putfield 75, 3) := by decide +kernel
theorem dX1_joinBoth_92 : decode cX1_joinBoth 92 = .ok (.aload 6, 2) := by decide +kernel
theorem dX1_joinBoth_94 : decode cX1_joinBoth 94 = .ok (.aload_n 1, 1) := by decide +kernel
theorem dX1_joinBoth_95 : decode cX1_joinBoth 95 = .ok (.getfield 195, 3) := by decide +kernel
theorem dX1_joinBoth_98 : decode cX1_joinBoth 98 = .ok (.putfield 195, 3) := by decide +kernel
theorem dX1_joinBoth_101 : decode cX1_joinBoth 101 = .ok (.aload 6, 2) := by decide +kernel
theorem dX1_joinBoth_103 : decode cX1_joinBoth 103 = .ok (.aload_n 2, 1) := by decide +kernel
theorem dX1_joinBoth_104 : decode cX1_joinBoth 104 = .ok (.getfield 198, 3) := by decide +kernel
theorem dX1_joinBoth_107 : decode cX1_joinBoth 107 = .ok (.putfield 198, 3) := by decide +kernel
theorem dX1_joinBoth_110 : decode cX1_joinBoth 110 = .ok (.aload_n 1, 1) := by decide +kernel
theorem dX1_joinBoth_111 : decode cX1_joinBoth 111 = .ok (.iconst 1, 1) := by decide +kernel
theorem dX1_joinBoth_112 : decode cX1_joinBoth 112 = .ok (.putfield 126, 3) := by decide +kernel
theorem dX1_joinBoth_115 : decode cX1_joinBoth 115 = .ok (.aload_n 2, 1) := by decide +kernel
theorem dX1_joinBoth_116 : decode cX1_joinBoth 116 = .ok (.iconst 1, 1) := by decide +kernel
theorem dX1_joinBoth_117 : decode cX1_joinBoth 117 = .ok (.putfield 126, 3) := by decide +kernel
theorem dX1_joinBoth_120 : decode cX1_joinBoth 120 = .ok (.aload_n 0, 1) := by decide +kernel
theorem dX1_joinBoth_121 : decode cX1_joinBoth 121 = .ok (.aload 6, 2) := by decide +kernel
theorem dX1_joinBoth_123 : decode cX1_joinBoth 123 = .ok (.invokevirtual 44, 3) := by decide +kernel
theorem dX1_joinBoth_126 : decode cX1_joinBoth 126 = .ok (.ireturn, 1) := by decide +kernel
set_option maxRecDepth 20000 in
theorem ggX1_total_X1_howManyThere : GoodIn wsX1_total wsX1_howManyThere := goodIn_r _ [7, 1, 8, 9, 10, 6, 11, 12, 13, 14, 15, 16, 17, 74, 75, 76, 77, 78, 79, 80, 81, 82, 83, 84] (by decide +kernel) (by decide +kernel)
set_option maxRecDepth 20000 in
theorem gX1_total_X1_howManyThere : GoodIn wsX1_total (wsV RX1 29 RX1 yX1_howManyThere wsX1_howManyThere) := goodIn_app (goodIn_of _ (by decide +kernel)) ggX1_total_X1_howManyThere
set_option maxRecDepth 20000 in
theorem ggX1_total_X1_sumThere : GoodIn wsX1_total wsX1_sumThere := goodIn_r _ [21, 1, 8, 9, 10, 6, 11, 12, 13, 14, 15, 16, 17, 22, 23, 24, 25, 26, 27, 28, 29, 30, 31, 32, 33, 34, 35, 36, 37, 38, 39, 40, 41, 42, 43, 44, 45, 46, 47, 48, 49, 50, 51, 52, 53, 54, 55, 56, 57, 58, 59, 60, 61, 74, 75, 76, 77, 78, 79, 80, 81, 82, 83, 84] (by decide +kernel) (by decide +kernel)
set_option maxRecDepth 20000 in
theorem gX1_total_X1_sumThere : GoodIn wsX1_total (wsV RX1 159 RX1 yX1_sumThere wsX1_sumThere) := goodIn_app (goodIn_of _ (by decide +kernel)) ggX1_total_X1_sumThere
set_option maxRecDepth 20000 in
theorem ggX1_total_X1_fittingPairs : GoodIn wsX1_total wsX1_fittingPairs := goodIn_r _ [65, 1, 8, 9, 10, 6, 11, 12, 13, 14, 15, 16, 17, 66, 67, 68, 69, 70, 71, 72, 25, 73, 30, 29, 74, 75, 76, 77, 78, 79, 80, 81, 82, 83, 84] (by decide +kernel) (by decide +kernel)
set_option maxRecDepth 20000 in
theorem gX1_total_X1_fittingPairs : GoodIn wsX1_total (wsV RX1 205 RX1 yX1_fittingPairs wsX1_fittingPairs) := goodIn_app (goodIn_of _ (by decide +kernel)) ggX1_total_X1_fittingPairs
theorem dX1_total_0 : decode cX1_total 0 = .ok (.iload_n 1, 1) := by decide +kernel
theorem dX1_total_1 : decode cX1_total 1 = .ok (.tableswitch 72 0 5 #[39, 44, 49, 55, 60, 66], 39) := by decide +kernel
theorem dX1_total_40 : decode cX1_total 40 = .ok (.aload_n 0, 1) := by decide +kernel
theorem dX1_total_41 : decode cX1_total 41 = .ok (.invokevirtual 29, 3) := by decide +kernel
theorem dX1_total_44 : decode cX1_total 44 = .ok (.ireturn, 1) := by decide +kernel
theorem dX1_total_45 : decode cX1_total 45 = .ok (.aload_n 0, 1) := by decide +kernel
theorem dX1_total_46 : decode cX1_total 46 = .ok (.getfield 15, 3) := by decide +kernel
theorem dX1_total_49 : decode cX1_total 49 = .ok (.ireturn, 1) := by decide +kernel
theorem dX1_total_50 : decode cX1_total 50 = .ok (.aload_n 0, 1) := by decide +kernel
theorem dX1_total_51 : decode cX1_total 51 = .ok (.iconst 2, 1) := by decide +kernel
theorem dX1_total_52 : decode cX1_total 52 = .ok (.invokevirtual 159, 3) := by decide +kernel
theorem dX1_total_55 : decode cX1_total 55 = .ok (.ireturn, 1) := by decide +kernel
theorem dX1_total_56 : decode cX1_total 56 = .ok (.aload_n 0, 1) := by decide +kernel
theorem dX1_total_57 : decode cX1_total 57 = .ok (.getfield 19, 3) := by decide +kernel
theorem dX1_total_60 : decode cX1_total 60 = .ok (.ireturn, 1) := by decide +kernel
theorem dX1_total_61 : decode cX1_total 61 = .ok (.aload_n 0, 1) := by decide +kernel
theorem dX1_total_62 : decode cX1_total 62 = .ok (.iconst 3, 1) := by decide +kernel
theorem dX1_total_63 : decode cX1_total 63 = .ok (.invokevirtual 159, 3) := by decide +kernel
theorem dX1_total_66 : decode cX1_total 66 = .ok (.ireturn, 1) := by decide +kernel
theorem dX1_total_67 : decode cX1_total 67 = .ok (.aload_n 0, 1) := by decide +kernel
theorem dX1_total_68 : decode cX1_total 68 = .ok (.iconst 0, 1) := by decide +kernel
theorem dX1_total_69 : decode cX1_total 69 = .ok (.invokevirtual 159, 3) := by decide +kernel
theorem dX1_total_72 : decode cX1_total 72 = .ok (.ireturn, 1) := by decide +kernel
theorem dX1_total_73 : decode cX1_total 73 = .ok (.aload_n 0, 1) := by decide +kernel
theorem dX1_total_74 : decode cX1_total 74 = .ok (.invokevirtual 205, 3) := by decide +kernel
theorem dX1_total_77 : decode cX1_total 77 = .ok (.ireturn, 1) := by decide +kernel
set_option maxRecDepth 20000 in
theorem ggX1_howManyThere_X1_thereOrNull : GoodIn wsX1_howManyThere wsX1_thereOrNull := goodIn_r _ [6, 7, 8, 9, 10, 5, 11, 12, 16, 17, 18, 19, 20, 21, 22, 23, 13, 14, 15] (by decide +kernel) (by decide +kernel)
set_option maxRecDepth 20000 in
theorem gX1_howManyThere_X1_thereOrNull : GoodIn wsX1_howManyThere (wsV RX1 156 RX1 yX1_thereOrNull wsX1_thereOrNull) := goodIn_app (goodIn_of _ (by decide +kernel)) ggX1_howManyThere_X1_thereOrNull
theorem dX1_howManyThere_0 : decode cX1_howManyThere 0 = .ok (.iconst 0, 1) := by decide +kernel
theorem dX1_howManyThere_1 : decode cX1_howManyThere 1 = .ok (.istore_n 1, 1) := by decide +kernel
theorem dX1_howManyThere_2 : decode cX1_howManyThere 2 = .ok (.iconst 0, 1) := by decide +kernel
theorem dX1_howManyThere_3 : decode cX1_howManyThere 3 = .ok (.istore_n 2, 1) := by decide +kernel
theorem dX1_howManyThere_4 : decode cX1_howManyThere 4 = .ok (.iload_n 2, 1) := by decide +kernel
theorem dX1_howManyThere_5 : decode cX1_howManyThere 5 = .ok (.aload_n 0, 1) := by decide +kernel
theorem dX1_howManyThere_6 : decode cX1_howManyThere 6 = .ok (.getfield 15, 3) := by decide +kernel
theorem dX1_howManyThere_9 : decode cX1_howManyThere 9 = .ok (.if_icmp .ge 20, 3) := by decide +kernel
theorem dX1_howManyThere_12 : decode cX1_howManyThere 12 = .ok (.aload_n 0, 1) := by decide +kernel
theorem dX1_howManyThere_13 : decode cX1_howManyThere 13 = .ok (.iload_n 2, 1) := by decide +kernel
theorem dX1_howManyThere_14 : decode cX1_howManyThere 14 = .ok (.invokevirtual 156, 3) := by decide +kernel
theorem dX1_howManyThere_17 : decode cX1_howManyThere 17 = .ok (.ifnull 6, 3) := by decide +kernel
theorem dX1_howManyThere_20 : decode cX1_howManyThere 20 = .ok (.iinc 1 1, 3) := by decide +kernel
theorem dX1_howManyThere_23 : decode cX1_howManyThere 23 = .ok (.iinc 2 1, 3) := by decide +kernel
theorem dX1_howManyThere_26 : decode cX1_howManyThere 26 = .ok (.goto (-22), 3) := by decide +kernel
theorem dX1_howManyThere_29 : decode cX1_howManyThere 29 = .ok (.iload_n 1, 1) := by decide +kernel
theorem dX1_howManyThere_30 : decode cX1_howManyThere 30 = .ok (.ireturn, 1) := by decide +kernel
set_option maxRecDepth 20000 in
theorem ggX1_sumThere_X1_thereOrNull : GoodIn wsX1_sumThere wsX1_thereOrNull := goodIn_r _ [6, 7, 8, 9, 10, 5, 11, 12, 56, 57, 58, 59, 60, 61, 62, 63, 53, 54, 55] (by decide +kernel) (by decide +kernel)
set_option maxRecDepth 20000 in
theorem gX1_sumThere_X1_thereOrNull : GoodIn wsX1_sumThere (wsV RX1 156 RX1 yX1_thereOrNull wsX1_thereOrNull) := goodIn_app (goodIn_of _ (by decide +kernel)) ggX1_sumThere_X1_thereOrNull
set_option maxRecDepth 20000 in
theorem ggX1_sumThere_X0_factAt : GoodIn wsX1_sumThere wsX0_factAt := goodIn_r _ [17, 18, 19, 20, 21, 22, 23, 24, 25, 16, 26, 27, 28, 29, 30, 31, 32, 33, 34, 35, 36, 37, 38, 39, 40, 41, 42, 43, 44, 45, 46, 47, 48, 49, 50, 51, 52, 56, 57, 58, 59, 60, 61, 62, 63] (by decide +kernel) (by decide +kernel)
set_option maxRecDepth 20000 in
theorem gX1_sumThere_X0_factAt : GoodIn wsX1_sumThere (wsV RX1 112 RX0 yX0_factAt wsX0_factAt) := goodIn_app (goodIn_of _ (by decide +kernel)) ggX1_sumThere_X0_factAt
theorem dX1_sumThere_0 : decode cX1_sumThere 0 = .ok (.iconst 0, 1) := by decide +kernel
theorem dX1_sumThere_1 : decode cX1_sumThere 1 = .ok (.istore_n 2, 1) := by decide +kernel
theorem dX1_sumThere_2 : decode cX1_sumThere 2 = .ok (.iconst 0, 1) := by decide +kernel
theorem dX1_sumThere_3 : decode cX1_sumThere 3 = .ok (.istore_n 3, 1) := by decide +kernel
theorem dX1_sumThere_4 : decode cX1_sumThere 4 = .ok (.iload_n 3, 1) := by decide +kernel
theorem dX1_sumThere_5 : decode cX1_sumThere 5 = .ok (.aload_n 0, 1) := by decide +kernel
theorem dX1_sumThere_6 : decode cX1_sumThere 6 = .ok (.getfield 15, 3) := by decide +kernel
theorem dX1_sumThere_9 : decode cX1_sumThere 9 = .ok (.if_icmp .ge 30, 3) := by decide +kernel
theorem dX1_sumThere_12 : decode cX1_sumThere 12 = .ok (.aload_n 0, 1) := by decide +kernel
theorem dX1_sumThere_13 : decode cX1_sumThere 13 = .ok (.iload_n 3, 1) := by decide +kernel
theorem dX1_sumThere_14 : decode cX1_sumThere 14 = .ok (.invokevirtual 156, 3) := by decide +kernel
theorem dX1_sumThere_17 : decode cX1_sumThere 17 = .ok (.astore 4, 2) := by decide +kernel
theorem dX1_sumThere_19 : decode cX1_sumThere 19 = .ok (.aload 4, 2) := by decide +kernel
theorem dX1_sumThere_21 : decode cX1_sumThere 21 = .ok (.ifnull 12, 3) := by decide +kernel
theorem dX1_sumThere_24 : decode cX1_sumThere 24 = .ok (.iload_n 2, 1) := by decide +kernel
theorem dX1_sumThere_25 : decode cX1_sumThere 25 = .ok (.aload 4, 2) := by decide +kernel
theorem dX1_sumThere_27 : decode cX1_sumThere 27 = .ok (.iload_n 1, 1) := by decide +kernel
theorem dX1_sumThere_28 : decode cX1_sumThere 28 = .ok (.invokevirtual 112, 3) := by decide +kernel
theorem dX1_sumThere_31 : decode cX1_sumThere 31 = .ok (.iadd, 1) := by decide +kernel
theorem dX1_sumThere_32 : decode cX1_sumThere 32 = .ok (.istore_n 2, 1) := by decide +kernel
theorem dX1_sumThere_33 : decode cX1_sumThere 33 = .ok (.iinc 3 1, 3) := by decide +kernel
theorem dX1_sumThere_36 : decode cX1_sumThere 36 = .ok (.goto (-32), 3) := by decide +kernel
theorem dX1_sumThere_39 : decode cX1_sumThere 39 = .ok (.iload_n 2, 1) := by decide +kernel
theorem dX1_sumThere_40 : decode cX1_sumThere 40 = .ok (.ireturn, 1) := by decide +kernel
set_option maxRecDepth 20000 in
theorem ggX1_fittingPairs_X1_thereOrNull : GoodIn wsX1_fittingPairs wsX1_thereOrNull := goodIn_r _ [6, 7, 8, 9, 10, 5, 11, 12, 27, 28, 29, 30, 31, 32, 33, 34, 24, 25, 26] (by decide +kernel) (by decide +kernel)
set_option maxRecDepth 20000 in
theorem gX1_fittingPairs_X1_thereOrNull : GoodIn wsX1_fittingPairs (wsV RX1 156 RX1 yX1_thereOrNull wsX1_thereOrNull) := goodIn_app (goodIn_of _ (by decide +kernel)) ggX1_fittingPairs_X1_thereOrNull
set_option maxRecDepth 20000 in
theorem ggX1_fittingPairs_X1_fittingBehind : GoodIn wsX1_fittingPairs wsX1_fittingBehind := goodIn_r _ [16, 1, 2, 3, 4, 5, 6, 7, 8, 9, 10, 11, 12, 17, 18, 19, 20, 21, 22, 23, 24, 25, 26, 27, 28, 29, 30, 31, 32, 33, 34] (by decide +kernel) (by decide +kernel)
set_option maxRecDepth 20000 in
theorem gX1_fittingPairs_X1_fittingBehind : GoodIn wsX1_fittingPairs (wsV RX1 208 RX1 yX1_fittingBehind wsX1_fittingBehind) := goodIn_app (goodIn_of _ (by decide +kernel)) ggX1_fittingPairs_X1_fittingBehind
theorem dX1_fittingPairs_0 : decode cX1_fittingPairs 0 = .ok (.iconst 0, 1) := by decide +kernel
theorem dX1_fittingPairs_1 : decode cX1_fittingPairs 1 = .ok (.istore_n 1, 1) := by decide +kernel
theorem dX1_fittingPairs_2 : decode cX1_fittingPairs 2 = .ok (.iconst 0, 1) := by decide +kernel
theorem dX1_fittingPairs_3 : decode cX1_fittingPairs 3 = .ok (.istore_n 2, 1) := by decide +kernel
theorem dX1_fittingPairs_4 : decode cX1_fittingPairs 4 = .ok (.iload_n 2, 1) := by decide +kernel
theorem dX1_fittingPairs_5 : decode cX1_fittingPairs 5 = .ok (.aload_n 0, 1) := by decide +kernel
theorem dX1_fittingPairs_6 : decode cX1_fittingPairs 6 = .ok (.getfield 15, 3) := by decide +kernel
theorem dX1_fittingPairs_9 : decode cX1_fittingPairs 9 = .ok (.if_icmp .ge 27, 3) := by decide +kernel
theorem dX1_fittingPairs_12 : decode cX1_fittingPairs 12 = .ok (.aload_n 0, 1) := by decide +kernel
theorem dX1_fittingPairs_13 : decode cX1_fittingPairs 13 = .ok (.iload_n 2, 1) := by decide +kernel
theorem dX1_fittingPairs_14 : decode cX1_fittingPairs 14 = .ok (.invokevirtual 156, 3) := by decide +kernel
theorem dX1_fittingPairs_17 : decode cX1_fittingPairs 17 = .ok (.astore_n 3, 1) := by decide +kernel
theorem dX1_fittingPairs_18 : decode cX1_fittingPairs 18 = .ok (.aload_n 3, 1) := by decide +kernel
theorem dX1_fittingPairs_19 : decode cX1_fittingPairs 19 = .ok (.ifnull 11, 3) := by decide +kernel
theorem dX1_fittingPairs_22 : decode cX1_fittingPairs 22 = .ok (.iload_n 1, 1) := by decide +kernel
theorem dX1_fittingPairs_23 : decode cX1_fittingPairs 23 = .ok (.aload_n 0, 1) := by decide +kernel
theorem dX1_fittingPairs_24 : decode cX1_fittingPairs 24 = .ok (.aload_n 3, 1) := by decide +kernel
theorem dX1_fittingPairs_25 : decode cX1_fittingPairs 25 = .ok (.invokevirtual 208, 3) := by decide +kernel
theorem dX1_fittingPairs_28 : decode cX1_fittingPairs 28 = .ok (.iadd, 1) := by decide +kernel
theorem dX1_fittingPairs_29 : decode cX1_fittingPairs 29 = .ok (.istore_n 1, 1) := by decide +kernel
theorem dX1_fittingPairs_30 : decode cX1_fittingPairs 30 = .ok (.iinc 2 1, 3) := by decide +kernel
theorem dX1_fittingPairs_33 : decode cX1_fittingPairs 33 = .ok (.goto (-29), 3) := by decide +kernel
theorem dX1_fittingPairs_36 : decode cX1_fittingPairs 36 = .ok (.iload_n 1, 1) := by decide +kernel
theorem dX1_fittingPairs_37 : decode cX1_fittingPairs 37 = .ok (.ireturn, 1) := by decide +kernel
set_option maxRecDepth 20000 in
theorem ggX1_fittingBehind_X1_thereOrNull : GoodIn wsX1_fittingBehind wsX1_thereOrNull := goodIn_r _ [6, 7, 8, 9, 10, 5, 11, 12, 23, 24, 25, 26, 27, 28, 29, 30, 20, 21, 22] (by decide +kernel) (by decide +kernel)
set_option maxRecDepth 20000 in
theorem gX1_fittingBehind_X1_thereOrNull : GoodIn wsX1_fittingBehind (wsV RX1 156 RX1 yX1_thereOrNull wsX1_thereOrNull) := goodIn_app (goodIn_of _ (by decide +kernel)) ggX1_fittingBehind_X1_thereOrNull
set_option maxRecDepth 20000 in
theorem ggX1_fittingBehind_X0_fitsAheadOf : GoodIn wsX1_fittingBehind wsX0_fitsAheadOf := goodIn_r _ [17, 18, 19, 23, 24, 25, 26, 27, 28, 29, 30] (by decide +kernel) (by decide +kernel)
set_option maxRecDepth 20000 in
theorem gX1_fittingBehind_X0_fitsAheadOf : GoodIn wsX1_fittingBehind (wsV RX1 130 RX0 yX0_fitsAheadOf wsX0_fitsAheadOf) := goodIn_app (goodIn_of _ (by decide +kernel)) ggX1_fittingBehind_X0_fitsAheadOf
theorem dX1_fittingBehind_0 : decode cX1_fittingBehind 0 = .ok (.iconst 0, 1) := by decide +kernel
theorem dX1_fittingBehind_1 : decode cX1_fittingBehind 1 = .ok (.istore_n 2, 1) := by decide +kernel
theorem dX1_fittingBehind_2 : decode cX1_fittingBehind 2 = .ok (.iconst 0, 1) := by decide +kernel
theorem dX1_fittingBehind_3 : decode cX1_fittingBehind 3 = .ok (.istore_n 3, 1) := by decide +kernel
theorem dX1_fittingBehind_4 : decode cX1_fittingBehind 4 = .ok (.iload_n 3, 1) := by decide +kernel
theorem dX1_fittingBehind_5 : decode cX1_fittingBehind 5 = .ok (.aload_n 0, 1) := by decide +kernel
theorem dX1_fittingBehind_6 : decode cX1_fittingBehind 6 = .ok (.getfield 15, 3) := by decide +kernel
theorem dX1_fittingBehind_9 : decode cX1_fittingBehind 9 = .ok (.if_icmp .ge 33, 3) := by decide +kernel
theorem dX1_fittingBehind_12 : decode cX1_fittingBehind 12 = .ok (.aload_n 0, 1) := by decide +kernel
theorem dX1_fittingBehind_13 : decode cX1_fittingBehind 13 = .ok (.iload_n 3, 1) := by decide +kernel
theorem dX1_fittingBehind_14 : decode cX1_fittingBehind 14 = .ok (.invokevirtual 156, 3) := by decide +kernel
theorem dX1_fittingBehind_17 : decode cX1_fittingBehind 17 = .ok (.astore 4, 2) := by decide +kernel
theorem dX1_fittingBehind_19 : decode cX1_fittingBehind 19 = .ok (.aload 4, 2) := by decide +kernel
theorem dX1_fittingBehind_21 : decode cX1_fittingBehind 21 = .ok (.ifnull 15, 3) := by decide +kernel
theorem dX1_fittingBehind_24 : decode cX1_fittingBehind 24 = .ok (.aload_n 1, 1) := by decide +kernel
theorem dX1_fittingBehind_25 : decode cX1_fittingBehind 25 = .ok (.aload 4, 2) := by decide +kernel
theorem dX1_fittingBehind_27 : decode cX1_fittingBehind 27 = .ok (.invokevirtual 130, 3) := by decide +kernel
theorem dX1_fittingBehind_30 : decode cX1_fittingBehind 30 = .ok (.ifCond .eq 6, 3) := by decide +kernel
theorem dX1_fittingBehind_33 : decode cX1_fittingBehind 33 = .ok (.iinc 2 1, 3) := by decide +kernel
theorem dX1_fittingBehind_36 : decode cX1_fittingBehind 36 = .ok (.iinc 3 1, 3) := by decide +kernel
theorem dX1_fittingBehind_39 : decode cX1_fittingBehind 39 = .ok (.goto (-35), 3) := by decide +kernel
theorem dX1_fittingBehind_42 : decode cX1_fittingBehind 42 = .ok (.iload_n 2, 1) := by decide +kernel
theorem dX1_fittingBehind_43 : decode cX1_fittingBehind 43 = .ok (.ireturn, 1) := by decide +kernel
set_option maxRecDepth 20000 in
theorem ggX1_rhymeOf_X0_placeReadUpTo : GoodIn wsX1_rhymeOf wsX0_placeReadUpTo := goodIn_r _ [7, 8, 9, 10, 6, 11, 12, 13, 14, 15, 16, 17, 18, 19, 20, 21, 27, 28, 29, 30, 31, 32, 33, 34] (by decide +kernel) (by decide +kernel)
set_option maxRecDepth 20000 in
theorem gX1_rhymeOf_X0_placeReadUpTo : GoodIn wsX1_rhymeOf (wsV RX1 211 RX0 yX0_placeReadUpTo wsX0_placeReadUpTo) := goodIn_app (goodIn_of _ (by decide +kernel)) ggX1_rhymeOf_X0_placeReadUpTo
set_option maxRecDepth 20000 in
theorem ggX1_rhymeOf_X0_runeRead : GoodIn wsX1_rhymeOf wsX0_runeRead := goodIn_r _ [11, 12, 13, 14, 6, 15, 16, 17, 18, 19, 20, 21, 27, 28, 29, 30, 31, 32, 33, 34] (by decide +kernel) (by decide +kernel)
set_option maxRecDepth 20000 in
theorem gX1_rhymeOf_X0_runeRead : GoodIn wsX1_rhymeOf (wsV RX1 215 RX0 yX0_runeRead wsX0_runeRead) := goodIn_app (goodIn_of _ (by decide +kernel)) ggX1_rhymeOf_X0_runeRead
set_option maxRecDepth 20000 in
theorem ggX1_rhymeOf_X1_pairWorth : GoodIn wsX1_rhymeOf wsX1_pairWorth := goodIn_r _ [26] (by decide +kernel) (by decide +kernel)
set_option maxRecDepth 20000 in
theorem gX1_rhymeOf_X1_pairWorth : GoodIn wsX1_rhymeOf (va_wsS RX1 218 yX1_pairWorth wsX1_pairWorth) := goodIn_app (goodIn_of _ (by decide +kernel)) ggX1_rhymeOf_X1_pairWorth
theorem dX1_rhymeOf_0 : decode cX1_rhymeOf 0 = .ok (.iconst 0, 1) := by decide +kernel
theorem dX1_rhymeOf_1 : decode cX1_rhymeOf 1 = .ok (.istore 4, 2) := by decide +kernel
theorem dX1_rhymeOf_3 : decode cX1_rhymeOf 3 = .ok (.aload_n 0, 1) := by decide +kernel
theorem dX1_rhymeOf_4 : decode cX1_rhymeOf 4 = .ok (.iload_n 1, 1) := by decide +kernel
theorem dX1_rhymeOf_5 : decode cX1_rhymeOf 5 = .ok (.iload_n 3, 1) := by decide +kernel
theorem dX1_rhymeOf_6 : decode cX1_rhymeOf 6 = .ok (.aload_n 0, 1) := by decide +kernel
theorem dX1_rhymeOf_7 : decode cX1_rhymeOf 7 = .ok (.getfield 98, 3) := by decide +kernel
theorem dX1_rhymeOf_10 : decode cX1_rhymeOf 10 = .ok (.iconst 1, 1) := by decide +kernel
theorem dX1_rhymeOf_11 : decode cX1_rhymeOf 11 = .ok (.isub, 1) := by decide +kernel
theorem dX1_rhymeOf_12 : decode cX1_rhymeOf 12 = .ok (.invokevirtual 211, 3) := by decide +kernel
theorem dX1_rhymeOf_15 : decode cX1_rhymeOf 15 = .ok (.istore 5, 2) := by decide +kernel
theorem dX1_rhymeOf_17 : decode cX1_rhymeOf 17 = .ok (.aload_n 2, 1) := by decide +kernel
theorem dX1_rhymeOf_18 : decode cX1_rhymeOf 18 = .ok (.aload_n 2, 1) := by decide +kernel
theorem dX1_rhymeOf_19 : decode cX1_rhymeOf 19 = .ok (.getfield 75, 3) := by decide +kernel
theorem dX1_rhymeOf_22 : decode cX1_rhymeOf 22 = .ok (.iload_n 3, 1) := by decide +kernel
theorem dX1_rhymeOf_23 : decode cX1_rhymeOf 23 = .ok (.aload_n 2, 1) := by decide +kernel
theorem dX1_rhymeOf_24 : decode cX1_rhymeOf 24 = .ok (.getfield 98, 3) := by decide +kernel
theorem dX1_rhymeOf_27 : decode cX1_rhymeOf 27 = .ok (.iconst 1, 1) := by decide +kernel
theorem dX1_rhymeOf_28 : decode cX1_rhymeOf 28 = .ok (.isub, 1) := by decide +kernel
theorem dX1_rhymeOf_29 : decode cX1_rhymeOf 29 = .ok (.invokevirtual 211, 3) := by decide +kernel
theorem dX1_rhymeOf_32 : decode cX1_rhymeOf 32 = .ok (.istore 6, 2) := by decide +kernel
theorem dX1_rhymeOf_34 : decode cX1_rhymeOf 34 = .ok (.iconst 0, 1) := by decide +kernel
theorem dX1_rhymeOf_35 : decode cX1_rhymeOf 35 = .ok (.istore 7, 2) := by decide +kernel
theorem dX1_rhymeOf_37 : decode cX1_rhymeOf 37 = .ok (.iload 7, 2) := by decide +kernel
theorem dX1_rhymeOf_39 : decode cX1_rhymeOf 39 = .ok (.bipush 12, 2) := by decide +kernel
theorem dX1_rhymeOf_41 : decode cX1_rhymeOf 41 = .ok (.if_icmp .ge 87, 3) := by decide +kernel
theorem dX1_rhymeOf_44 : decode cX1_rhymeOf 44 = .ok (.iload 5, 2) := by decide +kernel
theorem dX1_rhymeOf_46 : decode cX1_rhymeOf 46 = .ok (.iconst (-1), 1) := by decide +kernel
theorem dX1_rhymeOf_47 : decode cX1_rhymeOf 47 = .ok (.if_icmp .eq 81, 3) := by decide +kernel
theorem dX1_rhymeOf_50 : decode cX1_rhymeOf 50 = .ok (.iload 6, 2) := by decide +kernel
theorem dX1_rhymeOf_52 : decode cX1_rhymeOf 52 = .ok (.iconst (-1), 1) := by decide +kernel
theorem dX1_rhymeOf_53 : decode cX1_rhymeOf 53 = .ok (.if_icmp .eq 75, 3) := by decide +kernel
theorem dX1_rhymeOf_56 : decode cX1_rhymeOf 56 = .ok (.aload_n 0, 1) := by decide +kernel
theorem dX1_rhymeOf_57 : decode cX1_rhymeOf 57 = .ok (.iload_n 1, 1) := by decide +kernel
theorem dX1_rhymeOf_58 : decode cX1_rhymeOf 58 = .ok (.iload_n 3, 1) := by decide +kernel
theorem dX1_rhymeOf_59 : decode cX1_rhymeOf 59 = .ok (.iload 5, 2) := by decide +kernel
theorem dX1_rhymeOf_61 : decode cX1_rhymeOf 61 = .ok (.invokevirtual 215, 3) := by decide +kernel
theorem dX1_rhymeOf_64 : decode cX1_rhymeOf 64 = .ok (.aload_n 2, 1) := by decide +kernel
theorem dX1_rhymeOf_65 : decode cX1_rhymeOf 65 = .ok (.aload_n 2, 1) := by decide +kernel
theorem dX1_rhymeOf_66 : decode cX1_rhymeOf 66 = .ok (.getfield 75, 3) := by decide +kernel
theorem dX1_rhymeOf_69 : decode cX1_rhymeOf 69 = .ok (.iload_n 3, 1) := by decide +kernel
theorem dX1_rhymeOf_70 : decode cX1_rhymeOf 70 = .ok (.iload 6, 2) := by decide +kernel
theorem dX1_rhymeOf_72 : decode cX1_rhymeOf 72 = .ok (.invokevirtual 215, 3) := by decide +kernel
theorem dX1_rhymeOf_75 : decode cX1_rhymeOf 75 = .ok (.invokestatic 218, 3) := by decide +kernel
theorem dX1_rhymeOf_78 : decode cX1_rhymeOf 78 = .ok (.istore 8, 2) := by decide +kernel
theorem dX1_rhymeOf_80 : decode cX1_rhymeOf 80 = .ok (.iload 8, 2) := by decide +kernel
theorem dX1_rhymeOf_82 : decode cX1_rhymeOf 82 = .ok (.ifCond .ne 6, 3) := by decide +kernel
theorem dX1_rhymeOf_85 : decode cX1_rhymeOf 85 = .ok (.iload 4, 2) := by decide +kernel
theorem dX1_rhymeOf_87 : decode cX1_rhymeOf 87 = .ok (.ireturn, 1) := by decide +kernel
theorem dX1_rhymeOf_88 : decode cX1_rhymeOf 88 = .ok (.iload 4, 2) := by decide +kernel
theorem dX1_rhymeOf_90 : decode cX1_rhymeOf 90 = .ok (.iload 8, 2) := by decide +kernel
theorem dX1_rhymeOf_92 : decode cX1_rhymeOf 92 = .ok (.iadd, 1) := by decide +kernel
theorem dX1_rhymeOf_93 : decode cX1_rhymeOf 93 = .ok (.istore 4, 2) := by decide +kernel
theorem dX1_rhymeOf_95 : decode cX1_rhymeOf 95 = .ok (.aload_n 0, 1) := by decide +kernel
theorem dX1_rhymeOf_96 : decode cX1_rhymeOf 96 = .ok (.iload_n 1, 1) := by decide +kernel
theorem dX1_rhymeOf_97 : decode cX1_rhymeOf 97 = .ok (.iload_n 3, 1) := by decide +kernel
theorem dX1_rhymeOf_98 : decode cX1_rhymeOf 98 = .ok (.iload 5, 2) := by decide +kernel
theorem dX1_rhymeOf_100 : decode cX1_rhymeOf 100 = .ok (.iconst 1, 1) := by decide +kernel
theorem dX1_rhymeOf_101 : decode cX1_rhymeOf 101 = .ok (.isub, 1) := by decide +kernel
theorem dX1_rhymeOf_102 : decode cX1_rhymeOf 102 = .ok (.invokevirtual 211, 3) := by decide +kernel
theorem dX1_rhymeOf_105 : decode cX1_rhymeOf 105 = .ok (.istore 5, 2) := by decide +kernel
theorem dX1_rhymeOf_107 : decode cX1_rhymeOf 107 = .ok (.aload_n 2, 1) := by decide +kernel
theorem dX1_rhymeOf_108 : decode cX1_rhymeOf 108 = .ok (.aload_n 2, 1) := by decide +kernel
theorem dX1_rhymeOf_109 : decode cX1_rhymeOf 109 = .ok (.getfield 75, 3) := by decide +kernel
theorem dX1_rhymeOf_112 : decode cX1_rhymeOf 112 = .ok (.iload_n 3, 1) := by decide +kernel
theorem dX1_rhymeOf_113 : decode cX1_rhymeOf 113 = .ok (.iload 6, 2) := by decide +kernel
theorem dX1_rhymeOf_115 : decode cX1_rhymeOf 115 = .ok (.iconst 1, 1) := by decide +kernel
theorem dX1_rhymeOf_116 : decode cX1_rhymeOf 116 = .ok (.isub, 1) := by decide +kernel
theorem dX1_rhymeOf_117 : decode cX1_rhymeOf 117 = .ok (.invokevirtual 211, 3) := by decide +kernel
theorem dX1_rhymeOf_120 : decode cX1_rhymeOf 120 = .ok (.istore 6, 2) := by decide +kernel
theorem dX1_rhymeOf_122 : decode cX1_rhymeOf 122 = .ok (.iinc 7 1, 3) := by decide +kernel
theorem dX1_rhymeOf_125 : decode cX1_rhymeOf 125 = .ok (.goto (-88), 3) := by decide +kernel
theorem dX1_rhymeOf_128 : decode cX1_rhymeOf 128 = .ok (.iload 4, 2) := by decide +kernel
theorem dX1_rhymeOf_130 : decode cX1_rhymeOf 130 = .ok (.ireturn, 1) := by decide +kernel
theorem dX1_pairWorth_0 : decode cX1_pairWorth 0 = .ok (.iload_n 0, 1) := by decide +kernel
theorem dX1_pairWorth_1 : decode cX1_pairWorth 1 = .ok (.iload_n 1, 1) := by decide +kernel
theorem dX1_pairWorth_2 : decode cX1_pairWorth 2 = .ok (.if_icmp .ne 5, 3) := by decide +kernel
theorem dX1_pairWorth_5 : decode cX1_pairWorth 5 = .ok (.iconst 2, 1) := by decide +kernel
theorem dX1_pairWorth_6 : decode cX1_pairWorth 6 = .ok (.ireturn, 1) := by decide +kernel
theorem dX1_pairWorth_7 : decode cX1_pairWorth 7 = .ok (.iload_n 0, 1) := by decide +kernel
theorem dX1_pairWorth_8 : decode cX1_pairWorth 8 = .ok (.bipush 8, 2) := by decide +kernel
theorem dX1_pairWorth_10 : decode cX1_pairWorth 10 = .ok (.idiv, 1) := by decide +kernel
theorem dX1_pairWorth_11 : decode cX1_pairWorth 11 = .ok (.iload_n 1, 1) := by decide +kernel
theorem dX1_pairWorth_12 : decode cX1_pairWorth 12 = .ok (.bipush 8, 2) := by decide +kernel
theorem dX1_pairWorth_14 : decode cX1_pairWorth 14 = .ok (.idiv, 1) := by decide +kernel
theorem dX1_pairWorth_15 : decode cX1_pairWorth 15 = .ok (.if_icmp .ne 7, 3) := by decide +kernel
theorem dX1_pairWorth_18 : decode cX1_pairWorth 18 = .ok (.iconst 1, 1) := by decide +kernel
theorem dX1_pairWorth_19 : decode cX1_pairWorth 19 = .ok (.goto 4, 3) := by decide +kernel
theorem dX1_pairWorth_22 : decode cX1_pairWorth 22 = .ok (.iconst 0, 1) := by decide +kernel
theorem dX1_pairWorth_23 : decode cX1_pairWorth 23 = .ok (.ireturn, 1) := by decide +kernel
