theorem dX2_init_0 : decode cX2_init 0 = .ok (.aload_n 0, 1) := by decide +kernel
theorem dX2_init_1 : decode cX2_init 1 = .ok (.invokespecial 1, 3) := by decide +kernel
theorem dX2_init_4 : decode cX2_init 4 = .ok (.aload_n 0, 1) := by decide +kernel
theorem dX2_init_5 : decode cX2_init 5 = .ok (.bipush 40, 2) := by decide +kernel
theorem dX2_init_7 : decode cX2_init 7 = .ok (.newarray .int, 2) := by decide +kernel
theorem dX2_init_9 : decode cX2_init 9 = .ok (.putfield 9, 3) := by decide +kernel
theorem dX2_init_12 : decode cX2_init 12 = .ok (.aload_n 0, 1) := by decide +kernel
theorem dX2_init_13 : decode cX2_init 13 = .ok (.bipush 40, 2) := by decide +kernel
theorem dX2_init_15 : decode cX2_init 15 = .ok (.newarray .int, 2) := by decide +kernel
theorem dX2_init_17 : decode cX2_init 17 = .ok (.putfield 13, 3) := by decide +kernel
theorem dX2_init_20 : decode cX2_init 20 = .ok (.aload_n 0, 1) := by decide +kernel
theorem dX2_init_21 : decode cX2_init 21 = .ok (.bipush 40, 2) := by decide +kernel
theorem dX2_init_23 : decode cX2_init 23 = .ok (.newarray .int, 2) := by decide +kernel
theorem dX2_init_25 : decode cX2_init 25 = .ok (.putfield 16, 3) := by decide +kernel
theorem dX2_init_28 : decode cX2_init 28 = .ok (.aload_n 0, 1) := by decide +kernel
theorem dX2_init_29 : decode cX2_init 29 = .ok (.bipush 40, 2) := by decide +kernel
theorem dX2_init_31 : decode cX2_init 31 = .ok (.newarray .int, 2) := by decide +kernel
theorem dX2_init_33 : decode cX2_init 33 = .ok (.putfield 19, 3) := by decide +kernel
theorem dX2_init_36 : decode cX2_init 36 = .ok (.aload_n 0, 1) := by decide +kernel
theorem dX2_init_37 : decode cX2_init 37 = .ok (.bipush 40, 2) := by decide +kernel
theorem dX2_init_39 : decode cX2_init 39 = .ok (.newarray .int, 2) := by decide +kernel
theorem dX2_init_41 : decode cX2_init 41 = .ok (.putfield 22, 3) := by decide +kernel
theorem dX2_init_44 : decode cX2_init 44 = .ok (.aload_n 0, 1) := by decide +kernel
theorem dX2_init_45 : decode cX2_init 45 = .ok (.sipush 1440, 3) := by decide +kernel
theorem dX2_init_48 : decode cX2_init 48 = .ok (.newarray .int, 2) := by decide +kernel
theorem dX2_init_50 : decode cX2_init 50 = .ok (.putfield 25, 3) := by decide +kernel
theorem dX2_init_53 : decode cX2_init 53 = .ok (.aload_n 0, 1) := by decide +kernel
theorem dX2_init_54 : decode cX2_init 54 = .ok (.sipush 480, 3) := by decide +kernel
theorem dX2_init_57 : decode cX2_init 57 = .ok (.newarray .int, 2) := by decide +kernel
theorem dX2_init_59 : decode cX2_init 59 = .ok (.putfield 28, 3) := by decide +kernel
theorem dX2_init_62 : decode cX2_init 62 = .ok (.aload_n 0, 1) := by decide +kernel
theorem dX2_init_63 : decode cX2_init 63 = .ok (.sipush 480, 3) := by decide +kernel
theorem dX2_init_66 : decode cX2_init 66 = .ok (.newarray .int, 2) := by decide +kernel
theorem dX2_init_68 : decode cX2_init 68 = .ok (.putfield 31, 3) := by decide +kernel
theorem dX2_init_71 : decode cX2_init 71 = .ok (.aload_n 0, 1) := by decide +kernel
theorem dX2_init_72 : decode cX2_init 72 = .ok (.bipush 12, 2) := by decide +kernel
theorem dX2_init_74 : decode cX2_init 74 = .ok (.newarray .int, 2) := by decide +kernel
theorem dX2_init_76 : decode cX2_init 76 = .ok (.putfield 34, 3) := by decide +kernel
theorem dX2_init_79 : decode cX2_init 79 = .ok (.aload_n 0, 1) := by decide +kernel
theorem dX2_init_80 : decode cX2_init 80 = .ok (.bipush 12, 2) := by decide +kernel
theorem dX2_init_82 : decode cX2_init 82 = .ok (.newarray .int, 2) := by decide +kernel
theorem dX2_init_84 : decode cX2_init 84 = .ok (.putfield 37, 3) := by decide +kernel
theorem dX2_init_87 : decode cX2_init 87 = .ok (.return_, 1) := by decide +kernel
theorem dX2_thrown_0 : decode cX2_thrown 0 = .ok (.aload_n 0, 1) := by decide +kernel
theorem dX2_thrown_1 : decode cX2_thrown 1 = .ok (.getfield 40, 3) := by decide +kernel
theorem dX2_thrown_4 : decode cX2_thrown 4 = .ok (.ireturn, 1) := by decide +kernel
theorem dX2_no_0 : decode cX2_no 0 = .ok (.aload_n 0, 1) := by decide +kernel
theorem dX2_no_1 : decode cX2_no 1 = .ok (.iload_n 1, 1) := by decide +kernel
theorem dX2_no_2 : decode cX2_no 2 = .ok (.putfield 40, 3) := by decide +kernel
theorem dX2_no_5 : decode cX2_no 5 = .ok (.iconst 0, 1) := by decide +kernel
theorem dX2_no_6 : decode cX2_no 6 = .ok (.ireturn, 1) := by decide +kernel
theorem dX2_isIn_0 : decode cX2_isIn 0 = .ok (.iload_n 0, 1) := by decide +kernel
theorem dX2_isIn_1 : decode cX2_isIn 1 = .ok (.iload_n 1, 1) := by decide +kernel
theorem dX2_isIn_2 : decode cX2_isIn 2 = .ok (.if_icmp .lt 12, 3) := by decide +kernel
theorem dX2_isIn_5 : decode cX2_isIn 5 = .ok (.iload_n 0, 1) := by decide +kernel
theorem dX2_isIn_6 : decode cX2_isIn 6 = .ok (.iload_n 2, 1) := by decide +kernel
theorem dX2_isIn_7 : decode cX2_isIn 7 = .ok (.if_icmp .gt 7, 3) := by decide +kernel
theorem dX2_isIn_10 : decode cX2_isIn 10 = .ok (.iconst 1, 1) := by decide +kernel
theorem dX2_isIn_11 : decode cX2_isIn 11 = .ok (.goto 4, 3) := by decide +kernel
theorem dX2_isIn_14 : decode cX2_isIn 14 = .ok (.iconst 0, 1) := by decide +kernel
theorem dX2_isIn_15 : decode cX2_isIn 15 = .ok (.ireturn, 1) := by decide +kernel
set_option maxRecDepth 20000 in
theorem ggX2_isStick_X2_isIn : GoodIn wsX2_isStick wsX2_isIn := goodIn_r _ [5] (by decide +kernel) (by decide +kernel)
set_option maxRecDepth 20000 in
theorem gX2_isStick_X2_isIn : GoodIn wsX2_isStick (va_wsS RX2 47 yX2_isIn wsX2_isIn) := goodIn_app (goodIn_of _ (by decide +kernel)) ggX2_isStick_X2_isIn
theorem dX2_isStick_0 : decode cX2_isStick 0 = .ok (.iload_n 1, 1) := by decide +kernel
theorem dX2_isStick_1 : decode cX2_isStick 1 = .ok (.iconst 0, 1) := by decide +kernel
theorem dX2_isStick_2 : decode cX2_isStick 2 = .ok (.aload_n 0, 1) := by decide +kernel
theorem dX2_isStick_3 : decode cX2_isStick 3 = .ok (.getfield 44, 3) := by decide +kernel
theorem dX2_isStick_6 : decode cX2_isStick 6 = .ok (.iconst 1, 1) := by decide +kernel
theorem dX2_isStick_7 : decode cX2_isStick 7 = .ok (.isub, 1) := by decide +kernel
theorem dX2_isStick_8 : decode cX2_isStick 8 = .ok (.invokestatic 47, 3) := by decide +kernel
theorem dX2_isStick_11 : decode cX2_isStick 11 = .ok (.ireturn, 1) := by decide +kernel
set_option maxRecDepth 20000 in
theorem ggX2_isSide_X2_isIn : GoodIn wsX2_isSide wsX2_isIn := goodIn_r _ [4] (by decide +kernel) (by decide +kernel)
set_option maxRecDepth 20000 in
theorem gX2_isSide_X2_isIn : GoodIn wsX2_isSide (va_wsS RX2 47 yX2_isIn wsX2_isIn) := goodIn_app (goodIn_of _ (by decide +kernel)) ggX2_isSide_X2_isIn
theorem dX2_isSide_0 : decode cX2_isSide 0 = .ok (.iload_n 0, 1) := by decide +kernel
theorem dX2_isSide_1 : decode cX2_isSide 1 = .ok (.iconst 0, 1) := by decide +kernel
theorem dX2_isSide_2 : decode cX2_isSide 2 = .ok (.iconst 2, 1) := by decide +kernel
theorem dX2_isSide_3 : decode cX2_isSide 3 = .ok (.invokestatic 47, 3) := by decide +kernel
theorem dX2_isSide_6 : decode cX2_isSide 6 = .ok (.ireturn, 1) := by decide +kernel
set_option maxRecDepth 20000 in
theorem ggX2_isRune_X2_isIn : GoodIn wsX2_isRune wsX2_isIn := goodIn_r _ [4] (by decide +kernel) (by decide +kernel)
set_option maxRecDepth 20000 in
theorem gX2_isRune_X2_isIn : GoodIn wsX2_isRune (va_wsS RX2 47 yX2_isIn wsX2_isIn) := goodIn_app (goodIn_of _ (by decide +kernel)) ggX2_isRune_X2_isIn
theorem dX2_isRune_0 : decode cX2_isRune 0 = .ok (.iload_n 0, 1) := by decide +kernel
theorem dX2_isRune_1 : decode cX2_isRune 1 = .ok (.iconst 0, 1) := by decide +kernel
theorem dX2_isRune_2 : decode cX2_isRune 2 = .ok (.bipush 23, 2) := by decide +kernel
theorem dX2_isRune_4 : decode cX2_isRune 4 = .ok (.invokestatic 47, 3) := by decide +kernel
theorem dX2_isRune_7 : decode cX2_isRune 7 = .ok (.ireturn, 1) := by decide +kernel
theorem dX2_spot_0 : decode cX2_spot 0 = .ok (.iconst 3, 1) := by decide +kernel
theorem dX2_spot_1 : decode cX2_spot 1 = .ok (.bipush 12, 2) := by decide +kernel
theorem dX2_spot_3 : decode cX2_spot 3 = .ok (.iload_n 0, 1) := by decide +kernel
theorem dX2_spot_4 : decode cX2_spot 4 = .ok (.imul, 1) := by decide +kernel
theorem dX2_spot_5 : decode cX2_spot 5 = .ok (.iload_n 1, 1) := by decide +kernel
theorem dX2_spot_6 : decode cX2_spot 6 = .ok (.iadd, 1) := by decide +kernel
theorem dX2_spot_7 : decode cX2_spot 7 = .ok (.imul, 1) := by decide +kernel
theorem dX2_spot_8 : decode cX2_spot 8 = .ok (.iload_n 2, 1) := by decide +kernel
theorem dX2_spot_9 : decode cX2_spot 9 = .ok (.iadd, 1) := by decide +kernel
theorem dX2_spot_10 : decode cX2_spot 10 = .ok (.ireturn, 1) := by decide +kernel
set_option maxRecDepth 20000 in
theorem ggX2_isSpot_X2_isStick : GoodIn wsX2_isSpot wsX2_isStick := goodIn_r _ [6, 7, 8, 9, 5, 10, 14, 15, 16, 17, 18, 19, 20, 21, 22, 23, 24, 25, 26] (by decide +kernel) (by decide +kernel)
set_option maxRecDepth 20000 in
theorem gX2_isSpot_X2_isStick : GoodIn wsX2_isSpot (wsV RX2 51 RX2 yX2_isStick wsX2_isStick) := goodIn_app (goodIn_of _ (by decide +kernel)) ggX2_isSpot_X2_isStick
set_option maxRecDepth 20000 in
theorem ggX2_isSpot_X2_isSide : GoodIn wsX2_isSpot wsX2_isSide := goodIn_r _ [13, 8, 9, 5, 10] (by decide +kernel) (by decide +kernel)
set_option maxRecDepth 20000 in
theorem gX2_isSpot_X2_isSide : GoodIn wsX2_isSpot (va_wsS RX2 55 yX2_isSide wsX2_isSide) := goodIn_app (goodIn_of _ (by decide +kernel)) ggX2_isSpot_X2_isSide
set_option maxRecDepth 20000 in
theorem ggX2_isSpot_X2_isIn : GoodIn wsX2_isSpot wsX2_isIn := goodIn_r _ [10] (by decide +kernel) (by decide +kernel)
set_option maxRecDepth 20000 in
theorem gX2_isSpot_X2_isIn : GoodIn wsX2_isSpot (va_wsS RX2 47 yX2_isIn wsX2_isIn) := goodIn_app (goodIn_of _ (by decide +kernel)) ggX2_isSpot_X2_isIn
theorem dX2_isSpot_0 : decode cX2_isSpot 0 = .ok (.aload_n 0, 1) := by decide +kernel
theorem dX2_isSpot_1 : decode cX2_isSpot 1 = .ok (.iload_n 1, 1) := by decide +kernel
theorem dX2_isSpot_2 : decode cX2_isSpot 2 = .ok (.invokevirtual 51, 3) := by decide +kernel
theorem dX2_isSpot_5 : decode cX2_isSpot 5 = .ok (.ifCond .eq 30, 3) := by decide +kernel
theorem dX2_isSpot_8 : decode cX2_isSpot 8 = .ok (.iload_n 2, 1) := by decide +kernel
theorem dX2_isSpot_9 : decode cX2_isSpot 9 = .ok (.invokestatic 55, 3) := by decide +kernel
theorem dX2_isSpot_12 : decode cX2_isSpot 12 = .ok (.ifCond .eq 23, 3) := by decide +kernel
theorem dX2_isSpot_15 : decode cX2_isSpot 15 = .ok (.iload_n 3, 1) := by decide +kernel
theorem dX2_isSpot_16 : decode cX2_isSpot 16 = .ok (.iconst 0, 1) := by decide +kernel
theorem dX2_isSpot_17 : decode cX2_isSpot 17 = .ok (.aload_n 0, 1) := by decide +kernel
theorem dX2_isSpot_18 : decode cX2_isSpot 18 = .ok (.getfield 9, 3) := by decide +kernel
theorem dX2_isSpot_21 : decode cX2_isSpot 21 = .ok (.iload_n 1, 1) := by decide +kernel
theorem dX2_isSpot_22 : decode cX2_isSpot 22 = .ok (.iaload, 1) := by decide +kernel
theorem dX2_isSpot_23 : decode cX2_isSpot 23 = .ok (.iconst 1, 1) := by decide +kernel
theorem dX2_isSpot_24 : decode cX2_isSpot 24 = .ok (.isub, 1) := by decide +kernel
theorem dX2_isSpot_25 : decode cX2_isSpot 25 = .ok (.invokestatic 47, 3) := by decide +kernel
theorem dX2_isSpot_28 : decode cX2_isSpot 28 = .ok (.ifCond .eq 7, 3) := by decide +kernel
theorem dX2_isSpot_31 : decode cX2_isSpot 31 = .ok (.iconst 1, 1) := by decide +kernel
theorem dX2_isSpot_32 : decode cX2_isSpot 32 = .ok (.goto 4, 3) := by decide +kernel
theorem dX2_isSpot_35 : decode cX2_isSpot 35 = .ok (.iconst 0, 1) := by decide +kernel
theorem dX2_isSpot_36 : decode cX2_isSpot 36 = .ok (.ireturn, 1) := by decide +kernel
theorem dX2_there_0 : decode cX2_there 0 = .ok (.iconst 0, 1) := by decide +kernel
theorem dX2_there_1 : decode cX2_there 1 = .ok (.istore_n 1, 1) := by decide +kernel
theorem dX2_there_2 : decode cX2_there 2 = .ok (.iconst 0, 1) := by decide +kernel
theorem dX2_there_3 : decode cX2_there 3 = .ok (.istore_n 2, 1) := by decide +kernel
theorem dX2_there_4 : decode cX2_there 4 = .ok (.iload_n 2, 1) := by decide +kernel
theorem dX2_there_5 : decode cX2_there 5 = .ok (.aload_n 0, 1) := by decide +kernel
theorem dX2_there_6 : decode cX2_there 6 = .ok (.getfield 44, 3) := by decide +kernel
theorem dX2_there_9 : decode cX2_there 9 = .ok (.if_icmp .ge 20, 3) := by decide +kernel
theorem dX2_there_12 : decode cX2_there 12 = .ok (.iload_n 1, 1) := by decide +kernel
theorem dX2_there_13 : decode cX2_there 13 = .ok (.iconst 1, 1) := by decide +kernel
theorem dX2_there_14 : decode cX2_there 14 = .ok (.aload_n 0, 1) := by decide +kernel
theorem dX2_there_15 : decode cX2_there 15 = .ok (.getfield 16, 3) := by decide +kernel
theorem dX2_there_18 : decode cX2_there 18 = .ok (.iload_n 2, 1) := by decide +kernel
theorem dX2_there_19 : decode cX2_there 19 = .ok (.iaload, 1) := by decide +kernel
theorem dX2_there_20 : decode cX2_there 20 = .ok (.isub, 1) := by decide +kernel
theorem dX2_there_21 : decode cX2_there 21 = .ok (.iadd, 1) := by decide +kernel
theorem dX2_there_22 : decode cX2_there 22 = .ok (.istore_n 1, 1) := by decide +kernel
theorem dX2_there_23 : decode cX2_there 23 = .ok (.iinc 2 1, 3) := by decide +kernel
theorem dX2_there_26 : decode cX2_there 26 = .ok (.goto (-22), 3) := by decide +kernel
theorem dX2_there_29 : decode cX2_there 29 = .ok (.iload_n 1, 1) := by decide +kernel
theorem dX2_there_30 : decode cX2_there 30 = .ok (.ireturn, 1) := by decide +kernel
theorem dX2_add_0 : decode cX2_add 0 = .ok (.aload_n 0, 1) := by decide +kernel
theorem dX2_add_1 : decode cX2_add 1 = .ok (.getfield 9, 3) := by decide +kernel
theorem dX2_add_4 : decode cX2_add 4 = .ok (.aload_n 0, 1) := by decide +kernel
theorem dX2_add_5 : decode cX2_add 5 = .ok (.getfield 44, 3) := by decide +kernel
theorem dX2_add_8 : decode cX2_add 8 = .ok (.iload_n 1, 1) := by decide +kernel
theorem dX2_add_9 : decode cX2_add 9 = .ok (.iastore, 1) := by decide +kernel
theorem dX2_add_10 : decode cX2_add 10 = .ok (.aload_n 0, 1) := by decide +kernel
theorem dX2_add_11 : decode cX2_add 11 = .ok (.getfield 13, 3) := by decide +kernel
theorem dX2_add_14 : decode cX2_add 14 = .ok (.aload_n 0, 1) := by decide +kernel
theorem dX2_add_15 : decode cX2_add 15 = .ok (.getfield 44, 3) := by decide +kernel
theorem dX2_add_18 : decode cX2_add 18 = .ok (.iload_n 2, 1) := by decide +kernel
theorem dX2_add_19 : decode cX2_add 19 = .ok (.iastore, 1) := by decide +kernel
theorem dX2_add_20 : decode cX2_add 20 = .ok (.aload_n 0, 1) := by decide +kernel
theorem dX2_add_21 : decode cX2_add 21 = .ok (.getfield 19, 3) := by decide +kernel
theorem dX2_add_24 : decode cX2_add 24 = .ok (.aload_n 0, 1) := by decide +kernel
theorem dX2_add_25 : decode cX2_add 25 = .ok (.getfield 44, 3) := by decide +kernel
theorem dX2_add_28 : decode cX2_add 28 = .ok (.iload_n 3, 1) := by decide +kernel
theorem dX2_add_29 : decode cX2_add 29 = .ok (.iastore, 1) := by decide +kernel
theorem dX2_add_30 : decode cX2_add 30 = .ok (.aload_n 0, 1) := by decide +kernel
theorem dX2_add_31 : decode cX2_add 31 = .ok (.getfield 22, 3) := by decide +kernel
theorem dX2_add_34 : decode cX2_add 34 = .ok (.aload_n 0, 1) := by decide +kernel
theorem dX2_add_35 : decode cX2_add 35 = .ok (.getfield 44, 3) := by decide +kernel
theorem dX2_add_38 : decode cX2_add 38 = .ok (.iload 4, 2) := by decide +kernel
theorem dX2_add_40 : decode cX2_add 40 = .ok (.iastore, 1) := by decide +kernel
theorem dX2_add_41 : decode cX2_add 41 = .ok (.iconst 0, 1) := by decide +kernel
theorem dX2_add_42 : decode cX2_add 42 = .ok (.istore 5, 2) := by decide +kernel
theorem dX2_add_44 : decode cX2_add 44 = .ok (.iload 5, 2) := by decide +kernel
theorem dX2_add_46 : decode cX2_add 46 = .ok (.bipush 12, 2) := by decide +kernel
theorem dX2_add_48 : decode cX2_add 48 = .ok (.if_icmp .ge 42, 3) := by decide +kernel
theorem dX2_add_51 : decode cX2_add 51 = .ok (.aload_n 0, 1) := by decide +kernel
theorem dX2_add_52 : decode cX2_add 52 = .ok (.getfield 28, 3) := by decide +kernel
theorem dX2_add_55 : decode cX2_add 55 = .ok (.bipush 12, 2) := by decide +kernel
theorem dX2_add_57 : decode cX2_add 57 = .ok (.aload_n 0, 1) := by decide +kernel
theorem dX2_add_58 : decode cX2_add 58 = .ok (.getfield 44, 3) := by decide +kernel
theorem dX2_add_61 : decode cX2_add 61 = .ok (.imul, 1) := by decide +kernel
theorem dX2_add_62 : decode cX2_add 62 = .ok (.iload 5, 2) := by decide +kernel
theorem dX2_add_64 : decode cX2_add 64 = .ok (.iadd, 1) := by decide +kernel
theorem dX2_add_65 : decode cX2_add 65 = .ok (.bipush 12, 2) := by decide +kernel
theorem dX2_add_67 : decode cX2_add 67 = .ok (.iastore, 1) := by decide +kernel
theorem dX2_add_68 : decode cX2_add 68 = .ok (.aload_n 0, 1) := by decide +kernel
theorem dX2_add_69 : decode cX2_add 69 = .ok (.getfield 31, 3) := by decide +kernel
theorem dX2_add_72 : decode cX2_add 72 = .ok (.bipush 12, 2) := by decide +kernel
theorem dX2_add_74 : decode cX2_add 74 = .ok (.aload_n 0, 1) := by decide +kernel
theorem dX2_add_75 : decode cX2_add 75 = .ok (.getfield 44, 3) := by decide +kernel
theorem dX2_add_78 : decode cX2_add 78 = .ok (.imul, 1) := by decide +kernel
theorem dX2_add_79 : decode cX2_add 79 = .ok (.iload 5, 2) := by decide +kernel
theorem dX2_add_81 : decode cX2_add 81 = .ok (.iadd, 1) := by decide +kernel
theorem dX2_add_82 : decode cX2_add 82 = .ok (.iconst 0, 1) := by decide +kernel
theorem dX2_add_83 : decode cX2_add 83 = .ok (.iastore, 1) := by decide +kernel
theorem dX2_add_84 : decode cX2_add 84 = .ok (.iinc 5 1, 3) := by decide +kernel
theorem dX2_add_87 : decode cX2_add 87 = .ok (.goto (-43), 3) := by decide +kernel
theorem dX2_add_90 : decode cX2_add 90 = .ok (.aload_n 0, 1) := by decide +kernel
theorem dX2_add_91 : decode cX2_add 91 = .ok (.dup, 1) := by decide +kernel
theorem dX2_add_92 : decode cX2_add 92 = .ok (.getfield 44, 3) := by decide +kernel
theorem dX2_add_95 : decode cX2_add 95 = .ok (.iconst 1, 1) := by decide +kernel
theorem dX2_add_96 : decode cX2_add 96 = .ok (.iadd, 1) := by decide +kernel
theorem dX2_add_97 : decode cX2_add 97 = .ok (.putfield 44, 3) := by decide +kernel
theorem dX2_add_100 : decode cX2_add 100 = .ok (.aload_n 0, 1) := by decide +kernel
theorem dX2_add_101 : decode cX2_add 101 = .ok (.getfield 44, 3) := by decide +kernel
theorem dX2_add_104 : decode cX2_add 104 = .ok (.iconst 1, 1) := by decide +kernel
theorem dX2_add_105 : decode cX2_add 105 = .ok (.isub, 1) := by decide +kernel
theorem dX2_add_106 : decode cX2_add 106 = .ok (.ireturn, 1) := by decide +kernel
set_option maxRecDepth 20000 in
theorem ggX2_make_X2_isIn : GoodIn wsX2_make wsX2_isIn := goodIn_r _ [6] (by decide +kernel) (by decide +kernel)
set_option maxRecDepth 20000 in
theorem gX2_make_X2_isIn : GoodIn wsX2_make (va_wsS RX2 47 yX2_isIn wsX2_isIn) := goodIn_app (goodIn_of _ (by decide +kernel)) ggX2_make_X2_isIn
set_option maxRecDepth 20000 in
theorem ggX2_make_X2_no : GoodIn wsX2_make wsX2_no := goodIn_r _ [10, 1, 26, 27, 28, 29, 30, 31, 32, 33, 34, 35, 36, 37, 38] (by decide +kernel) (by decide +kernel)
set_option maxRecDepth 20000 in
theorem gX2_make_X2_no : GoodIn wsX2_make (wsV RX2 58 RX2 yX2_no wsX2_no) := goodIn_app (goodIn_of _ (by decide +kernel)) ggX2_make_X2_no
set_option maxRecDepth 20000 in
theorem ggX2_make_X2_there : GoodIn wsX2_make wsX2_there := goodIn_r _ [14, 2, 15, 26, 27, 28, 29, 30, 31, 32, 33, 34, 35, 36, 37, 38] (by decide +kernel) (by decide +kernel)
set_option maxRecDepth 20000 in
theorem gX2_make_X2_there : GoodIn wsX2_make (wsV RX2 62 RX2 yX2_there wsX2_there) := goodIn_app (goodIn_of _ (by decide +kernel)) ggX2_make_X2_there
set_option maxRecDepth 20000 in
theorem ggX2_make_X2_add : GoodIn wsX2_make wsX2_add := goodIn_r _ [19, 20, 2, 21, 22, 23, 24, 25, 26, 27, 28, 29, 30, 31, 32, 33, 34, 35, 36, 37, 38] (by decide +kernel) (by decide +kernel)
set_option maxRecDepth 20000 in
theorem gX2_make_X2_add : GoodIn wsX2_make (wsV RX2 66 RX2 yX2_add wsX2_add) := goodIn_app (goodIn_of _ (by decide +kernel)) ggX2_make_X2_add
theorem dX2_make_0 : decode cX2_make 0 = .ok (.aload_n 0, 1) := by decide +kernel
theorem dX2_make_1 : decode cX2_make 1 = .ok (.iconst 0, 1) := by decide +kernel
theorem dX2_make_2 : decode cX2_make 2 = .ok (.putfield 40, 3) := by decide +kernel
theorem dX2_make_5 : decode cX2_make 5 = .ok (.iload_n 1, 1) := by decide +kernel
theorem dX2_make_6 : decode cX2_make 6 = .ok (.iconst 1, 1) := by decide +kernel
theorem dX2_make_7 : decode cX2_make 7 = .ok (.bipush 12, 2) := by decide +kernel
theorem dX2_make_9 : decode cX2_make 9 = .ok (.invokestatic 47, 3) := by decide +kernel
theorem dX2_make_12 : decode cX2_make 12 = .ok (.ifCond .ne 9, 3) := by decide +kernel
theorem dX2_make_15 : decode cX2_make 15 = .ok (.aload_n 0, 1) := by decide +kernel
theorem dX2_make_16 : decode cX2_make 16 = .ok (.iconst 1, 1) := by decide +kernel
theorem dX2_make_17 : decode cX2_make 17 = .ok (.invokevirtual 58, 3) := by decide +kernel
theorem dX2_make_20 : decode cX2_make 20 = .ok (.ireturn, 1) := by decide +kernel
theorem dX2_make_21 : decode cX2_make 21 = .ok (.aload_n 0, 1) := by decide +kernel
theorem dX2_make_22 : decode cX2_make 22 = .ok (.invokevirtual 62, 3) := by decide +kernel
theorem dX2_make_25 : decode cX2_make 25 = .ok (.bipush 12, 2) := by decide +kernel
theorem dX2_make_27 : decode cX2_make 27 = .ok (.if_icmp .eq 12, 3) := by decide +kernel
theorem dX2_make_30 : decode cX2_make 30 = .ok (.aload_n 0, 1) := by decide +kernel
theorem dX2_make_31 : decode cX2_make 31 = .ok (.getfield 44, 3) := by decide +kernel
theorem dX2_make_34 : decode cX2_make 34 = .ok (.bipush 40, 2) := by decide +kernel
theorem dX2_make_36 : decode cX2_make 36 = .ok (.if_icmp .ne 11, 3) := by decide +kernel
theorem dX2_make_39 : decode cX2_make 39 = .ok (.aload_n 0, 1) := by decide +kernel
theorem dX2_make_40 : decode cX2_make 40 = .ok (.iconst 2, 1) := by decide +kernel
theorem dX2_make_41 : decode cX2_make 41 = .ok (.invokevirtual 58, 3) := by decide +kernel
theorem dX2_make_44 : decode cX2_make 44 = .ok (.goto 11, 3) := by decide +kernel
theorem dX2_make_47 : decode cX2_make 47 = .ok (.aload_n 0, 1) := by decide +kernel
theorem dX2_make_48 : decode cX2_make 48 = .ok (.iload_n 1, 1) := by decide +kernel
theorem dX2_make_49 : decode cX2_make 49 = .ok (.iconst 0, 1) := by decide +kernel
theorem dX2_make_50 : decode cX2_make 50 = .ok (.iconst (-1), 1) := by decide +kernel
theorem dX2_make_51 : decode cX2_make 51 = .ok (.iconst (-1), 1) := by decide +kernel
theorem dX2_make_52 : decode cX2_make 52 = .ok (.invokevirtual 66, 3) := by decide +kernel
theorem dX2_make_55 : decode cX2_make 55 = .ok (.ireturn, 1) := by decide +kernel
set_option maxRecDepth 20000 in
theorem ggX2_carve_X2_isSpot : GoodIn wsX2_carve wsX2_isSpot := goodIn_r _ [8, 9, 10, 11, 12, 7, 13, 14, 15, 16, 17, 18, 19, 20, 31, 32, 33, 34, 35, 36, 37, 38, 39, 40, 41, 42, 43] (by decide +kernel) (by decide +kernel)
set_option maxRecDepth 20000 in
theorem gX2_carve_X2_isSpot : GoodIn wsX2_carve (wsV RX2 70 RX2 yX2_isSpot wsX2_isSpot) := goodIn_app (goodIn_of _ (by decide +kernel)) ggX2_carve_X2_isSpot
set_option maxRecDepth 20000 in
theorem ggX2_carve_X2_no : GoodIn wsX2_carve wsX2_no := goodIn_r _ [24, 1, 31, 32, 33, 34, 35, 36, 37, 38, 39, 40, 41, 42, 43] (by decide +kernel) (by decide +kernel)
set_option maxRecDepth 20000 in
theorem gX2_carve_X2_no : GoodIn wsX2_carve (wsV RX2 58 RX2 yX2_no wsX2_no) := goodIn_app (goodIn_of _ (by decide +kernel)) ggX2_carve_X2_no
set_option maxRecDepth 20000 in
theorem ggX2_carve_X2_isRune : GoodIn wsX2_carve wsX2_isRune := goodIn_r _ [27, 15, 16, 7, 17] (by decide +kernel) (by decide +kernel)
set_option maxRecDepth 20000 in
theorem gX2_carve_X2_isRune : GoodIn wsX2_carve (va_wsS RX2 73 yX2_isRune wsX2_isRune) := goodIn_app (goodIn_of _ (by decide +kernel)) ggX2_carve_X2_isRune
set_option maxRecDepth 20000 in
theorem ggX2_carve_X2_spot : GoodIn wsX2_carve wsX2_spot := goodIn_r _ [30] (by decide +kernel) (by decide +kernel)
set_option maxRecDepth 20000 in
theorem gX2_carve_X2_spot : GoodIn wsX2_carve (va_wsS RX2 76 yX2_spot wsX2_spot) := goodIn_app (goodIn_of _ (by decide +kernel)) ggX2_carve_X2_spot
theorem dX2_carve_0 : decode cX2_carve 0 = .ok (.aload_n 0, 1) := by decide +kernel
theorem dX2_carve_1 : decode cX2_carve 1 = .ok (.iconst 0, 1) := by decide +kernel
theorem dX2_carve_2 : decode cX2_carve 2 = .ok (.putfield 40, 3) := by decide +kernel
theorem dX2_carve_5 : decode cX2_carve 5 = .ok (.aload_n 0, 1) := by decide +kernel
theorem dX2_carve_6 : decode cX2_carve 6 = .ok (.iload_n 1, 1) := by decide +kernel
theorem dX2_carve_7 : decode cX2_carve 7 = .ok (.iload_n 2, 1) := by decide +kernel
theorem dX2_carve_8 : decode cX2_carve 8 = .ok (.iload_n 3, 1) := by decide +kernel
theorem dX2_carve_9 : decode cX2_carve 9 = .ok (.invokevirtual 70, 3) := by decide +kernel
theorem dX2_carve_12 : decode cX2_carve 12 = .ok (.ifCond .ne 9, 3) := by decide +kernel
theorem dX2_carve_15 : decode cX2_carve 15 = .ok (.aload_n 0, 1) := by decide +kernel
theorem dX2_carve_16 : decode cX2_carve 16 = .ok (.iconst 1, 1) := by decide +kernel
theorem dX2_carve_17 : decode cX2_carve 17 = .ok (.invokevirtual 58, 3) := by decide +kernel
theorem dX2_carve_20 : decode cX2_carve 20 = .ok (.ireturn, 1) := by decide +kernel
theorem dX2_carve_21 : decode cX2_carve 21 = .ok (.iload 4, 2) := by decide +kernel
theorem dX2_carve_23 : decode cX2_carve 23 = .ok (.invokestatic 73, 3) := by decide +kernel
theorem dX2_carve_26 : decode cX2_carve 26 = .ok (.ifCond .ne 9, 3) := by decide +kernel
theorem dX2_carve_29 : decode cX2_carve 29 = .ok (.aload_n 0, 1) := by decide +kernel
theorem dX2_carve_30 : decode cX2_carve 30 = .ok (.iconst 2, 1) := by decide +kernel
theorem dX2_carve_31 : decode cX2_carve 31 = .ok (.invokevirtual 58, 3) := by decide +kernel
theorem dX2_carve_34 : decode cX2_carve 34 = .ok (.ireturn, 1) := by decide +kernel
theorem dX2_carve_35 : decode cX2_carve 35 = .ok (.aload_n 0, 1) := by decide +kernel
theorem dX2_carve_36 : decode cX2_carve 36 = .ok (.getfield 16, 3) := by decide +kernel
theorem dX2_carve_39 : decode cX2_carve 39 = .ok (.iload_n 1, 1) := by decide +kernel
theorem dX2_carve_40 : decode cX2_carve 40 = .ok (.iaload, 1) := by decide +kernel
theorem dX2_carve_41 : decode cX2_carve 41 = .ok (.iconst 1, 1) := by decide +kernel
theorem dX2_carve_42 : decode cX2_carve 42 = .ok (.if_icmp .ne 9, 3) := by decide +kernel
theorem dX2_carve_45 : decode cX2_carve 45 = .ok (.aload_n 0, 1) := by decide +kernel
theorem dX2_carve_46 : decode cX2_carve 46 = .ok (.iconst 3, 1) := by decide +kernel
theorem dX2_carve_47 : decode cX2_carve 47 = .ok (.invokevirtual 58, 3) := by decide +kernel
theorem dX2_carve_50 : decode cX2_carve 50 = .ok (.ireturn, 1) := by decide +kernel
theorem dX2_carve_51 : decode cX2_carve 51 = .ok (.iload_n 1, 1) := by decide +kernel
theorem dX2_carve_52 : decode cX2_carve 52 = .ok (.iload_n 3, 1) := by decide +kernel
theorem dX2_carve_53 : decode cX2_carve 53 = .ok (.iload_n 2, 1) := by decide +kernel
theorem dX2_carve_54 : decode cX2_carve 54 = .ok (.invokestatic 76, 3) := by decide +kernel
theorem dX2_carve_57 : decode cX2_carve 57 = .ok (.istore 5, 2) := by decide +kernel
theorem dX2_carve_59 : decode cX2_carve 59 = .ok (.aload_n 0, 1) := by decide +kernel
theorem dX2_carve_60 : decode cX2_carve 60 = .ok (.getfield 25, 3) := by decide +kernel
theorem dX2_carve_63 : decode cX2_carve 63 = .ok (.iload 5, 2) := by decide +kernel
theorem dX2_carve_65 : decode cX2_carve 65 = .ok (.iaload, 1) := by decide +kernel
theorem dX2_carve_66 : decode cX2_carve 66 = .ok (.iconst 1, 1) := by decide +kernel
theorem dX2_carve_67 : decode cX2_carve 67 = .ok (.isub, 1) := by decide +kernel
theorem dX2_carve_68 : decode cX2_carve 68 = .ok (.istore 6, 2) := by decide +kernel
theorem dX2_carve_70 : decode cX2_carve 70 = .ok (.aload_n 0, 1) := by decide +kernel
theorem dX2_carve_71 : decode cX2_carve 71 = .ok (.getfield 25, 3) := by decide +kernel
theorem dX2_carve_74 : decode cX2_carve 74 = .ok (.iload 5, 2) := by decide +kernel
theorem dX2_carve_76 : decode cX2_carve 76 = .ok (.iload 4, 2) := by decide +kernel
theorem dX2_carve_78 : decode cX2_carve 78 = .ok (.iconst 1, 1) := by decide +kernel
theorem dX2_carve_79 : decode cX2_carve 79 = .ok (.iadd, 1) := by decide +kernel
theorem dX2_carve_80 : decode cX2_carve 80 = .ok (.iastore, 1) := by decide +kernel
theorem dX2_carve_81 : decode cX2_carve 81 = .ok (.iload 6, 2) := by decide +kernel
theorem dX2_carve_83 : decode cX2_carve 83 = .ok (.ireturn, 1) := by decide +kernel
set_option maxRecDepth 20000 in
theorem ggX2_scrape_X2_isSpot : GoodIn wsX2_scrape wsX2_isSpot := goodIn_r _ [8, 9, 10, 11, 12, 7, 13, 14, 15, 16, 17, 18, 19, 20, 28, 29, 30, 31, 32, 33, 34, 35, 36, 37, 38, 39, 40] (by decide +kernel) (by decide +kernel)
set_option maxRecDepth 20000 in
theorem gX2_scrape_X2_isSpot : GoodIn wsX2_scrape (wsV RX2 70 RX2 yX2_isSpot wsX2_isSpot) := goodIn_app (goodIn_of _ (by decide +kernel)) ggX2_scrape_X2_isSpot
set_option maxRecDepth 20000 in
theorem ggX2_scrape_X2_no : GoodIn wsX2_scrape wsX2_no := goodIn_r _ [24, 1, 28, 29, 30, 31, 32, 33, 34, 35, 36, 37, 38, 39, 40] (by decide +kernel) (by decide +kernel)
set_option maxRecDepth 20000 in
theorem gX2_scrape_X2_no : GoodIn wsX2_scrape (wsV RX2 58 RX2 yX2_no wsX2_no) := goodIn_app (goodIn_of _ (by decide +kernel)) ggX2_scrape_X2_no
set_option maxRecDepth 20000 in
theorem ggX2_scrape_X2_spot : GoodIn wsX2_scrape wsX2_spot := goodIn_r _ [27] (by decide +kernel) (by decide +kernel)
set_option maxRecDepth 20000 in
theorem gX2_scrape_X2_spot : GoodIn wsX2_scrape (va_wsS RX2 76 yX2_spot wsX2_spot) := goodIn_app (goodIn_of _ (by decide +kernel)) ggX2_scrape_X2_spot
theorem dX2_scrape_0 : decode cX2_scrape 0 = .ok (.aload_n 0, 1) := by decide +kernel
theorem dX2_scrape_1 : decode cX2_scrape 1 = .ok (.iconst 0, 1) := by decide +kernel
theorem dX2_scrape_2 : decode cX2_scrape 2 = .ok (.putfield 40, 3) := by decide +kernel
theorem dX2_scrape_5 : decode cX2_scrape 5 = .ok (.aload_n 0, 1) := by decide +kernel
theorem dX2_scrape_6 : decode cX2_scrape 6 = .ok (.iload_n 1, 1) := by decide +kernel
theorem dX2_scrape_7 : decode cX2_scrape 7 = .ok (.iload_n 2, 1) := by decide +kernel
theorem dX2_scrape_8 : decode cX2_scrape 8 = .ok (.iload_n 3, 1) := by decide +kernel
theorem dX2_scrape_9 : decode cX2_scrape 9 = .ok (.invokevirtual 70, 3) := by decide +kernel
theorem dX2_scrape_12 : decode cX2_scrape 12 = .ok (.ifCond .ne 9, 3) := by decide +kernel
theorem dX2_scrape_15 : decode cX2_scrape 15 = .ok (.aload_n 0, 1) := by decide +kernel
theorem dX2_scrape_16 : decode cX2_scrape 16 = .ok (.iconst 1, 1) := by decide +kernel
theorem dX2_scrape_17 : decode cX2_scrape 17 = .ok (.invokevirtual 58, 3) := by decide +kernel
theorem dX2_scrape_20 : decode cX2_scrape 20 = .ok (.ireturn, 1) := by decide +kernel
theorem dX2_scrape_21 : decode cX2_scrape 21 = .ok (.iload_n 1, 1) := by decide +kernel
theorem dX2_scrape_22 : decode cX2_scrape 22 = .ok (.iload_n 3, 1) := by decide +kernel
theorem dX2_scrape_23 : decode cX2_scrape 23 = .ok (.iload_n 2, 1) := by decide +kernel
theorem dX2_scrape_24 : decode cX2_scrape 24 = .ok (.invokestatic 76, 3) := by decide +kernel
theorem dX2_scrape_27 : decode cX2_scrape 27 = .ok (.istore 4, 2) := by decide +kernel
theorem dX2_scrape_29 : decode cX2_scrape 29 = .ok (.aload_n 0, 1) := by decide +kernel
theorem dX2_scrape_30 : decode cX2_scrape 30 = .ok (.getfield 16, 3) := by decide +kernel
theorem dX2_scrape_33 : decode cX2_scrape 33 = .ok (.iload_n 1, 1) := by decide +kernel
theorem dX2_scrape_34 : decode cX2_scrape 34 = .ok (.iaload, 1) := by decide +kernel
theorem dX2_scrape_35 : decode cX2_scrape 35 = .ok (.iconst 1, 1) := by decide +kernel
theorem dX2_scrape_36 : decode cX2_scrape 36 = .ok (.if_icmp .eq 13, 3) := by decide +kernel
theorem dX2_scrape_39 : decode cX2_scrape 39 = .ok (.aload_n 0, 1) := by decide +kernel
theorem dX2_scrape_40 : decode cX2_scrape 40 = .ok (.getfield 25, 3) := by decide +kernel
theorem dX2_scrape_43 : decode cX2_scrape 43 = .ok (.iload 4, 2) := by decide +kernel
theorem dX2_scrape_45 : decode cX2_scrape 45 = .ok (.iaload, 1) := by decide +kernel
theorem dX2_scrape_46 : decode cX2_scrape 46 = .ok (.ifCond .ne 9, 3) := by decide +kernel
theorem dX2_scrape_49 : decode cX2_scrape 49 = .ok (.aload_n 0, 1) := by decide +kernel
theorem dX2_scrape_50 : decode cX2_scrape 50 = .ok (.iconst 2, 1) := by decide +kernel
theorem dX2_scrape_51 : decode cX2_scrape 51 = .ok (.invokevirtual 58, 3) := by decide +kernel
theorem dX2_scrape_54 : decode cX2_scrape 54 = .ok (.ireturn, 1) := by decide +kernel
theorem dX2_scrape_55 : decode cX2_scrape 55 = .ok (.aload_n 0, 1) := by decide +kernel
theorem dX2_scrape_56 : decode cX2_scrape 56 = .ok (.getfield 25, 3) := by decide +kernel
theorem dX2_scrape_59 : decode cX2_scrape 59 = .ok (.iload 4, 2) := by decide +kernel
theorem dX2_scrape_61 : decode cX2_scrape 61 = .ok (.iaload, 1) := by decide +kernel
theorem dX2_scrape_62 : decode cX2_scrape 62 = .ok (.iconst 1, 1) := by decide +kernel
theorem dX2_scrape_63 : decode cX2_scrape 63 = .ok (.isub, 1) := by decide +kernel
theorem dX2_scrape_64 : decode cX2_scrape 64 = .ok (.istore 5, 2) := by decide +kernel
theorem dX2_scrape_66 : decode cX2_scrape 66 = .ok (.aload_n 0, 1) := by decide +kernel
theorem dX2_scrape_67 : decode cX2_scrape 67 = .ok (.getfield 25, 3) := by decide +kernel
theorem dX2_scrape_70 : decode cX2_scrape 70 = .ok (.iload 4, 2) := by decide +kernel
theorem dX2_scrape_72 : decode cX2_scrape 72 = .ok (.iconst 0, 1) := by decide +kernel
theorem dX2_scrape_73 : decode cX2_scrape 73 = .ok (.iastore, 1) := by decide +kernel
theorem dX2_scrape_74 : decode cX2_scrape 74 = .ok (.iload 5, 2) := by decide +kernel
theorem dX2_scrape_76 : decode cX2_scrape 76 = .ok (.ireturn, 1) := by decide +kernel
set_option maxRecDepth 20000 in
theorem ggX2_roll_X2_isStick : GoodIn wsX2_roll wsX2_isStick := goodIn_r _ [8, 9, 10, 11, 7, 12, 17, 18, 19, 20, 21, 22, 23, 24, 25, 26, 27, 28, 29] (by decide +kernel) (by decide +kernel)
set_option maxRecDepth 20000 in
theorem gX2_roll_X2_isStick : GoodIn wsX2_roll (wsV RX2 51 RX2 yX2_isStick wsX2_isStick) := goodIn_app (goodIn_of _ (by decide +kernel)) ggX2_roll_X2_isStick
set_option maxRecDepth 20000 in
theorem ggX2_roll_X2_no : GoodIn wsX2_roll wsX2_no := goodIn_r _ [16, 1, 17, 18, 19, 20, 21, 22, 23, 24, 25, 26, 27, 28, 29] (by decide +kernel) (by decide +kernel)
set_option maxRecDepth 20000 in
theorem gX2_roll_X2_no : GoodIn wsX2_roll (wsV RX2 58 RX2 yX2_no wsX2_no) := goodIn_app (goodIn_of _ (by decide +kernel)) ggX2_roll_X2_no
set_option maxRecDepth 20000 in
theorem ggX2_roll_X2_isIn : GoodIn wsX2_roll wsX2_isIn := goodIn_r _ [12] (by decide +kernel) (by decide +kernel)
set_option maxRecDepth 20000 in
theorem gX2_roll_X2_isIn : GoodIn wsX2_roll (va_wsS RX2 47 yX2_isIn wsX2_isIn) := goodIn_app (goodIn_of _ (by decide +kernel)) ggX2_roll_X2_isIn
theorem dX2_roll_0 : decode cX2_roll 0 = .ok (.aload_n 0, 1) := by decide +kernel
theorem dX2_roll_1 : decode cX2_roll 1 = .ok (.iconst 0, 1) := by decide +kernel
theorem dX2_roll_2 : decode cX2_roll 2 = .ok (.putfield 40, 3) := by decide +kernel
theorem dX2_roll_5 : decode cX2_roll 5 = .ok (.aload_n 0, 1) := by decide +kernel
theorem dX2_roll_6 : decode cX2_roll 6 = .ok (.iload_n 1, 1) := by decide +kernel
theorem dX2_roll_7 : decode cX2_roll 7 = .ok (.invokevirtual 51, 3) := by decide +kernel
theorem dX2_roll_10 : decode cX2_roll 10 = .ok (.ifCond .ne 9, 3) := by decide +kernel
theorem dX2_roll_13 : decode cX2_roll 13 = .ok (.aload_n 0, 1) := by decide +kernel
theorem dX2_roll_14 : decode cX2_roll 14 = .ok (.iconst 1, 1) := by decide +kernel
theorem dX2_roll_15 : decode cX2_roll 15 = .ok (.invokevirtual 58, 3) := by decide +kernel
theorem dX2_roll_18 : decode cX2_roll 18 = .ok (.ireturn, 1) := by decide +kernel
theorem dX2_roll_19 : decode cX2_roll 19 = .ok (.iload_n 2, 1) := by decide +kernel
theorem dX2_roll_20 : decode cX2_roll 20 = .ok (.iconst 0, 1) := by decide +kernel
theorem dX2_roll_21 : decode cX2_roll 21 = .ok (.iconst 2, 1) := by decide +kernel
theorem dX2_roll_22 : decode cX2_roll 22 = .ok (.invokestatic 47, 3) := by decide +kernel
theorem dX2_roll_25 : decode cX2_roll 25 = .ok (.ifCond .ne 9, 3) := by decide +kernel
theorem dX2_roll_28 : decode cX2_roll 28 = .ok (.aload_n 0, 1) := by decide +kernel
theorem dX2_roll_29 : decode cX2_roll 29 = .ok (.iconst 2, 1) := by decide +kernel
theorem dX2_roll_30 : decode cX2_roll 30 = .ok (.invokevirtual 58, 3) := by decide +kernel
theorem dX2_roll_33 : decode cX2_roll 33 = .ok (.ireturn, 1) := by decide +kernel
theorem dX2_roll_34 : decode cX2_roll 34 = .ok (.aload_n 0, 1) := by decide +kernel
theorem dX2_roll_35 : decode cX2_roll 35 = .ok (.getfield 16, 3) := by decide +kernel
theorem dX2_roll_38 : decode cX2_roll 38 = .ok (.iload_n 1, 1) := by decide +kernel
theorem dX2_roll_39 : decode cX2_roll 39 = .ok (.iaload, 1) := by decide +kernel
theorem dX2_roll_40 : decode cX2_roll 40 = .ok (.iconst 1, 1) := by decide +kernel
theorem dX2_roll_41 : decode cX2_roll 41 = .ok (.if_icmp .ne 9, 3) := by decide +kernel
theorem dX2_roll_44 : decode cX2_roll 44 = .ok (.aload_n 0, 1) := by decide +kernel
theorem dX2_roll_45 : decode cX2_roll 45 = .ok (.iconst 3, 1) := by decide +kernel
theorem dX2_roll_46 : decode cX2_roll 46 = .ok (.invokevirtual 58, 3) := by decide +kernel
theorem dX2_roll_49 : decode cX2_roll 49 = .ok (.ireturn, 1) := by decide +kernel
theorem dX2_roll_50 : decode cX2_roll 50 = .ok (.aload_n 0, 1) := by decide +kernel
theorem dX2_roll_51 : decode cX2_roll 51 = .ok (.getfield 13, 3) := by decide +kernel
theorem dX2_roll_54 : decode cX2_roll 54 = .ok (.iload_n 1, 1) := by decide +kernel
theorem dX2_roll_55 : decode cX2_roll 55 = .ok (.aload_n 0, 1) := by decide +kernel
theorem dX2_roll_56 : decode cX2_roll 56 = .ok (.getfield 13, 3) := by decide +kernel
theorem dX2_roll_59 : decode cX2_roll 59 = .ok (.iload_n 1, 1) := by decide +kernel
theorem dX2_roll_60 : decode cX2_roll 60 = .ok (.iaload, 1) := by decide +kernel
theorem dX2_roll_61 : decode cX2_roll 61 = .ok (.iload_n 2, 1) := by decide +kernel
theorem dX2_roll_62 : decode cX2_roll 62 = .ok (.iadd, 1) := by decide +kernel
theorem dX2_roll_63 : decode cX2_roll 63 = .ok (.iconst 3, 1) := by decide +kernel
theorem dX2_roll_64 : decode cX2_roll 64 = .ok (.irem, 1) := by decide +kernel
theorem dX2_roll_65 : decode cX2_roll 65 = .ok (.iastore, 1) := by decide +kernel
theorem dX2_roll_66 : decode cX2_roll 66 = .ok (.aload_n 0, 1) := by decide +kernel
theorem dX2_roll_67 : decode cX2_roll 67 = .ok (.getfield 13, 3) := by decide +kernel
theorem dX2_roll_70 : decode cX2_roll 70 = .ok (.iload_n 1, 1) := by decide +kernel
theorem dX2_roll_71 : decode cX2_roll 71 = .ok (.iaload, 1) := by decide +kernel
theorem dX2_roll_72 : decode cX2_roll 72 = .ok (.ireturn, 1) := by decide +kernel
set_option maxRecDepth 20000 in
theorem ggX2_runesAt_X2_spot : GoodIn wsX2_runesAt wsX2_spot := goodIn_r _ [5] (by decide +kernel) (by decide +kernel)
set_option maxRecDepth 20000 in
theorem gX2_runesAt_X2_spot : GoodIn wsX2_runesAt (va_wsS RX2 76 yX2_spot wsX2_spot) := goodIn_app (goodIn_of _ (by decide +kernel)) ggX2_runesAt_X2_spot
theorem dX2_runesAt_0 : decode cX2_runesAt 0 = .ok (.iconst 0, 1) := by decide +kernel
theorem dX2_runesAt_1 : decode cX2_runesAt 1 = .ok (.istore_n 3, 1) := by decide +kernel
theorem dX2_runesAt_2 : decode cX2_runesAt 2 = .ok (.iconst 0, 1) := by decide +kernel
theorem dX2_runesAt_3 : decode cX2_runesAt 3 = .ok (.istore 4, 2) := by decide +kernel
theorem dX2_runesAt_5 : decode cX2_runesAt 5 = .ok (.iload 4, 2) := by decide +kernel
theorem dX2_runesAt_7 : decode cX2_runesAt 7 = .ok (.iconst 3, 1) := by decide +kernel
theorem dX2_runesAt_8 : decode cX2_runesAt 8 = .ok (.if_icmp .ge 32, 3) := by decide +kernel
theorem dX2_runesAt_11 : decode cX2_runesAt 11 = .ok (.iload_n 3, 1) := by decide +kernel
theorem dX2_runesAt_12 : decode cX2_runesAt 12 = .ok (.aload_n 0, 1) := by decide +kernel
theorem dX2_runesAt_13 : decode cX2_runesAt 13 = .ok (.getfield 25, 3) := by decide +kernel
theorem dX2_runesAt_16 : decode cX2_runesAt 16 = .ok (.iload_n 1, 1) := by decide +kernel
theorem dX2_runesAt_17 : decode cX2_runesAt 17 = .ok (.iload_n 2, 1) := by decide +kernel
theorem dX2_runesAt_18 : decode cX2_runesAt 18 = .ok (.iload 4, 2) := by decide +kernel
theorem dX2_runesAt_20 : decode cX2_runesAt 20 = .ok (.invokestatic 76, 3) := by decide +kernel
theorem dX2_runesAt_23 : decode cX2_runesAt 23 = .ok (.iaload, 1) := by decide +kernel
theorem dX2_runesAt_24 : decode cX2_runesAt 24 = .ok (.ifCond .le 7, 3) := by decide +kernel
theorem dX2_runesAt_27 : decode cX2_runesAt 27 = .ok (.iconst 1, 1) := by decide +kernel
theorem dX2_runesAt_28 : decode cX2_runesAt 28 = .ok (.goto 4, 3) := by decide +kernel
theorem dX2_runesAt_31 : decode cX2_runesAt 31 = .ok (.iconst 0, 1) := by decide +kernel
theorem dX2_runesAt_32 : decode cX2_runesAt 32 = .ok (.iadd, 1) := by decide +kernel
theorem dX2_runesAt_33 : decode cX2_runesAt 33 = .ok (.istore_n 3, 1) := by decide +kernel
theorem dX2_runesAt_34 : decode cX2_runesAt 34 = .ok (.iinc 4 1, 3) := by decide +kernel
theorem dX2_runesAt_37 : decode cX2_runesAt 37 = .ok (.goto (-32), 3) := by decide +kernel
theorem dX2_runesAt_40 : decode cX2_runesAt 40 = .ok (.iload_n 3, 1) := by decide +kernel
theorem dX2_runesAt_41 : decode cX2_runesAt 41 = .ok (.ireturn, 1) := by decide +kernel
set_option maxRecDepth 20000 in
theorem ggX2_strong_X2_runesAt : GoodIn wsX2_strong wsX2_runesAt := goodIn_r _ [10, 11, 12, 13, 9, 14, 15, 16, 17, 18, 19, 20, 21, 22, 23, 24, 25, 26, 27] (by decide +kernel) (by decide +kernel)
set_option maxRecDepth 20000 in
theorem gX2_strong_X2_runesAt : GoodIn wsX2_strong (wsV RX2 80 RX2 yX2_runesAt wsX2_runesAt) := goodIn_app (goodIn_of _ (by decide +kernel)) ggX2_strong_X2_runesAt
theorem dX2_strong_0 : decode cX2_strong 0 = .ok (.iconst 0, 1) := by decide +kernel
theorem dX2_strong_1 : decode cX2_strong 1 = .ok (.aload_n 0, 1) := by decide +kernel
theorem dX2_strong_2 : decode cX2_strong 2 = .ok (.getfield 28, 3) := by decide +kernel
theorem dX2_strong_5 : decode cX2_strong 5 = .ok (.bipush 12, 2) := by decide +kernel
theorem dX2_strong_7 : decode cX2_strong 7 = .ok (.iload_n 1, 1) := by decide +kernel
theorem dX2_strong_8 : decode cX2_strong 8 = .ok (.imul, 1) := by decide +kernel
theorem dX2_strong_9 : decode cX2_strong 9 = .ok (.iload_n 2, 1) := by decide +kernel
theorem dX2_strong_10 : decode cX2_strong 10 = .ok (.iadd, 1) := by decide +kernel
theorem dX2_strong_11 : decode cX2_strong 11 = .ok (.iaload, 1) := by decide +kernel
theorem dX2_strong_12 : decode cX2_strong 12 = .ok (.aload_n 0, 1) := by decide +kernel
theorem dX2_strong_13 : decode cX2_strong 13 = .ok (.iload_n 1, 1) := by decide +kernel
theorem dX2_strong_14 : decode cX2_strong 14 = .ok (.iload_n 2, 1) := by decide +kernel
theorem dX2_strong_15 : decode cX2_strong 15 = .ok (.invokevirtual 80, 3) := by decide +kernel
theorem dX2_strong_18 : decode cX2_strong 18 = .ok (.isub, 1) := by decide +kernel
theorem dX2_strong_19 : decode cX2_strong 19 = .ok (.aload_n 0, 1) := by decide +kernel
theorem dX2_strong_20 : decode cX2_strong 20 = .ok (.iload_n 1, 1) := by decide +kernel
theorem dX2_strong_21 : decode cX2_strong 21 = .ok (.iload_n 2, 1) := by decide +kernel
theorem dX2_strong_22 : decode cX2_strong 22 = .ok (.iconst 1, 1) := by decide +kernel
theorem dX2_strong_23 : decode cX2_strong 23 = .ok (.iadd, 1) := by decide +kernel
theorem dX2_strong_24 : decode cX2_strong 24 = .ok (.invokevirtual 80, 3) := by decide +kernel
theorem dX2_strong_27 : decode cX2_strong 27 = .ok (.isub, 1) := by decide +kernel
theorem dX2_strong_28 : decode cX2_strong 28 = .ok (.invokestatic 84, 3) := by decide +kernel
theorem dX2_strong_31 : decode cX2_strong 31 = .ok (.ireturn, 1) := by decide +kernel
set_option maxRecDepth 20000 in
theorem ggX2_weakest_X2_strong : GoodIn wsX2_weakest wsX2_strong := goodIn_r _ [6, 7, 8, 9, 10, 11, 12, 13, 14, 5, 15, 16, 17, 18, 19, 20, 21, 22, 23, 24, 25, 26, 27, 28, 29, 30, 31, 32] (by decide +kernel) (by decide +kernel)
set_option maxRecDepth 20000 in
theorem gX2_weakest_X2_strong : GoodIn wsX2_weakest (wsV RX2 89 RX2 yX2_strong wsX2_strong) := goodIn_app (goodIn_of _ (by decide +kernel)) ggX2_weakest_X2_strong
theorem dX2_weakest_0 : decode cX2_weakest 0 = .ok (.iconst (-1), 1) := by decide +kernel
theorem dX2_weakest_1 : decode cX2_weakest 1 = .ok (.istore_n 2, 1) := by decide +kernel
theorem dX2_weakest_2 : decode cX2_weakest 2 = .ok (.iconst 0, 1) := by decide +kernel
theorem dX2_weakest_3 : decode cX2_weakest 3 = .ok (.istore_n 3, 1) := by decide +kernel
theorem dX2_weakest_4 : decode cX2_weakest 4 = .ok (.iload_n 3, 1) := by decide +kernel
theorem dX2_weakest_5 : decode cX2_weakest 5 = .ok (.aload_n 0, 1) := by decide +kernel
theorem dX2_weakest_6 : decode cX2_weakest 6 = .ok (.getfield 9, 3) := by decide +kernel
theorem dX2_weakest_9 : decode cX2_weakest 9 = .ok (.iload_n 1, 1) := by decide +kernel
theorem dX2_weakest_10 : decode cX2_weakest 10 = .ok (.iaload, 1) := by decide +kernel
theorem dX2_weakest_11 : decode cX2_weakest 11 = .ok (.iconst 1, 1) := by decide +kernel
theorem dX2_weakest_12 : decode cX2_weakest 12 = .ok (.isub, 1) := by decide +kernel
theorem dX2_weakest_13 : decode cX2_weakest 13 = .ok (.if_icmp .ge 31, 3) := by decide +kernel
theorem dX2_weakest_16 : decode cX2_weakest 16 = .ok (.iload_n 2, 1) := by decide +kernel
theorem dX2_weakest_17 : decode cX2_weakest 17 = .ok (.iconst (-1), 1) := by decide +kernel
theorem dX2_weakest_18 : decode cX2_weakest 18 = .ok (.if_icmp .eq 18, 3) := by decide +kernel
theorem dX2_weakest_21 : decode cX2_weakest 21 = .ok (.aload_n 0, 1) := by decide +kernel
theorem dX2_weakest_22 : decode cX2_weakest 22 = .ok (.iload_n 1, 1) := by decide +kernel
theorem dX2_weakest_23 : decode cX2_weakest 23 = .ok (.iload_n 3, 1) := by decide +kernel
theorem dX2_weakest_24 : decode cX2_weakest 24 = .ok (.invokevirtual 89, 3) := by decide +kernel
theorem dX2_weakest_27 : decode cX2_weakest 27 = .ok (.aload_n 0, 1) := by decide +kernel
theorem dX2_weakest_28 : decode cX2_weakest 28 = .ok (.iload_n 1, 1) := by decide +kernel
theorem dX2_weakest_29 : decode cX2_weakest 29 = .ok (.iload_n 2, 1) := by decide +kernel
theorem dX2_weakest_30 : decode cX2_weakest 30 = .ok (.invokevirtual 89, 3) := by decide +kernel
theorem dX2_weakest_33 : decode cX2_weakest 33 = .ok (.if_icmp .ge 5, 3) := by decide +kernel
theorem dX2_weakest_36 : decode cX2_weakest 36 = .ok (.iload_n 3, 1) := by decide +kernel
theorem dX2_weakest_37 : decode cX2_weakest 37 = .ok (.istore_n 2, 1) := by decide +kernel
theorem dX2_weakest_38 : decode cX2_weakest 38 = .ok (.iinc 3 1, 3) := by decide +kernel
theorem dX2_weakest_41 : decode cX2_weakest 41 = .ok (.goto (-37), 3) := by decide +kernel
theorem dX2_weakest_44 : decode cX2_weakest 44 = .ok (.iload_n 2, 1) := by decide +kernel
theorem dX2_weakest_45 : decode cX2_weakest 45 = .ok (.ireturn, 1) := by decide +kernel
set_option maxRecDepth 20000 in
theorem ggX2_lay_X2_spot : GoodIn wsX2_lay wsX2_spot := goodIn_r _ [7] (by decide +kernel) (by decide +kernel)
set_option maxRecDepth 20000 in
theorem gX2_lay_X2_spot : GoodIn wsX2_lay (va_wsS RX2 76 yX2_spot wsX2_spot) := goodIn_app (goodIn_of _ (by decide +kernel)) ggX2_lay_X2_spot
theorem dX2_lay_0 : decode cX2_lay 0 = .ok (.iconst 0, 1) := by decide +kernel
theorem dX2_lay_1 : decode cX2_lay 1 = .ok (.istore 7, 2) := by decide +kernel
theorem dX2_lay_3 : decode cX2_lay 3 = .ok (.iload 7, 2) := by decide +kernel
theorem dX2_lay_5 : decode cX2_lay 5 = .ok (.iload_n 3, 1) := by decide +kernel
theorem dX2_lay_6 : decode cX2_lay 6 = .ok (.if_icmp .ge 132, 3) := by decide +kernel
theorem dX2_lay_9 : decode cX2_lay 9 = .ok (.iconst 0, 1) := by decide +kernel
theorem dX2_lay_10 : decode cX2_lay 10 = .ok (.istore 8, 2) := by decide +kernel
theorem dX2_lay_12 : decode cX2_lay 12 = .ok (.iload 8, 2) := by decide +kernel
theorem dX2_lay_14 : decode cX2_lay 14 = .ok (.iconst 3, 1) := by decide +kernel
theorem dX2_lay_15 : decode cX2_lay 15 = .ok (.if_icmp .ge 46, 3) := by decide +kernel
theorem dX2_lay_18 : decode cX2_lay 18 = .ok (.aload_n 0, 1) := by decide +kernel
theorem dX2_lay_19 : decode cX2_lay 19 = .ok (.getfield 25, 3) := by decide +kernel
theorem dX2_lay_22 : decode cX2_lay 22 = .ok (.iload 4, 2) := by decide +kernel
theorem dX2_lay_24 : decode cX2_lay 24 = .ok (.iload 5, 2) := by decide +kernel
theorem dX2_lay_26 : decode cX2_lay 26 = .ok (.iload 7, 2) := by decide +kernel
theorem dX2_lay_28 : decode cX2_lay 28 = .ok (.iadd, 1) := by decide +kernel
theorem dX2_lay_29 : decode cX2_lay 29 = .ok (.iload 8, 2) := by decide +kernel
theorem dX2_lay_31 : decode cX2_lay 31 = .ok (.invokestatic 76, 3) := by decide +kernel
theorem dX2_lay_34 : decode cX2_lay 34 = .ok (.aload_n 0, 1) := by decide +kernel
theorem dX2_lay_35 : decode cX2_lay 35 = .ok (.getfield 25, 3) := by decide +kernel
theorem dX2_lay_38 : decode cX2_lay 38 = .ok (.iload_n 1, 1) := by decide +kernel
theorem dX2_lay_39 : decode cX2_lay 39 = .ok (.iload_n 2, 1) := by decide +kernel
theorem dX2_lay_40 : decode cX2_lay 40 = .ok (.iload 7, 2) := by decide +kernel
theorem dX2_lay_42 : decode cX2_lay 42 = .ok (.iadd, 1) := by decide +kernel
theorem dX2_lay_43 : decode cX2_lay 43 = .ok (.iload 8, 2) := by decide +kernel
theorem dX2_lay_45 : decode cX2_lay 45 = .ok (.iload 6, 2) := by decide +kernel
theorem dX2_lay_47 : decode cX2_lay 47 = .ok (.iadd, 1) := by decide +kernel
theorem dX2_lay_48 : decode cX2_lay 48 = .ok (.iconst 3, 1) := by decide +kernel
theorem dX2_lay_49 : decode cX2_lay 49 = .ok (.irem, 1) := by decide +kernel
theorem dX2_lay_50 : decode cX2_lay 50 = .ok (.invokestatic 76, 3) := by decide +kernel
theorem dX2_lay_53 : decode cX2_lay 53 = .ok (.iaload, 1) := by decide +kernel
theorem dX2_lay_54 : decode cX2_lay 54 = .ok (.iastore, 1) := by decide +kernel
theorem dX2_lay_55 : decode cX2_lay 55 = .ok (.iinc 8 1, 3) := by decide +kernel
theorem dX2_lay_58 : decode cX2_lay 58 = .ok (.goto (-46), 3) := by decide +kernel
theorem dX2_lay_61 : decode cX2_lay 61 = .ok (.iload 7, 2) := by decide +kernel
theorem dX2_lay_63 : decode cX2_lay 63 = .ok (.iload_n 3, 1) := by decide +kernel
theorem dX2_lay_64 : decode cX2_lay 64 = .ok (.iconst 1, 1) := by decide +kernel
theorem dX2_lay_65 : decode cX2_lay 65 = .ok (.isub, 1) := by decide +kernel
theorem dX2_lay_66 : decode cX2_lay 66 = .ok (.if_icmp .ne 6, 3) := by decide +kernel
theorem dX2_lay_69 : decode cX2_lay 69 = .ok (.goto 63, 3) := by decide +kernel
theorem dX2_lay_72 : decode cX2_lay 72 = .ok (.aload_n 0, 1) := by decide +kernel
theorem dX2_lay_73 : decode cX2_lay 73 = .ok (.getfield 28, 3) := by decide +kernel
theorem dX2_lay_76 : decode cX2_lay 76 = .ok (.bipush 12, 2) := by decide +kernel
theorem dX2_lay_78 : decode cX2_lay 78 = .ok (.iload 4, 2) := by decide +kernel
theorem dX2_lay_80 : decode cX2_lay 80 = .ok (.imul, 1) := by decide +kernel
theorem dX2_lay_81 : decode cX2_lay 81 = .ok (.iload 5, 2) := by decide +kernel
theorem dX2_lay_83 : decode cX2_lay 83 = .ok (.iadd, 1) := by decide +kernel
theorem dX2_lay_84 : decode cX2_lay 84 = .ok (.iload 7, 2) := by decide +kernel
theorem dX2_lay_86 : decode cX2_lay 86 = .ok (.iadd, 1) := by decide +kernel
theorem dX2_lay_87 : decode cX2_lay 87 = .ok (.aload_n 0, 1) := by decide +kernel
theorem dX2_lay_88 : decode cX2_lay 88 = .ok (.getfield 28, 3) := by decide +kernel
theorem dX2_lay_91 : decode cX2_lay 91 = .ok (.bipush 12, 2) := by decide +kernel
theorem dX2_lay_93 : decode cX2_lay 93 = .ok (.iload_n 1, 1) := by decide +kernel
theorem dX2_lay_94 : decode cX2_lay 94 = .ok (.imul, 1) := by decide +kernel
theorem dX2_lay_95 : decode cX2_lay 95 = .ok (.iload_n 2, 1) := by decide +kernel
theorem dX2_lay_96 : decode cX2_lay 96 = .ok (.iadd, 1) := by decide +kernel
theorem dX2_lay_97 : decode cX2_lay 97 = .ok (.iload 7, 2) := by decide +kernel
theorem dX2_lay_99 : decode cX2_lay 99 = .ok (.iadd, 1) := by decide +kernel
theorem dX2_lay_100 : decode cX2_lay 100 = .ok (.iaload, 1) := by decide +kernel
theorem dX2_lay_101 : decode cX2_lay 101 = .ok (.iastore, 1) := by decide +kernel
theorem dX2_lay_102 : decode cX2_lay 102 = .ok (.aload_n 0, 1) := by decide +kernel
theorem dX2_lay_103 : decode cX2_lay 103 = .ok (.getfield 31, 3) := by decide +kernel
theorem dX2_lay_106 : decode cX2_lay 106 = .ok (.bipush 12, 2) := by decide +kernel
theorem dX2_lay_108 : decode cX2_lay 108 = .ok (.iload 4, 2) := by decide +kernel
theorem dX2_lay_110 : decode cX2_lay 110 = .ok (.imul, 1) := by decide +kernel
theorem dX2_lay_111 : decode cX2_lay 111 = .ok (.iload 5, 2) := by decide +kernel
theorem dX2_lay_113 : decode cX2_lay 113 = .ok (.iadd, 1) := by decide +kernel
theorem dX2_lay_114 : decode cX2_lay 114 = .ok (.iload 7, 2) := by decide +kernel
theorem dX2_lay_116 : decode cX2_lay 116 = .ok (.iadd, 1) := by decide +kernel
theorem dX2_lay_117 : decode cX2_lay 117 = .ok (.aload_n 0, 1) := by decide +kernel
theorem dX2_lay_118 : decode cX2_lay 118 = .ok (.getfield 31, 3) := by decide +kernel
theorem dX2_lay_121 : decode cX2_lay 121 = .ok (.bipush 12, 2) := by decide +kernel
theorem dX2_lay_123 : decode cX2_lay 123 = .ok (.iload_n 1, 1) := by decide +kernel
theorem dX2_lay_124 : decode cX2_lay 124 = .ok (.imul, 1) := by decide +kernel
theorem dX2_lay_125 : decode cX2_lay 125 = .ok (.iload_n 2, 1) := by decide +kernel
theorem dX2_lay_126 : decode cX2_lay 126 = .ok (.iadd, 1) := by decide +kernel
theorem dX2_lay_127 : decode cX2_lay 127 = .ok (.iload 7, 2) := by decide +kernel
theorem dX2_lay_129 : decode cX2_lay 129 = .ok (.iadd, 1) := by decide +kernel
theorem dX2_lay_130 : decode cX2_lay 130 = .ok (.iaload, 1) := by decide +kernel
theorem dX2_lay_131 : decode cX2_lay 131 = .ok (.iastore, 1) := by decide +kernel
theorem dX2_lay_132 : decode cX2_lay 132 = .ok (.iinc 7 1, 3) := by decide +kernel
theorem dX2_lay_135 : decode cX2_lay 135 = .ok (.goto (-132), 3) := by decide +kernel
theorem dX2_lay_138 : decode cX2_lay 138 = .ok (.return_, 1) := by decide +kernel
set_option maxRecDepth 20000 in
theorem ggX2_bend_X2_isStick : GoodIn wsX2_bend wsX2_isStick := goodIn_r _ [13, 3, 14, 15, 12, 16, 55, 56, 57, 58, 59, 60, 61, 62, 63, 64, 65, 66, 67] (by decide +kernel) (by decide +kernel)
set_option maxRecDepth 20000 in
theorem gX2_bend_X2_isStick : GoodIn wsX2_bend (wsV RX2 51 RX2 yX2_isStick wsX2_isStick) := goodIn_app (goodIn_of _ (by decide +kernel)) ggX2_bend_X2_isStick
set_option maxRecDepth 20000 in
theorem ggX2_bend_X2_no : GoodIn wsX2_bend wsX2_no := goodIn_r _ [20, 1, 55, 56, 57, 58, 59, 60, 61, 62, 63, 64, 65, 66, 67] (by decide +kernel) (by decide +kernel)
set_option maxRecDepth 20000 in
theorem gX2_bend_X2_no : GoodIn wsX2_bend (wsV RX2 58 RX2 yX2_no wsX2_no) := goodIn_app (goodIn_of _ (by decide +kernel)) ggX2_bend_X2_no
set_option maxRecDepth 20000 in
theorem ggX2_bend_X2_isIn : GoodIn wsX2_bend wsX2_isIn := goodIn_r _ [16] (by decide +kernel) (by decide +kernel)
set_option maxRecDepth 20000 in
theorem gX2_bend_X2_isIn : GoodIn wsX2_bend (va_wsS RX2 47 yX2_isIn wsX2_isIn) := goodIn_app (goodIn_of _ (by decide +kernel)) ggX2_bend_X2_isIn
set_option maxRecDepth 20000 in
theorem ggX2_bend_X2_weakest : GoodIn wsX2_bend wsX2_weakest := goodIn_r _ [24, 7, 25, 26, 27, 12, 28, 29, 30, 31, 32, 33, 34, 35, 36, 37, 38, 39, 40, 41, 55, 56, 57, 58, 59, 60, 61, 62, 63, 64, 65, 66, 67] (by decide +kernel) (by decide +kernel)
set_option maxRecDepth 20000 in
theorem gX2_bend_X2_weakest : GoodIn wsX2_bend (wsV RX2 92 RX2 yX2_weakest wsX2_weakest) := goodIn_app (goodIn_of _ (by decide +kernel)) ggX2_bend_X2_weakest
set_option maxRecDepth 20000 in
theorem ggX2_bend_X2_strong : GoodIn wsX2_bend wsX2_strong := goodIn_r _ [28, 29, 30, 31, 32, 33, 34, 35, 36, 12, 37, 38, 39, 40, 41, 55, 56, 57, 58, 59, 60, 61, 62, 63, 64, 65, 66, 67] (by decide +kernel) (by decide +kernel)
set_option maxRecDepth 20000 in
theorem gX2_bend_X2_strong : GoodIn wsX2_bend (wsV RX2 89 RX2 yX2_strong wsX2_strong) := goodIn_app (goodIn_of _ (by decide +kernel)) ggX2_bend_X2_strong
set_option maxRecDepth 20000 in
theorem ggX2_bend_X2_there : GoodIn wsX2_bend wsX2_there := goodIn_r _ [45, 3, 2, 55, 56, 57, 58, 59, 60, 61, 62, 63, 64, 65, 66, 67] (by decide +kernel) (by decide +kernel)
set_option maxRecDepth 20000 in
theorem gX2_bend_X2_there : GoodIn wsX2_bend (wsV RX2 62 RX2 yX2_there wsX2_there) := goodIn_app (goodIn_of _ (by decide +kernel)) ggX2_bend_X2_there
set_option maxRecDepth 20000 in
theorem ggX2_bend_X2_add : GoodIn wsX2_bend wsX2_add := goodIn_r _ [49, 7, 3, 4, 5, 8, 29, 50, 55, 56, 57, 58, 59, 60, 61, 62, 63, 64, 65, 66, 67] (by decide +kernel) (by decide +kernel)
set_option maxRecDepth 20000 in
theorem gX2_bend_X2_add : GoodIn wsX2_bend (wsV RX2 66 RX2 yX2_add wsX2_add) := goodIn_app (goodIn_of _ (by decide +kernel)) ggX2_bend_X2_add
set_option maxRecDepth 20000 in
theorem ggX2_bend_X2_lay : GoodIn wsX2_bend wsX2_lay := goodIn_r _ [54, 38, 29, 50, 39, 40, 12, 41, 55, 56, 57, 58, 59, 60, 61, 62, 63, 64, 65, 66, 67] (by decide +kernel) (by decide +kernel)
set_option maxRecDepth 20000 in
theorem gX2_bend_X2_lay : GoodIn wsX2_bend (wsV RX2 98 RX2 yX2_lay wsX2_lay) := goodIn_app (goodIn_of _ (by decide +kernel)) ggX2_bend_X2_lay
theorem dX2_bend_0 : decode cX2_bend 0 = .ok (.aload_n 0, 1) := by decide +kernel
theorem dX2_bend_1 : decode cX2_bend 1 = .ok (.iconst 0, 1) := by decide +kernel
theorem dX2_bend_2 : decode cX2_bend 2 = .ok (.putfield 40, 3) := by decide +kernel
theorem dX2_bend_5 : decode cX2_bend 5 = .ok (.aload_n 0, 1) := by decide +kernel
theorem dX2_bend_6 : decode cX2_bend 6 = .ok (.iload_n 1, 1) := by decide +kernel
theorem dX2_bend_7 : decode cX2_bend 7 = .ok (.invokevirtual 51, 3) := by decide +kernel
theorem dX2_bend_10 : decode cX2_bend 10 = .ok (.ifCond .ne 9, 3) := by decide +kernel
theorem dX2_bend_13 : decode cX2_bend 13 = .ok (.aload_n 0, 1) := by decide +kernel
theorem dX2_bend_14 : decode cX2_bend 14 = .ok (.iconst 1, 1) := by decide +kernel
theorem dX2_bend_15 : decode cX2_bend 15 = .ok (.invokevirtual 58, 3) := by decide +kernel
theorem dX2_bend_18 : decode cX2_bend 18 = .ok (.ireturn, 1) := by decide +kernel
theorem dX2_bend_19 : decode cX2_bend 19 = .ok (.iload_n 2, 1) := by decide +kernel
theorem dX2_bend_20 : decode cX2_bend 20 = .ok (.iconst 1, 1) := by decide +kernel
theorem dX2_bend_21 : decode cX2_bend 21 = .ok (.bipush 20, 2) := by decide +kernel
theorem dX2_bend_23 : decode cX2_bend 23 = .ok (.invokestatic 47, 3) := by decide +kernel
theorem dX2_bend_26 : decode cX2_bend 26 = .ok (.ifCond .ne 9, 3) := by decide +kernel
theorem dX2_bend_29 : decode cX2_bend 29 = .ok (.aload_n 0, 1) := by decide +kernel
theorem dX2_bend_30 : decode cX2_bend 30 = .ok (.iconst 2, 1) := by decide +kernel
theorem dX2_bend_31 : decode cX2_bend 31 = .ok (.invokevirtual 58, 3) := by decide +kernel
theorem dX2_bend_34 : decode cX2_bend 34 = .ok (.ireturn, 1) := by decide +kernel
theorem dX2_bend_35 : decode cX2_bend 35 = .ok (.aload_n 0, 1) := by decide +kernel
theorem dX2_bend_36 : decode cX2_bend 36 = .ok (.getfield 16, 3) := by decide +kernel
theorem dX2_bend_39 : decode cX2_bend 39 = .ok (.iload_n 1, 1) := by decide +kernel
theorem dX2_bend_40 : decode cX2_bend 40 = .ok (.iaload, 1) := by decide +kernel
theorem dX2_bend_41 : decode cX2_bend 41 = .ok (.iconst 1, 1) := by decide +kernel
theorem dX2_bend_42 : decode cX2_bend 42 = .ok (.if_icmp .ne 9, 3) := by decide +kernel
theorem dX2_bend_45 : decode cX2_bend 45 = .ok (.aload_n 0, 1) := by decide +kernel
theorem dX2_bend_46 : decode cX2_bend 46 = .ok (.iconst 3, 1) := by decide +kernel
theorem dX2_bend_47 : decode cX2_bend 47 = .ok (.invokevirtual 58, 3) := by decide +kernel
theorem dX2_bend_50 : decode cX2_bend 50 = .ok (.ireturn, 1) := by decide +kernel
theorem dX2_bend_51 : decode cX2_bend 51 = .ok (.aload_n 0, 1) := by decide +kernel
theorem dX2_bend_52 : decode cX2_bend 52 = .ok (.iload_n 1, 1) := by decide +kernel
theorem dX2_bend_53 : decode cX2_bend 53 = .ok (.invokevirtual 92, 3) := by decide +kernel
theorem dX2_bend_56 : decode cX2_bend 56 = .ok (.istore_n 3, 1) := by decide +kernel
theorem dX2_bend_57 : decode cX2_bend 57 = .ok (.iload_n 3, 1) := by decide +kernel
theorem dX2_bend_58 : decode cX2_bend 58 = .ok (.iconst (-1), 1) := by decide +kernel
theorem dX2_bend_59 : decode cX2_bend 59 = .ok (.if_icmp .eq 13, 3) := by decide +kernel
theorem dX2_bend_62 : decode cX2_bend 62 = .ok (.aload_n 0, 1) := by decide +kernel
theorem dX2_bend_63 : decode cX2_bend 63 = .ok (.iload_n 1, 1) := by decide +kernel
theorem dX2_bend_64 : decode cX2_bend 64 = .ok (.iload_n 3, 1) := by decide +kernel
theorem dX2_bend_65 : decode cX2_bend 65 = .ok (.invokevirtual 89, 3) := by decide +kernel
theorem dX2_bend_68 : decode cX2_bend 68 = .ok (.iload_n 2, 1) := by decide +kernel
theorem dX2_bend_69 : decode cX2_bend 69 = .ok (.if_icmp .lt 5, 3) := by decide +kernel
theorem dX2_bend_72 : decode cX2_bend 72 = .ok (.iconst (-1), 1) := by decide +kernel
theorem dX2_bend_73 : decode cX2_bend 73 = .ok (.ireturn, 1) := by decide +kernel
theorem dX2_bend_74 : decode cX2_bend 74 = .ok (.aload_n 0, 1) := by decide +kernel
theorem dX2_bend_75 : decode cX2_bend 75 = .ok (.invokevirtual 62, 3) := by decide +kernel
theorem dX2_bend_78 : decode cX2_bend 78 = .ok (.bipush 12, 2) := by decide +kernel
theorem dX2_bend_80 : decode cX2_bend 80 = .ok (.if_icmp .eq 12, 3) := by decide +kernel
theorem dX2_bend_83 : decode cX2_bend 83 = .ok (.aload_n 0, 1) := by decide +kernel
theorem dX2_bend_84 : decode cX2_bend 84 = .ok (.getfield 44, 3) := by decide +kernel
theorem dX2_bend_87 : decode cX2_bend 87 = .ok (.bipush 38, 2) := by decide +kernel
theorem dX2_bend_89 : decode cX2_bend 89 = .ok (.if_icmp .le 9, 3) := by decide +kernel
theorem dX2_bend_92 : decode cX2_bend 92 = .ok (.aload_n 0, 1) := by decide +kernel
theorem dX2_bend_93 : decode cX2_bend 93 = .ok (.iconst 3, 1) := by decide +kernel
theorem dX2_bend_94 : decode cX2_bend 94 = .ok (.invokevirtual 58, 3) := by decide +kernel
theorem dX2_bend_97 : decode cX2_bend 97 = .ok (.ireturn, 1) := by decide +kernel
theorem dX2_bend_98 : decode cX2_bend 98 = .ok (.aload_n 0, 1) := by decide +kernel
theorem dX2_bend_99 : decode cX2_bend 99 = .ok (.getfield 16, 3) := by decide +kernel
theorem dX2_bend_102 : decode cX2_bend 102 = .ok (.iload_n 1, 1) := by decide +kernel
theorem dX2_bend_103 : decode cX2_bend 103 = .ok (.iconst 1, 1) := by decide +kernel
theorem dX2_bend_104 : decode cX2_bend 104 = .ok (.iastore, 1) := by decide +kernel
theorem dX2_bend_105 : decode cX2_bend 105 = .ok (.iload_n 3, 1) := by decide +kernel
theorem dX2_bend_106 : decode cX2_bend 106 = .ok (.iconst 1, 1) := by decide +kernel
theorem dX2_bend_107 : decode cX2_bend 107 = .ok (.iadd, 1) := by decide +kernel
theorem dX2_bend_108 : decode cX2_bend 108 = .ok (.istore 4, 2) := by decide +kernel
theorem dX2_bend_110 : decode cX2_bend 110 = .ok (.aload_n 0, 1) := by decide +kernel
theorem dX2_bend_111 : decode cX2_bend 111 = .ok (.iload 4, 2) := by decide +kernel
theorem dX2_bend_113 : decode cX2_bend 113 = .ok (.aload_n 0, 1) := by decide +kernel
theorem dX2_bend_114 : decode cX2_bend 114 = .ok (.getfield 13, 3) := by decide +kernel
theorem dX2_bend_117 : decode cX2_bend 117 = .ok (.iload_n 1, 1) := by decide +kernel
theorem dX2_bend_118 : decode cX2_bend 118 = .ok (.iaload, 1) := by decide +kernel
theorem dX2_bend_119 : decode cX2_bend 119 = .ok (.aload_n 0, 1) := by decide +kernel
theorem dX2_bend_120 : decode cX2_bend 120 = .ok (.getfield 19, 3) := by decide +kernel
theorem dX2_bend_123 : decode cX2_bend 123 = .ok (.iload_n 1, 1) := by decide +kernel
theorem dX2_bend_124 : decode cX2_bend 124 = .ok (.iaload, 1) := by decide +kernel
theorem dX2_bend_125 : decode cX2_bend 125 = .ok (.aload_n 0, 1) := by decide +kernel
theorem dX2_bend_126 : decode cX2_bend 126 = .ok (.getfield 95, 3) := by decide +kernel
theorem dX2_bend_129 : decode cX2_bend 129 = .ok (.invokevirtual 66, 3) := by decide +kernel
theorem dX2_bend_132 : decode cX2_bend 132 = .ok (.istore 5, 2) := by decide +kernel
theorem dX2_bend_134 : decode cX2_bend 134 = .ok (.aload_n 0, 1) := by decide +kernel
theorem dX2_bend_135 : decode cX2_bend 135 = .ok (.aload_n 0, 1) := by decide +kernel
theorem dX2_bend_136 : decode cX2_bend 136 = .ok (.getfield 9, 3) := by decide +kernel
theorem dX2_bend_139 : decode cX2_bend 139 = .ok (.iload_n 1, 1) := by decide +kernel
theorem dX2_bend_140 : decode cX2_bend 140 = .ok (.iaload, 1) := by decide +kernel
theorem dX2_bend_141 : decode cX2_bend 141 = .ok (.iload 4, 2) := by decide +kernel
theorem dX2_bend_143 : decode cX2_bend 143 = .ok (.isub, 1) := by decide +kernel
theorem dX2_bend_144 : decode cX2_bend 144 = .ok (.aload_n 0, 1) := by decide +kernel
theorem dX2_bend_145 : decode cX2_bend 145 = .ok (.getfield 13, 3) := by decide +kernel
theorem dX2_bend_148 : decode cX2_bend 148 = .ok (.iload_n 1, 1) := by decide +kernel
theorem dX2_bend_149 : decode cX2_bend 149 = .ok (.iaload, 1) := by decide +kernel
theorem dX2_bend_150 : decode cX2_bend 150 = .ok (.aload_n 0, 1) := by decide +kernel
theorem dX2_bend_151 : decode cX2_bend 151 = .ok (.getfield 95, 3) := by decide +kernel
theorem dX2_bend_154 : decode cX2_bend 154 = .ok (.aload_n 0, 1) := by decide +kernel
theorem dX2_bend_155 : decode cX2_bend 155 = .ok (.getfield 22, 3) := by decide +kernel
theorem dX2_bend_158 : decode cX2_bend 158 = .ok (.iload_n 1, 1) := by decide +kernel
theorem dX2_bend_159 : decode cX2_bend 159 = .ok (.iaload, 1) := by decide +kernel
theorem dX2_bend_160 : decode cX2_bend 160 = .ok (.invokevirtual 66, 3) := by decide +kernel
theorem dX2_bend_163 : decode cX2_bend 163 = .ok (.istore 6, 2) := by decide +kernel
theorem dX2_bend_165 : decode cX2_bend 165 = .ok (.aload_n 0, 1) := by decide +kernel
theorem dX2_bend_166 : decode cX2_bend 166 = .ok (.dup, 1) := by decide +kernel
theorem dX2_bend_167 : decode cX2_bend 167 = .ok (.getfield 95, 3) := by decide +kernel
theorem dX2_bend_170 : decode cX2_bend 170 = .ok (.iconst 1, 1) := by decide +kernel
theorem dX2_bend_171 : decode cX2_bend 171 = .ok (.iadd, 1) := by decide +kernel
theorem dX2_bend_172 : decode cX2_bend 172 = .ok (.putfield 95, 3) := by decide +kernel
theorem dX2_bend_175 : decode cX2_bend 175 = .ok (.aload_n 0, 1) := by decide +kernel
theorem dX2_bend_176 : decode cX2_bend 176 = .ok (.iload_n 1, 1) := by decide +kernel
theorem dX2_bend_177 : decode cX2_bend 177 = .ok (.iconst 0, 1) := by decide +kernel
theorem dX2_bend_178 : decode cX2_bend 178 = .ok (.iload 4, 2) := by decide +kernel
theorem dX2_bend_180 : decode cX2_bend 180 = .ok (.iload 5, 2) := by decide +kernel
theorem dX2_bend_182 : decode cX2_bend 182 = .ok (.iconst 0, 1) := by decide +kernel
theorem dX2_bend_183 : decode cX2_bend 183 = .ok (.iconst 0, 1) := by decide +kernel
theorem dX2_bend_184 : decode cX2_bend 184 = .ok (.invokevirtual 98, 3) := by decide +kernel
theorem dX2_bend_187 : decode cX2_bend 187 = .ok (.aload_n 0, 1) := by decide +kernel
theorem dX2_bend_188 : decode cX2_bend 188 = .ok (.iload_n 1, 1) := by decide +kernel
theorem dX2_bend_189 : decode cX2_bend 189 = .ok (.iload 4, 2) := by decide +kernel
theorem dX2_bend_191 : decode cX2_bend 191 = .ok (.aload_n 0, 1) := by decide +kernel
theorem dX2_bend_192 : decode cX2_bend 192 = .ok (.getfield 9, 3) := by decide +kernel
theorem dX2_bend_195 : decode cX2_bend 195 = .ok (.iload 6, 2) := by decide +kernel
theorem dX2_bend_197 : decode cX2_bend 197 = .ok (.iaload, 1) := by decide +kernel
theorem dX2_bend_198 : decode cX2_bend 198 = .ok (.iload 6, 2) := by decide +kernel
theorem dX2_bend_200 : decode cX2_bend 200 = .ok (.iconst 0, 1) := by decide +kernel
theorem dX2_bend_201 : decode cX2_bend 201 = .ok (.iconst 0, 1) := by decide +kernel
theorem dX2_bend_202 : decode cX2_bend 202 = .ok (.invokevirtual 98, 3) := by decide +kernel
theorem dX2_bend_205 : decode cX2_bend 205 = .ok (.iload 5, 2) := by decide +kernel
theorem dX2_bend_207 : decode cX2_bend 207 = .ok (.ireturn, 1) := by decide +kernel
theorem dX2_fit_0 : decode cX2_fit 0 = .ok (.iload_n 1, 1) := by decide +kernel
theorem dX2_fit_1 : decode cX2_fit 1 = .ok (.iload_n 2, 1) := by decide +kernel
theorem dX2_fit_2 : decode cX2_fit 2 = .ok (.if_icmp .eq 48, 3) := by decide +kernel
theorem dX2_fit_5 : decode cX2_fit 5 = .ok (.aload_n 0, 1) := by decide +kernel
theorem dX2_fit_6 : decode cX2_fit 6 = .ok (.getfield 16, 3) := by decide +kernel
theorem dX2_fit_9 : decode cX2_fit 9 = .ok (.iload_n 1, 1) := by decide +kernel
theorem dX2_fit_10 : decode cX2_fit 10 = .ok (.iaload, 1) := by decide +kernel
theorem dX2_fit_11 : decode cX2_fit 11 = .ok (.aload_n 0, 1) := by decide +kernel
theorem dX2_fit_12 : decode cX2_fit 12 = .ok (.getfield 16, 3) := by decide +kernel
theorem dX2_fit_15 : decode cX2_fit 15 = .ok (.iload_n 2, 1) := by decide +kernel
theorem dX2_fit_16 : decode cX2_fit 16 = .ok (.iaload, 1) := by decide +kernel
theorem dX2_fit_17 : decode cX2_fit 17 = .ok (.iadd, 1) := by decide +kernel
theorem dX2_fit_18 : decode cX2_fit 18 = .ok (.ifCond .ne 32, 3) := by decide +kernel
theorem dX2_fit_21 : decode cX2_fit 21 = .ok (.aload_n 0, 1) := by decide +kernel
theorem dX2_fit_22 : decode cX2_fit 22 = .ok (.getfield 22, 3) := by decide +kernel
theorem dX2_fit_25 : decode cX2_fit 25 = .ok (.iload_n 1, 1) := by decide +kernel
theorem dX2_fit_26 : decode cX2_fit 26 = .ok (.iaload, 1) := by decide +kernel
theorem dX2_fit_27 : decode cX2_fit 27 = .ok (.iconst (-1), 1) := by decide +kernel
theorem dX2_fit_28 : decode cX2_fit 28 = .ok (.if_icmp .eq 22, 3) := by decide +kernel
theorem dX2_fit_31 : decode cX2_fit 31 = .ok (.aload_n 0, 1) := by decide +kernel
theorem dX2_fit_32 : decode cX2_fit 32 = .ok (.getfield 22, 3) := by decide +kernel
theorem dX2_fit_35 : decode cX2_fit 35 = .ok (.iload_n 1, 1) := by decide +kernel
theorem dX2_fit_36 : decode cX2_fit 36 = .ok (.iaload, 1) := by decide +kernel
theorem dX2_fit_37 : decode cX2_fit 37 = .ok (.aload_n 0, 1) := by decide +kernel
theorem dX2_fit_38 : decode cX2_fit 38 = .ok (.getfield 19, 3) := by decide +kernel
theorem dX2_fit_41 : decode cX2_fit 41 = .ok (.iload_n 2, 1) := by decide +kernel
theorem dX2_fit_42 : decode cX2_fit 42 = .ok (.iaload, 1) := by decide +kernel
theorem dX2_fit_43 : decode cX2_fit 43 = .ok (.if_icmp .ne 7, 3) := by decide +kernel
theorem dX2_fit_46 : decode cX2_fit 46 = .ok (.iconst 1, 1) := by decide +kernel
theorem dX2_fit_47 : decode cX2_fit 47 = .ok (.goto 4, 3) := by decide +kernel
theorem dX2_fit_50 : decode cX2_fit 50 = .ok (.iconst 0, 1) := by decide +kernel
theorem dX2_fit_51 : decode cX2_fit 51 = .ok (.ireturn, 1) := by decide +kernel
set_option maxRecDepth 20000 in
theorem ggX2_glue_X2_isStick : GoodIn wsX2_glue wsX2_isStick := goodIn_r _ [14, 4, 15, 16, 13, 17, 38, 39, 40, 41, 42, 43, 44, 45, 46, 47, 48, 49, 50] (by decide +kernel) (by decide +kernel)
set_option maxRecDepth 20000 in
theorem gX2_glue_X2_isStick : GoodIn wsX2_glue (wsV RX2 51 RX2 yX2_isStick wsX2_isStick) := goodIn_app (goodIn_of _ (by decide +kernel)) ggX2_glue_X2_isStick
set_option maxRecDepth 20000 in
theorem ggX2_glue_X2_no : GoodIn wsX2_glue wsX2_no := goodIn_r _ [21, 1, 38, 39, 40, 41, 42, 43, 44, 45, 46, 47, 48, 49, 50] (by decide +kernel) (by decide +kernel)
set_option maxRecDepth 20000 in
theorem gX2_glue_X2_no : GoodIn wsX2_glue (wsV RX2 58 RX2 yX2_no wsX2_no) := goodIn_app (goodIn_of _ (by decide +kernel)) ggX2_glue_X2_no
set_option maxRecDepth 20000 in
theorem ggX2_glue_X2_isIn : GoodIn wsX2_glue wsX2_isIn := goodIn_r _ [17] (by decide +kernel) (by decide +kernel)
set_option maxRecDepth 20000 in
theorem gX2_glue_X2_isIn : GoodIn wsX2_glue (va_wsS RX2 47 yX2_isIn wsX2_isIn) := goodIn_app (goodIn_of _ (by decide +kernel)) ggX2_glue_X2_isIn
set_option maxRecDepth 20000 in
theorem ggX2_glue_X2_fit : GoodIn wsX2_glue wsX2_fit := goodIn_r _ [25, 2, 7, 6, 38, 39, 40, 41, 42, 43, 44, 45, 46, 47, 48, 49, 50] (by decide +kernel) (by decide +kernel)
set_option maxRecDepth 20000 in
theorem gX2_glue_X2_fit : GoodIn wsX2_glue (wsV RX2 102 RX2 yX2_fit wsX2_fit) := goodIn_app (goodIn_of _ (by decide +kernel)) ggX2_glue_X2_fit
set_option maxRecDepth 20000 in
theorem ggX2_glue_X2_add : GoodIn wsX2_glue wsX2_add := goodIn_r _ [29, 3, 4, 5, 6, 7, 8, 9, 38, 39, 40, 41, 42, 43, 44, 45, 46, 47, 48, 49, 50] (by decide +kernel) (by decide +kernel)
set_option maxRecDepth 20000 in
theorem gX2_glue_X2_add : GoodIn wsX2_glue (wsV RX2 66 RX2 yX2_add wsX2_add) := goodIn_app (goodIn_of _ (by decide +kernel)) ggX2_glue_X2_add
set_option maxRecDepth 20000 in
theorem ggX2_glue_X2_lay : GoodIn wsX2_glue wsX2_lay := goodIn_r _ [33, 34, 8, 9, 35, 36, 13, 37, 38, 39, 40, 41, 42, 43, 44, 45, 46, 47, 48, 49, 50] (by decide +kernel) (by decide +kernel)
set_option maxRecDepth 20000 in
theorem gX2_glue_X2_lay : GoodIn wsX2_glue (wsV RX2 98 RX2 yX2_lay wsX2_lay) := goodIn_app (goodIn_of _ (by decide +kernel)) ggX2_glue_X2_lay
theorem dX2_glue_0 : decode cX2_glue 0 = .ok (.aload_n 0, 1) := by decide +kernel
theorem dX2_glue_1 : decode cX2_glue 1 = .ok (.iconst 0, 1) := by decide +kernel
theorem dX2_glue_2 : decode cX2_glue 2 = .ok (.putfield 40, 3) := by decide +kernel
theorem dX2_glue_5 : decode cX2_glue 5 = .ok (.aload_n 0, 1) := by decide +kernel
theorem dX2_glue_6 : decode cX2_glue 6 = .ok (.iload_n 1, 1) := by decide +kernel
theorem dX2_glue_7 : decode cX2_glue 7 = .ok (.invokevirtual 51, 3) := by decide +kernel
theorem dX2_glue_10 : decode cX2_glue 10 = .ok (.ifCond .eq 11, 3) := by decide +kernel
theorem dX2_glue_13 : decode cX2_glue 13 = .ok (.aload_n 0, 1) := by decide +kernel
theorem dX2_glue_14 : decode cX2_glue 14 = .ok (.iload_n 2, 1) := by decide +kernel
theorem dX2_glue_15 : decode cX2_glue 15 = .ok (.invokevirtual 51, 3) := by decide +kernel
theorem dX2_glue_18 : decode cX2_glue 18 = .ok (.ifCond .ne 9, 3) := by decide +kernel
theorem dX2_glue_21 : decode cX2_glue 21 = .ok (.aload_n 0, 1) := by decide +kernel
theorem dX2_glue_22 : decode cX2_glue 22 = .ok (.iconst 1, 1) := by decide +kernel
theorem dX2_glue_23 : decode cX2_glue 23 = .ok (.invokevirtual 58, 3) := by decide +kernel
theorem dX2_glue_26 : decode cX2_glue 26 = .ok (.ireturn, 1) := by decide +kernel
theorem dX2_glue_27 : decode cX2_glue 27 = .ok (.iload_n 3, 1) := by decide +kernel
theorem dX2_glue_28 : decode cX2_glue 28 = .ok (.iconst 0, 1) := by decide +kernel
theorem dX2_glue_29 : decode cX2_glue 29 = .ok (.iconst 2, 1) := by decide +kernel
theorem dX2_glue_30 : decode cX2_glue 30 = .ok (.invokestatic 47, 3) := by decide +kernel
theorem dX2_glue_33 : decode cX2_glue 33 = .ok (.ifCond .eq 14, 3) := by decide +kernel
theorem dX2_glue_36 : decode cX2_glue 36 = .ok (.iload 4, 2) := by decide +kernel
theorem dX2_glue_38 : decode cX2_glue 38 = .ok (.iconst 1, 1) := by decide +kernel
theorem dX2_glue_39 : decode cX2_glue 39 = .ok (.bipush 9, 2) := by decide +kernel
theorem dX2_glue_41 : decode cX2_glue 41 = .ok (.invokestatic 47, 3) := by decide +kernel
theorem dX2_glue_44 : decode cX2_glue 44 = .ok (.ifCond .ne 9, 3) := by decide +kernel
theorem dX2_glue_47 : decode cX2_glue 47 = .ok (.aload_n 0, 1) := by decide +kernel
theorem dX2_glue_48 : decode cX2_glue 48 = .ok (.iconst 2, 1) := by decide +kernel
theorem dX2_glue_49 : decode cX2_glue 49 = .ok (.invokevirtual 58, 3) := by decide +kernel
theorem dX2_glue_52 : decode cX2_glue 52 = .ok (.ireturn, 1) := by decide +kernel
theorem dX2_glue_53 : decode cX2_glue 53 = .ok (.aload_n 0, 1) := by decide +kernel
theorem dX2_glue_54 : decode cX2_glue 54 = .ok (.getfield 16, 3) := by decide +kernel
theorem dX2_glue_57 : decode cX2_glue 57 = .ok (.iload_n 1, 1) := by decide +kernel
theorem dX2_glue_58 : decode cX2_glue 58 = .ok (.iaload, 1) := by decide +kernel
theorem dX2_glue_59 : decode cX2_glue 59 = .ok (.aload_n 0, 1) := by decide +kernel
theorem dX2_glue_60 : decode cX2_glue 60 = .ok (.getfield 16, 3) := by decide +kernel
theorem dX2_glue_63 : decode cX2_glue 63 = .ok (.iload_n 2, 1) := by decide +kernel
theorem dX2_glue_64 : decode cX2_glue 64 = .ok (.iaload, 1) := by decide +kernel
theorem dX2_glue_65 : decode cX2_glue 65 = .ok (.iadd, 1) := by decide +kernel
theorem dX2_glue_66 : decode cX2_glue 66 = .ok (.ifCond .gt 35, 3) := by decide +kernel
theorem dX2_glue_69 : decode cX2_glue 69 = .ok (.iload_n 1, 1) := by decide +kernel
theorem dX2_glue_70 : decode cX2_glue 70 = .ok (.iload_n 2, 1) := by decide +kernel
theorem dX2_glue_71 : decode cX2_glue 71 = .ok (.if_icmp .eq 30, 3) := by decide +kernel
theorem dX2_glue_74 : decode cX2_glue 74 = .ok (.aload_n 0, 1) := by decide +kernel
theorem dX2_glue_75 : decode cX2_glue 75 = .ok (.getfield 9, 3) := by decide +kernel
theorem dX2_glue_78 : decode cX2_glue 78 = .ok (.iload_n 1, 1) := by decide +kernel
theorem dX2_glue_79 : decode cX2_glue 79 = .ok (.iaload, 1) := by decide +kernel
theorem dX2_glue_80 : decode cX2_glue 80 = .ok (.aload_n 0, 1) := by decide +kernel
theorem dX2_glue_81 : decode cX2_glue 81 = .ok (.getfield 9, 3) := by decide +kernel
theorem dX2_glue_84 : decode cX2_glue 84 = .ok (.iload_n 2, 1) := by decide +kernel
theorem dX2_glue_85 : decode cX2_glue 85 = .ok (.iaload, 1) := by decide +kernel
theorem dX2_glue_86 : decode cX2_glue 86 = .ok (.iadd, 1) := by decide +kernel
theorem dX2_glue_87 : decode cX2_glue 87 = .ok (.bipush 12, 2) := by decide +kernel
theorem dX2_glue_89 : decode cX2_glue 89 = .ok (.if_icmp .gt 12, 3) := by decide +kernel
theorem dX2_glue_92 : decode cX2_glue 92 = .ok (.aload_n 0, 1) := by decide +kernel
theorem dX2_glue_93 : decode cX2_glue 93 = .ok (.getfield 44, 3) := by decide +kernel
theorem dX2_glue_96 : decode cX2_glue 96 = .ok (.bipush 40, 2) := by decide +kernel
theorem dX2_glue_98 : decode cX2_glue 98 = .ok (.if_icmp .ne 9, 3) := by decide +kernel
theorem dX2_glue_101 : decode cX2_glue 101 = .ok (.aload_n 0, 1) := by decide +kernel
theorem dX2_glue_102 : decode cX2_glue 102 = .ok (.iconst 3, 1) := by decide +kernel
theorem dX2_glue_103 : decode cX2_glue 103 = .ok (.invokevirtual 58, 3) := by decide +kernel
theorem dX2_glue_106 : decode cX2_glue 106 = .ok (.ireturn, 1) := by decide +kernel
theorem dX2_glue_107 : decode cX2_glue 107 = .ok (.iload_n 3, 1) := by decide +kernel
theorem dX2_glue_108 : decode cX2_glue 108 = .ok (.ifCond .ne 16, 3) := by decide +kernel
theorem dX2_glue_111 : decode cX2_glue 111 = .ok (.aload_n 0, 1) := by decide +kernel
theorem dX2_glue_112 : decode cX2_glue 112 = .ok (.iload_n 1, 1) := by decide +kernel
theorem dX2_glue_113 : decode cX2_glue 113 = .ok (.iload_n 2, 1) := by decide +kernel
theorem dX2_glue_114 : decode cX2_glue 114 = .ok (.invokevirtual 102, 3) := by decide +kernel
theorem dX2_glue_117 : decode cX2_glue 117 = .ok (.ifCond .eq 7, 3) := by decide +kernel
theorem dX2_glue_120 : decode cX2_glue 120 = .ok (.iconst 3, 1) := by decide +kernel
theorem dX2_glue_121 : decode cX2_glue 121 = .ok (.goto 4, 3) := by decide +kernel
theorem dX2_glue_124 : decode cX2_glue 124 = .ok (.iconst 0, 1) := by decide +kernel
theorem dX2_glue_125 : decode cX2_glue 125 = .ok (.istore 5, 2) := by decide +kernel
theorem dX2_glue_127 : decode cX2_glue 127 = .ok (.aload_n 0, 1) := by decide +kernel
theorem dX2_glue_128 : decode cX2_glue 128 = .ok (.getfield 16, 3) := by decide +kernel
theorem dX2_glue_131 : decode cX2_glue 131 = .ok (.iload_n 1, 1) := by decide +kernel
theorem dX2_glue_132 : decode cX2_glue 132 = .ok (.iconst 1, 1) := by decide +kernel
theorem dX2_glue_133 : decode cX2_glue 133 = .ok (.iastore, 1) := by decide +kernel
theorem dX2_glue_134 : decode cX2_glue 134 = .ok (.aload_n 0, 1) := by decide +kernel
theorem dX2_glue_135 : decode cX2_glue 135 = .ok (.getfield 16, 3) := by decide +kernel
theorem dX2_glue_138 : decode cX2_glue 138 = .ok (.iload_n 2, 1) := by decide +kernel
theorem dX2_glue_139 : decode cX2_glue 139 = .ok (.iconst 1, 1) := by decide +kernel
theorem dX2_glue_140 : decode cX2_glue 140 = .ok (.iastore, 1) := by decide +kernel
theorem dX2_glue_141 : decode cX2_glue 141 = .ok (.aload_n 0, 1) := by decide +kernel
theorem dX2_glue_142 : decode cX2_glue 142 = .ok (.aload_n 0, 1) := by decide +kernel
theorem dX2_glue_143 : decode cX2_glue 143 = .ok (.getfield 9, 3) := by decide +kernel
theorem dX2_glue_146 : decode cX2_glue 146 = .ok (.iload_n 1, 1) := by decide +kernel
theorem dX2_glue_147 : decode cX2_glue 147 = .ok (.iaload, 1) := by decide +kernel
theorem dX2_glue_148 : decode cX2_glue 148 = .ok (.aload_n 0, 1) := by decide +kernel
theorem dX2_glue_149 : decode cX2_glue 149 = .ok (.getfield 9, 3) := by decide +kernel
theorem dX2_glue_152 : decode cX2_glue 152 = .ok (.iload_n 2, 1) := by decide +kernel
theorem dX2_glue_153 : decode cX2_glue 153 = .ok (.iaload, 1) := by decide +kernel
theorem dX2_glue_154 : decode cX2_glue 154 = .ok (.iadd, 1) := by decide +kernel
theorem dX2_glue_155 : decode cX2_glue 155 = .ok (.aload_n 0, 1) := by decide +kernel
theorem dX2_glue_156 : decode cX2_glue 156 = .ok (.getfield 13, 3) := by decide +kernel
theorem dX2_glue_159 : decode cX2_glue 159 = .ok (.iload_n 1, 1) := by decide +kernel
theorem dX2_glue_160 : decode cX2_glue 160 = .ok (.iaload, 1) := by decide +kernel
theorem dX2_glue_161 : decode cX2_glue 161 = .ok (.aload_n 0, 1) := by decide +kernel
theorem dX2_glue_162 : decode cX2_glue 162 = .ok (.getfield 19, 3) := by decide +kernel
theorem dX2_glue_165 : decode cX2_glue 165 = .ok (.iload_n 1, 1) := by decide +kernel
theorem dX2_glue_166 : decode cX2_glue 166 = .ok (.iaload, 1) := by decide +kernel
theorem dX2_glue_167 : decode cX2_glue 167 = .ok (.aload_n 0, 1) := by decide +kernel
theorem dX2_glue_168 : decode cX2_glue 168 = .ok (.getfield 22, 3) := by decide +kernel
theorem dX2_glue_171 : decode cX2_glue 171 = .ok (.iload_n 2, 1) := by decide +kernel
theorem dX2_glue_172 : decode cX2_glue 172 = .ok (.iaload, 1) := by decide +kernel
theorem dX2_glue_173 : decode cX2_glue 173 = .ok (.invokevirtual 66, 3) := by decide +kernel
theorem dX2_glue_176 : decode cX2_glue 176 = .ok (.istore 6, 2) := by decide +kernel
theorem dX2_glue_178 : decode cX2_glue 178 = .ok (.aload_n 0, 1) := by decide +kernel
theorem dX2_glue_179 : decode cX2_glue 179 = .ok (.iload_n 1, 1) := by decide +kernel
theorem dX2_glue_180 : decode cX2_glue 180 = .ok (.iconst 0, 1) := by decide +kernel
theorem dX2_glue_181 : decode cX2_glue 181 = .ok (.aload_n 0, 1) := by decide +kernel
theorem dX2_glue_182 : decode cX2_glue 182 = .ok (.getfield 9, 3) := by decide +kernel
theorem dX2_glue_185 : decode cX2_glue 185 = .ok (.iload_n 1, 1) := by decide +kernel
theorem dX2_glue_186 : decode cX2_glue 186 = .ok (.iaload, 1) := by decide +kernel
theorem dX2_glue_187 : decode cX2_glue 187 = .ok (.iload 6, 2) := by decide +kernel
theorem dX2_glue_189 : decode cX2_glue 189 = .ok (.iconst 0, 1) := by decide +kernel
theorem dX2_glue_190 : decode cX2_glue 190 = .ok (.iconst 0, 1) := by decide +kernel
theorem dX2_glue_191 : decode cX2_glue 191 = .ok (.invokevirtual 98, 3) := by decide +kernel
theorem dX2_glue_194 : decode cX2_glue 194 = .ok (.aload_n 0, 1) := by decide +kernel
theorem dX2_glue_195 : decode cX2_glue 195 = .ok (.iload_n 2, 1) := by decide +kernel
theorem dX2_glue_196 : decode cX2_glue 196 = .ok (.iconst 0, 1) := by decide +kernel
theorem dX2_glue_197 : decode cX2_glue 197 = .ok (.aload_n 0, 1) := by decide +kernel
theorem dX2_glue_198 : decode cX2_glue 198 = .ok (.getfield 9, 3) := by decide +kernel
theorem dX2_glue_201 : decode cX2_glue 201 = .ok (.iload_n 2, 1) := by decide +kernel
theorem dX2_glue_202 : decode cX2_glue 202 = .ok (.iaload, 1) := by decide +kernel
theorem dX2_glue_203 : decode cX2_glue 203 = .ok (.iload 6, 2) := by decide +kernel
theorem dX2_glue_205 : decode cX2_glue 205 = .ok (.aload_n 0, 1) := by decide +kernel
theorem dX2_glue_206 : decode cX2_glue 206 = .ok (.getfield 9, 3) := by decide +kernel
theorem dX2_glue_209 : decode cX2_glue 209 = .ok (.iload_n 1, 1) := by decide +kernel
theorem dX2_glue_210 : decode cX2_glue 210 = .ok (.iaload, 1) := by decide +kernel
theorem dX2_glue_211 : decode cX2_glue 211 = .ok (.iload_n 3, 1) := by decide +kernel
theorem dX2_glue_212 : decode cX2_glue 212 = .ok (.invokevirtual 98, 3) := by decide +kernel
theorem dX2_glue_215 : decode cX2_glue 215 = .ok (.aload_n 0, 1) := by decide +kernel
theorem dX2_glue_216 : decode cX2_glue 216 = .ok (.getfield 28, 3) := by decide +kernel
theorem dX2_glue_219 : decode cX2_glue 219 = .ok (.bipush 12, 2) := by decide +kernel
theorem dX2_glue_221 : decode cX2_glue 221 = .ok (.iload 6, 2) := by decide +kernel
theorem dX2_glue_223 : decode cX2_glue 223 = .ok (.imul, 1) := by decide +kernel
theorem dX2_glue_224 : decode cX2_glue 224 = .ok (.aload_n 0, 1) := by decide +kernel
theorem dX2_glue_225 : decode cX2_glue 225 = .ok (.getfield 9, 3) := by decide +kernel
theorem dX2_glue_228 : decode cX2_glue 228 = .ok (.iload_n 1, 1) := by decide +kernel
theorem dX2_glue_229 : decode cX2_glue 229 = .ok (.iaload, 1) := by decide +kernel
theorem dX2_glue_230 : decode cX2_glue 230 = .ok (.iadd, 1) := by decide +kernel
theorem dX2_glue_231 : decode cX2_glue 231 = .ok (.iconst 1, 1) := by decide +kernel
theorem dX2_glue_232 : decode cX2_glue 232 = .ok (.isub, 1) := by decide +kernel
theorem dX2_glue_233 : decode cX2_glue 233 = .ok (.iload 4, 2) := by decide +kernel
theorem dX2_glue_235 : decode cX2_glue 235 = .ok (.iload 5, 2) := by decide +kernel
theorem dX2_glue_237 : decode cX2_glue 237 = .ok (.iadd, 1) := by decide +kernel
theorem dX2_glue_238 : decode cX2_glue 238 = .ok (.iastore, 1) := by decide +kernel
theorem dX2_glue_239 : decode cX2_glue 239 = .ok (.aload_n 0, 1) := by decide +kernel
theorem dX2_glue_240 : decode cX2_glue 240 = .ok (.getfield 31, 3) := by decide +kernel
theorem dX2_glue_243 : decode cX2_glue 243 = .ok (.bipush 12, 2) := by decide +kernel
theorem dX2_glue_245 : decode cX2_glue 245 = .ok (.iload 6, 2) := by decide +kernel
theorem dX2_glue_247 : decode cX2_glue 247 = .ok (.imul, 1) := by decide +kernel
theorem dX2_glue_248 : decode cX2_glue 248 = .ok (.aload_n 0, 1) := by decide +kernel
theorem dX2_glue_249 : decode cX2_glue 249 = .ok (.getfield 9, 3) := by decide +kernel
theorem dX2_glue_252 : decode cX2_glue 252 = .ok (.iload_n 1, 1) := by decide +kernel
theorem dX2_glue_253 : decode cX2_glue 253 = .ok (.iaload, 1) := by decide +kernel
theorem dX2_glue_254 : decode cX2_glue 254 = .ok (.iadd, 1) := by decide +kernel
theorem dX2_glue_255 : decode cX2_glue 255 = .ok (.iconst 1, 1) := by decide +kernel
theorem dX2_glue_256 : decode cX2_glue 256 = .ok (.isub, 1) := by decide +kernel
theorem dX2_glue_257 : decode cX2_glue 257 = .ok (.iconst 1, 1) := by decide +kernel
theorem dX2_glue_258 : decode cX2_glue 258 = .ok (.iastore, 1) := by decide +kernel
theorem dX2_glue_259 : decode cX2_glue 259 = .ok (.iload 6, 2) := by decide +kernel
theorem dX2_glue_261 : decode cX2_glue 261 = .ok (.ireturn, 1) := by decide +kernel
set_option maxRecDepth 20000 in
theorem ggX2_runesOn_X2_runesAt : GoodIn wsX2_runesOn wsX2_runesAt := goodIn_r _ [6, 7, 8, 9, 5, 10, 11, 12, 13, 14, 15, 16, 17, 18, 19, 20, 21, 22, 23] (by decide +kernel) (by decide +kernel)
set_option maxRecDepth 20000 in
theorem gX2_runesOn_X2_runesAt : GoodIn wsX2_runesOn (wsV RX2 80 RX2 yX2_runesAt wsX2_runesAt) := goodIn_app (goodIn_of _ (by decide +kernel)) ggX2_runesOn_X2_runesAt
theorem dX2_runesOn_0 : decode cX2_runesOn 0 = .ok (.iconst 0, 1) := by decide +kernel
theorem dX2_runesOn_1 : decode cX2_runesOn 1 = .ok (.istore_n 2, 1) := by decide +kernel
theorem dX2_runesOn_2 : decode cX2_runesOn 2 = .ok (.iconst 0, 1) := by decide +kernel
theorem dX2_runesOn_3 : decode cX2_runesOn 3 = .ok (.istore_n 3, 1) := by decide +kernel
theorem dX2_runesOn_4 : decode cX2_runesOn 4 = .ok (.iload_n 3, 1) := by decide +kernel
theorem dX2_runesOn_5 : decode cX2_runesOn 5 = .ok (.aload_n 0, 1) := by decide +kernel
theorem dX2_runesOn_6 : decode cX2_runesOn 6 = .ok (.getfield 9, 3) := by decide +kernel
theorem dX2_runesOn_9 : decode cX2_runesOn 9 = .ok (.iload_n 1, 1) := by decide +kernel
theorem dX2_runesOn_10 : decode cX2_runesOn 10 = .ok (.iaload, 1) := by decide +kernel
theorem dX2_runesOn_11 : decode cX2_runesOn 11 = .ok (.if_icmp .ge 18, 3) := by decide +kernel
theorem dX2_runesOn_14 : decode cX2_runesOn 14 = .ok (.iload_n 2, 1) := by decide +kernel
theorem dX2_runesOn_15 : decode cX2_runesOn 15 = .ok (.aload_n 0, 1) := by decide +kernel
theorem dX2_runesOn_16 : decode cX2_runesOn 16 = .ok (.iload_n 1, 1) := by decide +kernel
theorem dX2_runesOn_17 : decode cX2_runesOn 17 = .ok (.iload_n 3, 1) := by decide +kernel
theorem dX2_runesOn_18 : decode cX2_runesOn 18 = .ok (.invokevirtual 80, 3) := by decide +kernel
theorem dX2_runesOn_21 : decode cX2_runesOn 21 = .ok (.iadd, 1) := by decide +kernel
theorem dX2_runesOn_22 : decode cX2_runesOn 22 = .ok (.istore_n 2, 1) := by decide +kernel
theorem dX2_runesOn_23 : decode cX2_runesOn 23 = .ok (.iinc 3 1, 3) := by decide +kernel
theorem dX2_runesOn_26 : decode cX2_runesOn 26 = .ok (.goto (-22), 3) := by decide +kernel
theorem dX2_runesOn_29 : decode cX2_runesOn 29 = .ok (.iload_n 2, 1) := by decide +kernel
theorem dX2_runesOn_30 : decode cX2_runesOn 30 = .ok (.ireturn, 1) := by decide +kernel
theorem dX2_glued_0 : decode cX2_glued 0 = .ok (.iconst 0, 1) := by decide +kernel
theorem dX2_glued_1 : decode cX2_glued 1 = .ok (.istore_n 2, 1) := by decide +kernel
theorem dX2_glued_2 : decode cX2_glued 2 = .ok (.iconst 0, 1) := by decide +kernel
theorem dX2_glued_3 : decode cX2_glued 3 = .ok (.istore_n 3, 1) := by decide +kernel
theorem dX2_glued_4 : decode cX2_glued 4 = .ok (.iload_n 3, 1) := by decide +kernel
theorem dX2_glued_5 : decode cX2_glued 5 = .ok (.aload_n 0, 1) := by decide +kernel
theorem dX2_glued_6 : decode cX2_glued 6 = .ok (.getfield 9, 3) := by decide +kernel
theorem dX2_glued_9 : decode cX2_glued 9 = .ok (.iload_n 1, 1) := by decide +kernel
theorem dX2_glued_10 : decode cX2_glued 10 = .ok (.iaload, 1) := by decide +kernel
theorem dX2_glued_11 : decode cX2_glued 11 = .ok (.iconst 1, 1) := by decide +kernel
theorem dX2_glued_12 : decode cX2_glued 12 = .ok (.isub, 1) := by decide +kernel
theorem dX2_glued_13 : decode cX2_glued 13 = .ok (.if_icmp .ge 23, 3) := by decide +kernel
theorem dX2_glued_16 : decode cX2_glued 16 = .ok (.iload_n 2, 1) := by decide +kernel
theorem dX2_glued_17 : decode cX2_glued 17 = .ok (.aload_n 0, 1) := by decide +kernel
theorem dX2_glued_18 : decode cX2_glued 18 = .ok (.getfield 31, 3) := by decide +kernel
theorem dX2_glued_21 : decode cX2_glued 21 = .ok (.bipush 12, 2) := by decide +kernel
theorem dX2_glued_23 : decode cX2_glued 23 = .ok (.iload_n 1, 1) := by decide +kernel
theorem dX2_glued_24 : decode cX2_glued 24 = .ok (.imul, 1) := by decide +kernel
theorem dX2_glued_25 : decode cX2_glued 25 = .ok (.iload_n 3, 1) := by decide +kernel
theorem dX2_glued_26 : decode cX2_glued 26 = .ok (.iadd, 1) := by decide +kernel
theorem dX2_glued_27 : decode cX2_glued 27 = .ok (.iaload, 1) := by decide +kernel
theorem dX2_glued_28 : decode cX2_glued 28 = .ok (.iadd, 1) := by decide +kernel
theorem dX2_glued_29 : decode cX2_glued 29 = .ok (.istore_n 2, 1) := by decide +kernel
theorem dX2_glued_30 : decode cX2_glued 30 = .ok (.iinc 3 1, 3) := by decide +kernel
theorem dX2_glued_33 : decode cX2_glued 33 = .ok (.goto (-29), 3) := by decide +kernel
theorem dX2_glued_36 : decode cX2_glued 36 = .ok (.iload_n 2, 1) := by decide +kernel
theorem dX2_glued_37 : decode cX2_glued 37 = .ok (.ireturn, 1) := by decide +kernel
set_option maxRecDepth 20000 in
theorem ggX2_stickTold_X2_runesOn : GoodIn wsX2_stickTold wsX2_runesOn := goodIn_r _ [11, 2, 12, 13, 14, 10, 15, 16, 17, 18, 19, 25, 26, 27, 28, 29, 30, 31, 32, 33, 34, 35, 36, 37] (by decide +kernel) (by decide +kernel)
set_option maxRecDepth 20000 in
theorem gX2_stickTold_X2_runesOn : GoodIn wsX2_stickTold (wsV RX2 106 RX2 yX2_runesOn wsX2_runesOn) := goodIn_app (goodIn_of _ (by decide +kernel)) ggX2_stickTold_X2_runesOn
set_option maxRecDepth 20000 in
theorem ggX2_stickTold_X2_glued : GoodIn wsX2_stickTold wsX2_glued := goodIn_r _ [23, 2, 24, 25, 26, 27, 28, 29, 30, 31, 32, 33, 34, 35, 36, 37] (by decide +kernel) (by decide +kernel)
set_option maxRecDepth 20000 in
theorem gX2_stickTold_X2_glued : GoodIn wsX2_stickTold (wsV RX2 109 RX2 yX2_glued wsX2_glued) := goodIn_app (goodIn_of _ (by decide +kernel)) ggX2_stickTold_X2_glued
theorem dX2_stickTold_0 : decode cX2_stickTold 0 = .ok (.bipush 7, 2) := by decide +kernel
theorem dX2_stickTold_2 : decode cX2_stickTold 2 = .ok (.newarray .int, 2) := by decide +kernel
theorem dX2_stickTold_4 : decode cX2_stickTold 4 = .ok (.dup, 1) := by decide +kernel
theorem dX2_stickTold_5 : decode cX2_stickTold 5 = .ok (.iconst 0, 1) := by decide +kernel
theorem dX2_stickTold_6 : decode cX2_stickTold 6 = .ok (.aload_n 0, 1) := by decide +kernel
theorem dX2_stickTold_7 : decode cX2_stickTold 7 = .ok (.getfield 9, 3) := by decide +kernel
theorem dX2_stickTold_10 : decode cX2_stickTold 10 = .ok (.iload_n 1, 1) := by decide +kernel
theorem dX2_stickTold_11 : decode cX2_stickTold 11 = .ok (.iaload, 1) := by decide +kernel
theorem dX2_stickTold_12 : decode cX2_stickTold 12 = .ok (.iastore, 1) := by decide +kernel
theorem dX2_stickTold_13 : decode cX2_stickTold 13 = .ok (.dup, 1) := by decide +kernel
theorem dX2_stickTold_14 : decode cX2_stickTold 14 = .ok (.iconst 1, 1) := by decide +kernel
theorem dX2_stickTold_15 : decode cX2_stickTold 15 = .ok (.aload_n 0, 1) := by decide +kernel
theorem dX2_stickTold_16 : decode cX2_stickTold 16 = .ok (.getfield 13, 3) := by decide +kernel
theorem dX2_stickTold_19 : decode cX2_stickTold 19 = .ok (.iload_n 1, 1) := by decide +kernel
theorem dX2_stickTold_20 : decode cX2_stickTold 20 = .ok (.iaload, 1) := by decide +kernel
theorem dX2_stickTold_21 : decode cX2_stickTold 21 = .ok (.iastore, 1) := by decide +kernel
theorem dX2_stickTold_22 : decode cX2_stickTold 22 = .ok (.dup, 1) := by decide +kernel
theorem dX2_stickTold_23 : decode cX2_stickTold 23 = .ok (.iconst 2, 1) := by decide +kernel
theorem dX2_stickTold_24 : decode cX2_stickTold 24 = .ok (.aload_n 0, 1) := by decide +kernel
theorem dX2_stickTold_25 : decode cX2_stickTold 25 = .ok (.iload_n 1, 1) := by decide +kernel
theorem dX2_stickTold_26 : decode cX2_stickTold 26 = .ok (.invokevirtual 106, 3) := by decide +kernel
theorem dX2_stickTold_29 : decode cX2_stickTold 29 = .ok (.iastore, 1) := by decide +kernel
theorem dX2_stickTold_30 : decode cX2_stickTold 30 = .ok (.dup, 1) := by decide +kernel
theorem dX2_stickTold_31 : decode cX2_stickTold 31 = .ok (.iconst 3, 1) := by decide +kernel
theorem dX2_stickTold_32 : decode cX2_stickTold 32 = .ok (.aload_n 0, 1) := by decide +kernel
theorem dX2_stickTold_33 : decode cX2_stickTold 33 = .ok (.iload_n 1, 1) := by decide +kernel
theorem dX2_stickTold_34 : decode cX2_stickTold 34 = .ok (.invokevirtual 109, 3) := by decide +kernel
theorem dX2_stickTold_37 : decode cX2_stickTold 37 = .ok (.iastore, 1) := by decide +kernel
theorem dX2_stickTold_38 : decode cX2_stickTold 38 = .ok (.dup, 1) := by decide +kernel
theorem dX2_stickTold_39 : decode cX2_stickTold 39 = .ok (.iconst 4, 1) := by decide +kernel
theorem dX2_stickTold_40 : decode cX2_stickTold 40 = .ok (.aload_n 0, 1) := by decide +kernel
theorem dX2_stickTold_41 : decode cX2_stickTold 41 = .ok (.getfield 19, 3) := by decide +kernel
theorem dX2_stickTold_44 : decode cX2_stickTold 44 = .ok (.iload_n 1, 1) := by decide +kernel
theorem dX2_stickTold_45 : decode cX2_stickTold 45 = .ok (.iaload, 1) := by decide +kernel
theorem dX2_stickTold_46 : decode cX2_stickTold 46 = .ok (.iastore, 1) := by decide +kernel
theorem dX2_stickTold_47 : decode cX2_stickTold 47 = .ok (.dup, 1) := by decide +kernel
theorem dX2_stickTold_48 : decode cX2_stickTold 48 = .ok (.iconst 5, 1) := by decide +kernel
theorem dX2_stickTold_49 : decode cX2_stickTold 49 = .ok (.aload_n 0, 1) := by decide +kernel
theorem dX2_stickTold_50 : decode cX2_stickTold 50 = .ok (.getfield 22, 3) := by decide +kernel
theorem dX2_stickTold_53 : decode cX2_stickTold 53 = .ok (.iload_n 1, 1) := by decide +kernel
theorem dX2_stickTold_54 : decode cX2_stickTold 54 = .ok (.iaload, 1) := by decide +kernel
theorem dX2_stickTold_55 : decode cX2_stickTold 55 = .ok (.iastore, 1) := by decide +kernel
theorem dX2_stickTold_56 : decode cX2_stickTold 56 = .ok (.dup, 1) := by decide +kernel
theorem dX2_stickTold_57 : decode cX2_stickTold 57 = .ok (.bipush 6, 2) := by decide +kernel
theorem dX2_stickTold_59 : decode cX2_stickTold 59 = .ok (.aload_n 0, 1) := by decide +kernel
theorem dX2_stickTold_60 : decode cX2_stickTold 60 = .ok (.getfield 16, 3) := by decide +kernel
theorem dX2_stickTold_63 : decode cX2_stickTold 63 = .ok (.iload_n 1, 1) := by decide +kernel
theorem dX2_stickTold_64 : decode cX2_stickTold 64 = .ok (.iaload, 1) := by decide +kernel
theorem dX2_stickTold_65 : decode cX2_stickTold 65 = .ok (.iastore, 1) := by decide +kernel
theorem dX2_stickTold_66 : decode cX2_stickTold 66 = .ok (.astore_n 3, 1) := by decide +kernel
theorem dX2_stickTold_67 : decode cX2_stickTold 67 = .ok (.aload_n 3, 1) := by decide +kernel
theorem dX2_stickTold_68 : decode cX2_stickTold 68 = .ok (.iload_n 2, 1) := by decide +kernel
theorem dX2_stickTold_69 : decode cX2_stickTold 69 = .ok (.iaload, 1) := by decide +kernel
theorem dX2_stickTold_70 : decode cX2_stickTold 70 = .ok (.ireturn, 1) := by decide +kernel
set_option maxRecDepth 20000 in
theorem ggX2_stick_X2_isStick : GoodIn wsX2_stick wsX2_isStick := goodIn_r _ [6, 7, 8, 9, 5, 10, 42, 43, 44, 45, 46, 47, 48, 49, 50, 51, 52, 53, 54] (by decide +kernel) (by decide +kernel)
set_option maxRecDepth 20000 in
theorem gX2_stick_X2_isStick : GoodIn wsX2_stick (wsV RX2 51 RX2 yX2_isStick wsX2_isStick) := goodIn_app (goodIn_of _ (by decide +kernel)) ggX2_stick_X2_isStick
set_option maxRecDepth 20000 in
theorem ggX2_stick_X2_isIn : GoodIn wsX2_stick wsX2_isIn := goodIn_r _ [10] (by decide +kernel) (by decide +kernel)
set_option maxRecDepth 20000 in
theorem gX2_stick_X2_isIn : GoodIn wsX2_stick (va_wsS RX2 47 yX2_isIn wsX2_isIn) := goodIn_app (goodIn_of _ (by decide +kernel)) ggX2_stick_X2_isIn
set_option maxRecDepth 20000 in
theorem ggX2_stick_X2_stickTold : GoodIn wsX2_stick wsX2_stickTold := goodIn_r _ [14, 15, 16, 17, 18, 19, 20, 21, 22, 23, 5, 24, 25, 26, 27, 28, 29, 30, 31, 32, 33, 34, 35, 36, 37, 42, 43, 44, 45, 46, 47, 48, 49, 50, 51, 52, 53, 54] (by decide +kernel) (by decide +kernel)
set_option maxRecDepth 20000 in
theorem gX2_stick_X2_stickTold : GoodIn wsX2_stick (wsV RX2 112 RX2 yX2_stickTold wsX2_stickTold) := goodIn_app (goodIn_of _ (by decide +kernel)) ggX2_stick_X2_stickTold
set_option maxRecDepth 20000 in
theorem ggX2_stick_X2_no : GoodIn wsX2_stick wsX2_no := goodIn_r _ [41, 1, 42, 43, 44, 45, 46, 47, 48, 49, 50, 51, 52, 53, 54] (by decide +kernel) (by decide +kernel)
set_option maxRecDepth 20000 in
theorem gX2_stick_X2_no : GoodIn wsX2_stick (wsV RX2 58 RX2 yX2_no wsX2_no) := goodIn_app (goodIn_of _ (by decide +kernel)) ggX2_stick_X2_no
theorem dX2_stick_0 : decode cX2_stick 0 = .ok (.aload_n 0, 1) := by decide +kernel
theorem dX2_stick_1 : decode cX2_stick 1 = .ok (.iconst 0, 1) := by decide +kernel
theorem dX2_stick_2 : decode cX2_stick 2 = .ok (.putfield 40, 3) := by decide +kernel
theorem dX2_stick_5 : decode cX2_stick 5 = .ok (.aload_n 0, 1) := by decide +kernel
theorem dX2_stick_6 : decode cX2_stick 6 = .ok (.iload_n 1, 1) := by decide +kernel
theorem dX2_stick_7 : decode cX2_stick 7 = .ok (.invokevirtual 51, 3) := by decide +kernel
theorem dX2_stick_10 : decode cX2_stick 10 = .ok (.ifCond .eq 22, 3) := by decide +kernel
theorem dX2_stick_13 : decode cX2_stick 13 = .ok (.iload_n 2, 1) := by decide +kernel
theorem dX2_stick_14 : decode cX2_stick 14 = .ok (.iconst 0, 1) := by decide +kernel
theorem dX2_stick_15 : decode cX2_stick 15 = .ok (.bipush 6, 2) := by decide +kernel
theorem dX2_stick_17 : decode cX2_stick 17 = .ok (.invokestatic 47, 3) := by decide +kernel
theorem dX2_stick_20 : decode cX2_stick 20 = .ok (.ifCond .eq 12, 3) := by decide +kernel
theorem dX2_stick_23 : decode cX2_stick 23 = .ok (.aload_n 0, 1) := by decide +kernel
theorem dX2_stick_24 : decode cX2_stick 24 = .ok (.iload_n 1, 1) := by decide +kernel
theorem dX2_stick_25 : decode cX2_stick 25 = .ok (.iload_n 2, 1) := by decide +kernel
theorem dX2_stick_26 : decode cX2_stick 26 = .ok (.invokevirtual 112, 3) := by decide +kernel
theorem dX2_stick_29 : decode cX2_stick 29 = .ok (.goto 8, 3) := by decide +kernel
theorem dX2_stick_32 : decode cX2_stick 32 = .ok (.aload_n 0, 1) := by decide +kernel
theorem dX2_stick_33 : decode cX2_stick 33 = .ok (.iconst 1, 1) := by decide +kernel
theorem dX2_stick_34 : decode cX2_stick 34 = .ok (.invokevirtual 58, 3) := by decide +kernel
theorem dX2_stick_37 : decode cX2_stick 37 = .ok (.ireturn, 1) := by decide +kernel
set_option maxRecDepth 20000 in
theorem ggX2_rune_X2_isSpot : GoodIn wsX2_rune wsX2_isSpot := goodIn_r _ [7, 8, 9, 10, 11, 6, 12, 13, 14, 15, 16, 17, 18, 19, 27, 28, 29, 30, 31, 32, 33, 34, 35, 36, 37, 38, 39] (by decide +kernel) (by decide +kernel)
set_option maxRecDepth 20000 in
theorem gX2_rune_X2_isSpot : GoodIn wsX2_rune (wsV RX2 70 RX2 yX2_isSpot wsX2_isSpot) := goodIn_app (goodIn_of _ (by decide +kernel)) ggX2_rune_X2_isSpot
set_option maxRecDepth 20000 in
theorem ggX2_rune_X2_spot : GoodIn wsX2_rune wsX2_spot := goodIn_r _ [22] (by decide +kernel) (by decide +kernel)
set_option maxRecDepth 20000 in
theorem gX2_rune_X2_spot : GoodIn wsX2_rune (va_wsS RX2 76 yX2_spot wsX2_spot) := goodIn_app (goodIn_of _ (by decide +kernel)) ggX2_rune_X2_spot
set_option maxRecDepth 20000 in
theorem ggX2_rune_X2_no : GoodIn wsX2_rune wsX2_no := goodIn_r _ [26, 1, 27, 28, 29, 30, 31, 32, 33, 34, 35, 36, 37, 38, 39] (by decide +kernel) (by decide +kernel)
set_option maxRecDepth 20000 in
theorem gX2_rune_X2_no : GoodIn wsX2_rune (wsV RX2 58 RX2 yX2_no wsX2_no) := goodIn_app (goodIn_of _ (by decide +kernel)) ggX2_rune_X2_no
theorem dX2_rune_0 : decode cX2_rune 0 = .ok (.aload_n 0, 1) := by decide +kernel
theorem dX2_rune_1 : decode cX2_rune 1 = .ok (.iconst 0, 1) := by decide +kernel
theorem dX2_rune_2 : decode cX2_rune 2 = .ok (.putfield 40, 3) := by decide +kernel
theorem dX2_rune_5 : decode cX2_rune 5 = .ok (.aload_n 0, 1) := by decide +kernel
theorem dX2_rune_6 : decode cX2_rune 6 = .ok (.iload_n 1, 1) := by decide +kernel
theorem dX2_rune_7 : decode cX2_rune 7 = .ok (.iload_n 2, 1) := by decide +kernel
theorem dX2_rune_8 : decode cX2_rune 8 = .ok (.iload_n 3, 1) := by decide +kernel
theorem dX2_rune_9 : decode cX2_rune 9 = .ok (.invokevirtual 70, 3) := by decide +kernel
theorem dX2_rune_12 : decode cX2_rune 12 = .ok (.ifCond .eq 19, 3) := by decide +kernel
theorem dX2_rune_15 : decode cX2_rune 15 = .ok (.aload_n 0, 1) := by decide +kernel
theorem dX2_rune_16 : decode cX2_rune 16 = .ok (.getfield 25, 3) := by decide +kernel
theorem dX2_rune_19 : decode cX2_rune 19 = .ok (.iload_n 1, 1) := by decide +kernel
theorem dX2_rune_20 : decode cX2_rune 20 = .ok (.iload_n 3, 1) := by decide +kernel
theorem dX2_rune_21 : decode cX2_rune 21 = .ok (.iload_n 2, 1) := by decide +kernel
theorem dX2_rune_22 : decode cX2_rune 22 = .ok (.invokestatic 76, 3) := by decide +kernel
theorem dX2_rune_25 : decode cX2_rune 25 = .ok (.iaload, 1) := by decide +kernel
theorem dX2_rune_26 : decode cX2_rune 26 = .ok (.iconst 1, 1) := by decide +kernel
theorem dX2_rune_27 : decode cX2_rune 27 = .ok (.isub, 1) := by decide +kernel
theorem dX2_rune_28 : decode cX2_rune 28 = .ok (.goto 8, 3) := by decide +kernel
theorem dX2_rune_31 : decode cX2_rune 31 = .ok (.aload_n 0, 1) := by decide +kernel
theorem dX2_rune_32 : decode cX2_rune 32 = .ok (.iconst 1, 1) := by decide +kernel
theorem dX2_rune_33 : decode cX2_rune 33 = .ok (.invokevirtual 58, 3) := by decide +kernel
theorem dX2_rune_36 : decode cX2_rune 36 = .ok (.ireturn, 1) := by decide +kernel
set_option maxRecDepth 20000 in
theorem ggX2_strength_X2_isStick : GoodIn wsX2_strength wsX2_isStick := goodIn_r _ [7, 8, 9, 10, 6, 11, 33, 34, 35, 36, 37, 38, 39, 40, 41, 42, 43, 44, 45] (by decide +kernel) (by decide +kernel)
set_option maxRecDepth 20000 in
theorem gX2_strength_X2_isStick : GoodIn wsX2_strength (wsV RX2 51 RX2 yX2_isStick wsX2_isStick) := goodIn_app (goodIn_of _ (by decide +kernel)) ggX2_strength_X2_isStick
set_option maxRecDepth 20000 in
theorem ggX2_strength_X2_isIn : GoodIn wsX2_strength wsX2_isIn := goodIn_r _ [11] (by decide +kernel) (by decide +kernel)
set_option maxRecDepth 20000 in
theorem gX2_strength_X2_isIn : GoodIn wsX2_strength (va_wsS RX2 47 yX2_isIn wsX2_isIn) := goodIn_app (goodIn_of _ (by decide +kernel)) ggX2_strength_X2_isIn
set_option maxRecDepth 20000 in
theorem ggX2_strength_X2_strong : GoodIn wsX2_strength wsX2_strong := goodIn_r _ [15, 16, 17, 18, 19, 20, 21, 22, 23, 6, 24, 25, 26, 27, 28, 33, 34, 35, 36, 37, 38, 39, 40, 41, 42, 43, 44, 45] (by decide +kernel) (by decide +kernel)
set_option maxRecDepth 20000 in
theorem gX2_strength_X2_strong : GoodIn wsX2_strength (wsV RX2 89 RX2 yX2_strong wsX2_strong) := goodIn_app (goodIn_of _ (by decide +kernel)) ggX2_strength_X2_strong
set_option maxRecDepth 20000 in
theorem ggX2_strength_X2_no : GoodIn wsX2_strength wsX2_no := goodIn_r _ [32, 1, 33, 34, 35, 36, 37, 38, 39, 40, 41, 42, 43, 44, 45] (by decide +kernel) (by decide +kernel)
set_option maxRecDepth 20000 in
theorem gX2_strength_X2_no : GoodIn wsX2_strength (wsV RX2 58 RX2 yX2_no wsX2_no) := goodIn_app (goodIn_of _ (by decide +kernel)) ggX2_strength_X2_no
theorem dX2_strength_0 : decode cX2_strength 0 = .ok (.aload_n 0, 1) := by decide +kernel
theorem dX2_strength_1 : decode cX2_strength 1 = .ok (.iconst 0, 1) := by decide +kernel
theorem dX2_strength_2 : decode cX2_strength 2 = .ok (.putfield 40, 3) := by decide +kernel
theorem dX2_strength_5 : decode cX2_strength 5 = .ok (.aload_n 0, 1) := by decide +kernel
theorem dX2_strength_6 : decode cX2_strength 6 = .ok (.iload_n 1, 1) := by decide +kernel
theorem dX2_strength_7 : decode cX2_strength 7 = .ok (.invokevirtual 51, 3) := by decide +kernel
theorem dX2_strength_10 : decode cX2_strength 10 = .ok (.ifCond .eq 28, 3) := by decide +kernel
theorem dX2_strength_13 : decode cX2_strength 13 = .ok (.iload_n 2, 1) := by decide +kernel
theorem dX2_strength_14 : decode cX2_strength 14 = .ok (.iconst 0, 1) := by decide +kernel
theorem dX2_strength_15 : decode cX2_strength 15 = .ok (.aload_n 0, 1) := by decide +kernel
theorem dX2_strength_16 : decode cX2_strength 16 = .ok (.getfield 9, 3) := by decide +kernel
theorem dX2_strength_19 : decode cX2_strength 19 = .ok (.iload_n 1, 1) := by decide +kernel
theorem dX2_strength_20 : decode cX2_strength 20 = .ok (.iaload, 1) := by decide +kernel
theorem dX2_strength_21 : decode cX2_strength 21 = .ok (.iconst 2, 1) := by decide +kernel
theorem dX2_strength_22 : decode cX2_strength 22 = .ok (.isub, 1) := by decide +kernel
theorem dX2_strength_23 : decode cX2_strength 23 = .ok (.invokestatic 47, 3) := by decide +kernel
theorem dX2_strength_26 : decode cX2_strength 26 = .ok (.ifCond .eq 12, 3) := by decide +kernel
theorem dX2_strength_29 : decode cX2_strength 29 = .ok (.aload_n 0, 1) := by decide +kernel
theorem dX2_strength_30 : decode cX2_strength 30 = .ok (.iload_n 1, 1) := by decide +kernel
theorem dX2_strength_31 : decode cX2_strength 31 = .ok (.iload_n 2, 1) := by decide +kernel
theorem dX2_strength_32 : decode cX2_strength 32 = .ok (.invokevirtual 89, 3) := by decide +kernel
theorem dX2_strength_35 : decode cX2_strength 35 = .ok (.goto 8, 3) := by decide +kernel
theorem dX2_strength_38 : decode cX2_strength 38 = .ok (.aload_n 0, 1) := by decide +kernel
theorem dX2_strength_39 : decode cX2_strength 39 = .ok (.iconst 1, 1) := by decide +kernel
theorem dX2_strength_40 : decode cX2_strength 40 = .ok (.invokevirtual 58, 3) := by decide +kernel
theorem dX2_strength_43 : decode cX2_strength 43 = .ok (.ireturn, 1) := by decide +kernel
set_option maxRecDepth 20000 in
theorem ggX2_counted_X2_runesOn : GoodIn wsX2_counted wsX2_runesOn := goodIn_r _ [10, 3, 11, 12, 13, 9, 14, 15, 16, 17, 18, 34, 35, 36, 37, 38, 39, 40, 41, 42, 43, 44, 45, 46] (by decide +kernel) (by decide +kernel)
set_option maxRecDepth 20000 in
theorem gX2_counted_X2_runesOn : GoodIn wsX2_counted (wsV RX2 106 RX2 yX2_runesOn wsX2_runesOn) := goodIn_app (goodIn_of _ (by decide +kernel)) ggX2_counted_X2_runesOn
set_option maxRecDepth 20000 in
theorem ggX2_counted_X2_glued : GoodIn wsX2_counted wsX2_glued := goodIn_r _ [22, 3, 23, 34, 35, 36, 37, 38, 39, 40, 41, 42, 43, 44, 45, 46] (by decide +kernel) (by decide +kernel)
set_option maxRecDepth 20000 in
theorem gX2_counted_X2_glued : GoodIn wsX2_counted (wsV RX2 109 RX2 yX2_glued wsX2_glued) := goodIn_app (goodIn_of _ (by decide +kernel)) ggX2_counted_X2_glued
set_option maxRecDepth 20000 in
theorem ggX2_counted_X2_fit : GoodIn wsX2_counted wsX2_fit := goodIn_r _ [27, 2, 28, 29, 34, 35, 36, 37, 38, 39, 40, 41, 42, 43, 44, 45, 46] (by decide +kernel) (by decide +kernel)
set_option maxRecDepth 20000 in
theorem gX2_counted_X2_fit : GoodIn wsX2_counted (wsV RX2 102 RX2 yX2_fit wsX2_fit) := goodIn_app (goodIn_of _ (by decide +kernel)) ggX2_counted_X2_fit
set_option maxRecDepth 20000 in
theorem ggX2_counted_X2_there : GoodIn wsX2_counted wsX2_there := goodIn_r _ [33, 1, 2, 34, 35, 36, 37, 38, 39, 40, 41, 42, 43, 44, 45, 46] (by decide +kernel) (by decide +kernel)
set_option maxRecDepth 20000 in
theorem gX2_counted_X2_there : GoodIn wsX2_counted (wsV RX2 62 RX2 yX2_there wsX2_there) := goodIn_app (goodIn_of _ (by decide +kernel)) ggX2_counted_X2_there
theorem dX2_counted_0 : decode cX2_counted 0 = .ok (.iconst 0, 1) := by decide +kernel
theorem dX2_counted_1 : decode cX2_counted 1 = .ok (.istore_n 2, 1) := by decide +kernel
theorem dX2_counted_2 : decode cX2_counted 2 = .ok (.iconst 0, 1) := by decide +kernel
theorem dX2_counted_3 : decode cX2_counted 3 = .ok (.istore_n 3, 1) := by decide +kernel
theorem dX2_counted_4 : decode cX2_counted 4 = .ok (.iconst 0, 1) := by decide +kernel
theorem dX2_counted_5 : decode cX2_counted 5 = .ok (.istore 4, 2) := by decide +kernel
theorem dX2_counted_7 : decode cX2_counted 7 = .ok (.iconst 0, 1) := by decide +kernel
theorem dX2_counted_8 : decode cX2_counted 8 = .ok (.istore 5, 2) := by decide +kernel
theorem dX2_counted_10 : decode cX2_counted 10 = .ok (.iconst 0, 1) := by decide +kernel
theorem dX2_counted_11 : decode cX2_counted 11 = .ok (.istore 6, 2) := by decide +kernel
theorem dX2_counted_13 : decode cX2_counted 13 = .ok (.iload 6, 2) := by decide +kernel
theorem dX2_counted_15 : decode cX2_counted 15 = .ok (.aload_n 0, 1) := by decide +kernel
theorem dX2_counted_16 : decode cX2_counted 16 = .ok (.getfield 44, 3) := by decide +kernel
theorem dX2_counted_19 : decode cX2_counted 19 = .ok (.if_icmp .ge 92, 3) := by decide +kernel
theorem dX2_counted_22 : decode cX2_counted 22 = .ok (.aload_n 0, 1) := by decide +kernel
theorem dX2_counted_23 : decode cX2_counted 23 = .ok (.getfield 16, 3) := by decide +kernel
theorem dX2_counted_26 : decode cX2_counted 26 = .ok (.iload 6, 2) := by decide +kernel
theorem dX2_counted_28 : decode cX2_counted 28 = .ok (.iaload, 1) := by decide +kernel
theorem dX2_counted_29 : decode cX2_counted 29 = .ok (.iconst 1, 1) := by decide +kernel
theorem dX2_counted_30 : decode cX2_counted 30 = .ok (.if_icmp .ne 6, 3) := by decide +kernel
theorem dX2_counted_33 : decode cX2_counted 33 = .ok (.goto 72, 3) := by decide +kernel
theorem dX2_counted_36 : decode cX2_counted 36 = .ok (.iload_n 2, 1) := by decide +kernel
theorem dX2_counted_37 : decode cX2_counted 37 = .ok (.aload_n 0, 1) := by decide +kernel
theorem dX2_counted_38 : decode cX2_counted 38 = .ok (.iload 6, 2) := by decide +kernel
theorem dX2_counted_40 : decode cX2_counted 40 = .ok (.invokevirtual 106, 3) := by decide +kernel
theorem dX2_counted_43 : decode cX2_counted 43 = .ok (.iadd, 1) := by decide +kernel
theorem dX2_counted_44 : decode cX2_counted 44 = .ok (.istore_n 2, 1) := by decide +kernel
theorem dX2_counted_45 : decode cX2_counted 45 = .ok (.iload_n 3, 1) := by decide +kernel
theorem dX2_counted_46 : decode cX2_counted 46 = .ok (.aload_n 0, 1) := by decide +kernel
theorem dX2_counted_47 : decode cX2_counted 47 = .ok (.iload 6, 2) := by decide +kernel
theorem dX2_counted_49 : decode cX2_counted 49 = .ok (.invokevirtual 109, 3) := by decide +kernel
theorem dX2_counted_52 : decode cX2_counted 52 = .ok (.iadd, 1) := by decide +kernel
theorem dX2_counted_53 : decode cX2_counted 53 = .ok (.istore_n 3, 1) := by decide +kernel
theorem dX2_counted_54 : decode cX2_counted 54 = .ok (.iload 4, 2) := by decide +kernel
theorem dX2_counted_56 : decode cX2_counted 56 = .ok (.aload_n 0, 1) := by decide +kernel
theorem dX2_counted_57 : decode cX2_counted 57 = .ok (.getfield 9, 3) := by decide +kernel
theorem dX2_counted_60 : decode cX2_counted 60 = .ok (.iload 6, 2) := by decide +kernel
theorem dX2_counted_62 : decode cX2_counted 62 = .ok (.iaload, 1) := by decide +kernel
theorem dX2_counted_63 : decode cX2_counted 63 = .ok (.iadd, 1) := by decide +kernel
theorem dX2_counted_64 : decode cX2_counted 64 = .ok (.istore 4, 2) := by decide +kernel
theorem dX2_counted_66 : decode cX2_counted 66 = .ok (.iconst 0, 1) := by decide +kernel
theorem dX2_counted_67 : decode cX2_counted 67 = .ok (.istore 7, 2) := by decide +kernel
theorem dX2_counted_69 : decode cX2_counted 69 = .ok (.iload 7, 2) := by decide +kernel
theorem dX2_counted_71 : decode cX2_counted 71 = .ok (.aload_n 0, 1) := by decide +kernel
theorem dX2_counted_72 : decode cX2_counted 72 = .ok (.getfield 44, 3) := by decide +kernel
theorem dX2_counted_75 : decode cX2_counted 75 = .ok (.if_icmp .ge 30, 3) := by decide +kernel
theorem dX2_counted_78 : decode cX2_counted 78 = .ok (.iload 5, 2) := by decide +kernel
theorem dX2_counted_80 : decode cX2_counted 80 = .ok (.aload_n 0, 1) := by decide +kernel
theorem dX2_counted_81 : decode cX2_counted 81 = .ok (.iload 6, 2) := by decide +kernel
theorem dX2_counted_83 : decode cX2_counted 83 = .ok (.iload 7, 2) := by decide +kernel
theorem dX2_counted_85 : decode cX2_counted 85 = .ok (.invokevirtual 102, 3) := by decide +kernel
theorem dX2_counted_88 : decode cX2_counted 88 = .ok (.ifCond .eq 7, 3) := by decide +kernel
theorem dX2_counted_91 : decode cX2_counted 91 = .ok (.iconst 1, 1) := by decide +kernel
theorem dX2_counted_92 : decode cX2_counted 92 = .ok (.goto 4, 3) := by decide +kernel
theorem dX2_counted_95 : decode cX2_counted 95 = .ok (.iconst 0, 1) := by decide +kernel
theorem dX2_counted_96 : decode cX2_counted 96 = .ok (.iadd, 1) := by decide +kernel
theorem dX2_counted_97 : decode cX2_counted 97 = .ok (.istore 5, 2) := by decide +kernel
theorem dX2_counted_99 : decode cX2_counted 99 = .ok (.iinc 7 1, 3) := by decide +kernel
theorem dX2_counted_102 : decode cX2_counted 102 = .ok (.goto (-33), 3) := by decide +kernel
theorem dX2_counted_105 : decode cX2_counted 105 = .ok (.iinc 6 1, 3) := by decide +kernel
theorem dX2_counted_108 : decode cX2_counted 108 = .ok (.goto (-95), 3) := by decide +kernel
theorem dX2_counted_111 : decode cX2_counted 111 = .ok (.bipush 7, 2) := by decide +kernel
theorem dX2_counted_113 : decode cX2_counted 113 = .ok (.newarray .int, 2) := by decide +kernel
theorem dX2_counted_115 : decode cX2_counted 115 = .ok (.dup, 1) := by decide +kernel
theorem dX2_counted_116 : decode cX2_counted 116 = .ok (.iconst 0, 1) := by decide +kernel
theorem dX2_counted_117 : decode cX2_counted 117 = .ok (.aload_n 0, 1) := by decide +kernel
theorem dX2_counted_118 : decode cX2_counted 118 = .ok (.invokevirtual 62, 3) := by decide +kernel
theorem dX2_counted_121 : decode cX2_counted 121 = .ok (.iastore, 1) := by decide +kernel
theorem dX2_counted_122 : decode cX2_counted 122 = .ok (.dup, 1) := by decide +kernel
theorem dX2_counted_123 : decode cX2_counted 123 = .ok (.iconst 1, 1) := by decide +kernel
theorem dX2_counted_124 : decode cX2_counted 124 = .ok (.aload_n 0, 1) := by decide +kernel
theorem dX2_counted_125 : decode cX2_counted 125 = .ok (.getfield 44, 3) := by decide +kernel
theorem dX2_counted_128 : decode cX2_counted 128 = .ok (.iastore, 1) := by decide +kernel
theorem dX2_counted_129 : decode cX2_counted 129 = .ok (.dup, 1) := by decide +kernel
theorem dX2_counted_130 : decode cX2_counted 130 = .ok (.iconst 2, 1) := by decide +kernel
theorem dX2_counted_131 : decode cX2_counted 131 = .ok (.iload_n 2, 1) := by decide +kernel
theorem dX2_counted_132 : decode cX2_counted 132 = .ok (.iastore, 1) := by decide +kernel
theorem dX2_counted_133 : decode cX2_counted 133 = .ok (.dup, 1) := by decide +kernel
theorem dX2_counted_134 : decode cX2_counted 134 = .ok (.iconst 3, 1) := by decide +kernel
theorem dX2_counted_135 : decode cX2_counted 135 = .ok (.aload_n 0, 1) := by decide +kernel
theorem dX2_counted_136 : decode cX2_counted 136 = .ok (.getfield 95, 3) := by decide +kernel
theorem dX2_counted_139 : decode cX2_counted 139 = .ok (.iastore, 1) := by decide +kernel
theorem dX2_counted_140 : decode cX2_counted 140 = .ok (.dup, 1) := by decide +kernel
theorem dX2_counted_141 : decode cX2_counted 141 = .ok (.iconst 4, 1) := by decide +kernel
theorem dX2_counted_142 : decode cX2_counted 142 = .ok (.iload_n 3, 1) := by decide +kernel
theorem dX2_counted_143 : decode cX2_counted 143 = .ok (.iastore, 1) := by decide +kernel
theorem dX2_counted_144 : decode cX2_counted 144 = .ok (.dup, 1) := by decide +kernel
theorem dX2_counted_145 : decode cX2_counted 145 = .ok (.iconst 5, 1) := by decide +kernel
theorem dX2_counted_146 : decode cX2_counted 146 = .ok (.iload 4, 2) := by decide +kernel
theorem dX2_counted_148 : decode cX2_counted 148 = .ok (.iastore, 1) := by decide +kernel
theorem dX2_counted_149 : decode cX2_counted 149 = .ok (.dup, 1) := by decide +kernel
theorem dX2_counted_150 : decode cX2_counted 150 = .ok (.bipush 6, 2) := by decide +kernel
theorem dX2_counted_152 : decode cX2_counted 152 = .ok (.iload 5, 2) := by decide +kernel
theorem dX2_counted_154 : decode cX2_counted 154 = .ok (.iastore, 1) := by decide +kernel
theorem dX2_counted_155 : decode cX2_counted 155 = .ok (.astore 6, 2) := by decide +kernel
theorem dX2_counted_157 : decode cX2_counted 157 = .ok (.aload 6, 2) := by decide +kernel
theorem dX2_counted_159 : decode cX2_counted 159 = .ok (.iload_n 1, 1) := by decide +kernel
theorem dX2_counted_160 : decode cX2_counted 160 = .ok (.iaload, 1) := by decide +kernel
theorem dX2_counted_161 : decode cX2_counted 161 = .ok (.ireturn, 1) := by decide +kernel
set_option maxRecDepth 20000 in
theorem ggX2_count_X2_isIn : GoodIn wsX2_count wsX2_isIn := goodIn_r _ [5] (by decide +kernel) (by decide +kernel)
set_option maxRecDepth 20000 in
theorem gX2_count_X2_isIn : GoodIn wsX2_count (va_wsS RX2 47 yX2_isIn wsX2_isIn) := goodIn_app (goodIn_of _ (by decide +kernel)) ggX2_count_X2_isIn
set_option maxRecDepth 20000 in
theorem ggX2_count_X2_counted : GoodIn wsX2_count wsX2_counted := goodIn_r _ [9, 10, 11, 12, 13, 14, 15, 16, 17, 4, 18, 19, 20, 21, 22, 23, 24, 25, 26, 27, 28, 29, 30, 31, 32, 33, 34, 35, 36, 37, 38, 39, 40, 41, 46, 47, 48, 49, 50, 51, 52, 53, 54, 55, 56, 57, 58] (by decide +kernel) (by decide +kernel)
set_option maxRecDepth 20000 in
theorem gX2_count_X2_counted : GoodIn wsX2_count (wsV RX2 115 RX2 yX2_counted wsX2_counted) := goodIn_app (goodIn_of _ (by decide +kernel)) ggX2_count_X2_counted
set_option maxRecDepth 20000 in
theorem ggX2_count_X2_no : GoodIn wsX2_count wsX2_no := goodIn_r _ [45, 1, 46, 47, 48, 49, 50, 51, 52, 53, 54, 55, 56, 57, 58] (by decide +kernel) (by decide +kernel)
set_option maxRecDepth 20000 in
theorem gX2_count_X2_no : GoodIn wsX2_count (wsV RX2 58 RX2 yX2_no wsX2_no) := goodIn_app (goodIn_of _ (by decide +kernel)) ggX2_count_X2_no
theorem dX2_count_0 : decode cX2_count 0 = .ok (.aload_n 0, 1) := by decide +kernel
theorem dX2_count_1 : decode cX2_count 1 = .ok (.iconst 0, 1) := by decide +kernel
theorem dX2_count_2 : decode cX2_count 2 = .ok (.putfield 40, 3) := by decide +kernel
theorem dX2_count_5 : decode cX2_count 5 = .ok (.iload_n 1, 1) := by decide +kernel
theorem dX2_count_6 : decode cX2_count 6 = .ok (.iconst 0, 1) := by decide +kernel
theorem dX2_count_7 : decode cX2_count 7 = .ok (.bipush 6, 2) := by decide +kernel
theorem dX2_count_9 : decode cX2_count 9 = .ok (.invokestatic 47, 3) := by decide +kernel
theorem dX2_count_12 : decode cX2_count 12 = .ok (.ifCond .eq 11, 3) := by decide +kernel
theorem dX2_count_15 : decode cX2_count 15 = .ok (.aload_n 0, 1) := by decide +kernel
theorem dX2_count_16 : decode cX2_count 16 = .ok (.iload_n 1, 1) := by decide +kernel
theorem dX2_count_17 : decode cX2_count 17 = .ok (.invokevirtual 115, 3) := by decide +kernel
theorem dX2_count_20 : decode cX2_count 20 = .ok (.goto 8, 3) := by decide +kernel
theorem dX2_count_23 : decode cX2_count 23 = .ok (.aload_n 0, 1) := by decide +kernel
theorem dX2_count_24 : decode cX2_count 24 = .ok (.iconst 1, 1) := by decide +kernel
theorem dX2_count_25 : decode cX2_count 25 = .ok (.invokevirtual 58, 3) := by decide +kernel
theorem dX2_count_28 : decode cX2_count 28 = .ok (.ireturn, 1) := by decide +kernel
set_option maxRecDepth 20000 in
theorem ggX2_fits_X2_isStick : GoodIn wsX2_fits wsX2_isStick := goodIn_r _ [6, 7, 8, 9, 5, 10, 22, 23, 24, 25, 26, 27, 28, 29, 30, 31, 32, 33, 34] (by decide +kernel) (by decide +kernel)
set_option maxRecDepth 20000 in
theorem gX2_fits_X2_isStick : GoodIn wsX2_fits (wsV RX2 51 RX2 yX2_isStick wsX2_isStick) := goodIn_app (goodIn_of _ (by decide +kernel)) ggX2_fits_X2_isStick
set_option maxRecDepth 20000 in
theorem ggX2_fits_X2_fit : GoodIn wsX2_fits wsX2_fit := goodIn_r _ [14, 15, 16, 17, 22, 23, 24, 25, 26, 27, 28, 29, 30, 31, 32, 33, 34] (by decide +kernel) (by decide +kernel)
set_option maxRecDepth 20000 in
theorem gX2_fits_X2_fit : GoodIn wsX2_fits (wsV RX2 102 RX2 yX2_fit wsX2_fit) := goodIn_app (goodIn_of _ (by decide +kernel)) ggX2_fits_X2_fit
set_option maxRecDepth 20000 in
theorem ggX2_fits_X2_no : GoodIn wsX2_fits wsX2_no := goodIn_r _ [21, 1, 22, 23, 24, 25, 26, 27, 28, 29, 30, 31, 32, 33, 34] (by decide +kernel) (by decide +kernel)
set_option maxRecDepth 20000 in
theorem gX2_fits_X2_no : GoodIn wsX2_fits (wsV RX2 58 RX2 yX2_no wsX2_no) := goodIn_app (goodIn_of _ (by decide +kernel)) ggX2_fits_X2_no
theorem dX2_fits_0 : decode cX2_fits 0 = .ok (.aload_n 0, 1) := by decide +kernel
theorem dX2_fits_1 : decode cX2_fits 1 = .ok (.iconst 0, 1) := by decide +kernel
theorem dX2_fits_2 : decode cX2_fits 2 = .ok (.putfield 40, 3) := by decide +kernel
theorem dX2_fits_5 : decode cX2_fits 5 = .ok (.aload_n 0, 1) := by decide +kernel
theorem dX2_fits_6 : decode cX2_fits 6 = .ok (.iload_n 1, 1) := by decide +kernel
theorem dX2_fits_7 : decode cX2_fits 7 = .ok (.invokevirtual 51, 3) := by decide +kernel
theorem dX2_fits_10 : decode cX2_fits 10 = .ok (.ifCond .eq 20, 3) := by decide +kernel
theorem dX2_fits_13 : decode cX2_fits 13 = .ok (.aload_n 0, 1) := by decide +kernel
theorem dX2_fits_14 : decode cX2_fits 14 = .ok (.iload_n 2, 1) := by decide +kernel
theorem dX2_fits_15 : decode cX2_fits 15 = .ok (.invokevirtual 51, 3) := by decide +kernel
theorem dX2_fits_18 : decode cX2_fits 18 = .ok (.ifCond .eq 12, 3) := by decide +kernel
theorem dX2_fits_21 : decode cX2_fits 21 = .ok (.aload_n 0, 1) := by decide +kernel
theorem dX2_fits_22 : decode cX2_fits 22 = .ok (.iload_n 1, 1) := by decide +kernel
theorem dX2_fits_23 : decode cX2_fits 23 = .ok (.iload_n 2, 1) := by decide +kernel
theorem dX2_fits_24 : decode cX2_fits 24 = .ok (.invokevirtual 102, 3) := by decide +kernel
theorem dX2_fits_27 : decode cX2_fits 27 = .ok (.goto 16, 3) := by decide +kernel
theorem dX2_fits_30 : decode cX2_fits 30 = .ok (.aload_n 0, 1) := by decide +kernel
theorem dX2_fits_31 : decode cX2_fits 31 = .ok (.iconst 1, 1) := by decide +kernel
theorem dX2_fits_32 : decode cX2_fits 32 = .ok (.invokevirtual 58, 3) := by decide +kernel
theorem dX2_fits_35 : decode cX2_fits 35 = .ok (.ifCond .eq 7, 3) := by decide +kernel
theorem dX2_fits_38 : decode cX2_fits 38 = .ok (.iconst 1, 1) := by decide +kernel
theorem dX2_fits_39 : decode cX2_fits 39 = .ok (.goto 4, 3) := by decide +kernel
theorem dX2_fits_42 : decode cX2_fits 42 = .ok (.iconst 0, 1) := by decide +kernel
theorem dX2_fits_43 : decode cX2_fits 43 = .ok (.ireturn, 1) := by decide +kernel
set_option maxRecDepth 20000 in
theorem ggX2_read_X2_spot : GoodIn wsX2_read wsX2_spot := goodIn_r _ [6] (by decide +kernel) (by decide +kernel)
set_option maxRecDepth 20000 in
theorem gX2_read_X2_spot : GoodIn wsX2_read (va_wsS RX2 76 yX2_spot wsX2_spot) := goodIn_app (goodIn_of _ (by decide +kernel)) ggX2_read_X2_spot
theorem dX2_read_0 : decode cX2_read 0 = .ok (.iconst 0, 1) := by decide +kernel
theorem dX2_read_1 : decode cX2_read 1 = .ok (.istore 5, 2) := by decide +kernel
theorem dX2_read_3 : decode cX2_read 3 = .ok (.iconst 0, 1) := by decide +kernel
theorem dX2_read_4 : decode cX2_read 4 = .ok (.istore 6, 2) := by decide +kernel
theorem dX2_read_6 : decode cX2_read 6 = .ok (.iload 6, 2) := by decide +kernel
theorem dX2_read_8 : decode cX2_read 8 = .ok (.aload_n 0, 1) := by decide +kernel
theorem dX2_read_9 : decode cX2_read 9 = .ok (.getfield 9, 3) := by decide +kernel
theorem dX2_read_12 : decode cX2_read 12 = .ok (.iload_n 1, 1) := by decide +kernel
theorem dX2_read_13 : decode cX2_read 13 = .ok (.iaload, 1) := by decide +kernel
theorem dX2_read_14 : decode cX2_read 14 = .ok (.if_icmp .ge 50, 3) := by decide +kernel
theorem dX2_read_17 : decode cX2_read 17 = .ok (.aload_n 0, 1) := by decide +kernel
theorem dX2_read_18 : decode cX2_read 18 = .ok (.getfield 25, 3) := by decide +kernel
theorem dX2_read_21 : decode cX2_read 21 = .ok (.iload_n 1, 1) := by decide +kernel
theorem dX2_read_22 : decode cX2_read 22 = .ok (.iload 6, 2) := by decide +kernel
theorem dX2_read_24 : decode cX2_read 24 = .ok (.iload_n 2, 1) := by decide +kernel
theorem dX2_read_25 : decode cX2_read 25 = .ok (.iload 6, 2) := by decide +kernel
theorem dX2_read_27 : decode cX2_read 27 = .ok (.iload_n 3, 1) := by decide +kernel
theorem dX2_read_28 : decode cX2_read 28 = .ok (.imul, 1) := by decide +kernel
theorem dX2_read_29 : decode cX2_read 29 = .ok (.iadd, 1) := by decide +kernel
theorem dX2_read_30 : decode cX2_read 30 = .ok (.iconst 3, 1) := by decide +kernel
theorem dX2_read_31 : decode cX2_read 31 = .ok (.irem, 1) := by decide +kernel
theorem dX2_read_32 : decode cX2_read 32 = .ok (.invokestatic 76, 3) := by decide +kernel
theorem dX2_read_35 : decode cX2_read 35 = .ok (.iaload, 1) := by decide +kernel
theorem dX2_read_36 : decode cX2_read 36 = .ok (.istore 7, 2) := by decide +kernel
theorem dX2_read_38 : decode cX2_read 38 = .ok (.iload 7, 2) := by decide +kernel
theorem dX2_read_40 : decode cX2_read 40 = .ok (.ifCond .ne 6, 3) := by decide +kernel
theorem dX2_read_43 : decode cX2_read 43 = .ok (.goto 15, 3) := by decide +kernel
theorem dX2_read_46 : decode cX2_read 46 = .ok (.aload 4, 2) := by decide +kernel
theorem dX2_read_48 : decode cX2_read 48 = .ok (.iload 5, 2) := by decide +kernel
theorem dX2_read_50 : decode cX2_read 50 = .ok (.iload 7, 2) := by decide +kernel
theorem dX2_read_52 : decode cX2_read 52 = .ok (.iconst 1, 1) := by decide +kernel
theorem dX2_read_53 : decode cX2_read 53 = .ok (.isub, 1) := by decide +kernel
theorem dX2_read_54 : decode cX2_read 54 = .ok (.iastore, 1) := by decide +kernel
theorem dX2_read_55 : decode cX2_read 55 = .ok (.iinc 5 1, 3) := by decide +kernel
theorem dX2_read_58 : decode cX2_read 58 = .ok (.iinc 6 1, 3) := by decide +kernel
theorem dX2_read_61 : decode cX2_read 61 = .ok (.goto (-55), 3) := by decide +kernel
theorem dX2_read_64 : decode cX2_read 64 = .ok (.iload 5, 2) := by decide +kernel
theorem dX2_read_66 : decode cX2_read 66 = .ok (.ireturn, 1) := by decide +kernel
set_option maxRecDepth 20000 in
theorem ggX2_size_X2_isStick : GoodIn wsX2_size wsX2_isStick := goodIn_r _ [8, 9, 10, 11, 7, 12, 26, 27, 28, 29, 30, 31, 32, 33, 34, 35, 36, 37, 38] (by decide +kernel) (by decide +kernel)
set_option maxRecDepth 20000 in
theorem gX2_size_X2_isStick : GoodIn wsX2_size (wsV RX2 51 RX2 yX2_isStick wsX2_isStick) := goodIn_app (goodIn_of _ (by decide +kernel)) ggX2_size_X2_isStick
set_option maxRecDepth 20000 in
theorem ggX2_size_X2_no : GoodIn wsX2_size wsX2_no := goodIn_r _ [16, 1, 26, 27, 28, 29, 30, 31, 32, 33, 34, 35, 36, 37, 38] (by decide +kernel) (by decide +kernel)
set_option maxRecDepth 20000 in
theorem gX2_size_X2_no : GoodIn wsX2_size (wsV RX2 58 RX2 yX2_no wsX2_no) := goodIn_app (goodIn_of _ (by decide +kernel)) ggX2_size_X2_no
set_option maxRecDepth 20000 in
theorem ggX2_size_X2_isIn : GoodIn wsX2_size wsX2_isIn := goodIn_r _ [12] (by decide +kernel) (by decide +kernel)
set_option maxRecDepth 20000 in
theorem gX2_size_X2_isIn : GoodIn wsX2_size (va_wsS RX2 47 yX2_isIn wsX2_isIn) := goodIn_app (goodIn_of _ (by decide +kernel)) ggX2_size_X2_isIn
set_option maxRecDepth 20000 in
theorem ggX2_size_X2_read : GoodIn wsX2_size wsX2_read := goodIn_r _ [20, 21, 22, 23, 24, 7, 25, 26, 27, 28, 29, 30, 31, 32, 33, 34, 35, 36, 37, 38] (by decide +kernel) (by decide +kernel)
set_option maxRecDepth 20000 in
theorem gX2_size_X2_read : GoodIn wsX2_size (wsV RX2 118 RX2 yX2_read wsX2_read) := goodIn_app (goodIn_of _ (by decide +kernel)) ggX2_size_X2_read
theorem dX2_size_0 : decode cX2_size 0 = .ok (.aload_n 0, 1) := by decide +kernel
theorem dX2_size_1 : decode cX2_size 1 = .ok (.iconst 0, 1) := by decide +kernel
theorem dX2_size_2 : decode cX2_size 2 = .ok (.putfield 40, 3) := by decide +kernel
theorem dX2_size_5 : decode cX2_size 5 = .ok (.aload_n 0, 1) := by decide +kernel
theorem dX2_size_6 : decode cX2_size 6 = .ok (.iload_n 1, 1) := by decide +kernel
theorem dX2_size_7 : decode cX2_size 7 = .ok (.invokevirtual 51, 3) := by decide +kernel
theorem dX2_size_10 : decode cX2_size 10 = .ok (.ifCond .ne 9, 3) := by decide +kernel
theorem dX2_size_13 : decode cX2_size 13 = .ok (.aload_n 0, 1) := by decide +kernel
theorem dX2_size_14 : decode cX2_size 14 = .ok (.iconst 1, 1) := by decide +kernel
theorem dX2_size_15 : decode cX2_size 15 = .ok (.invokevirtual 58, 3) := by decide +kernel
theorem dX2_size_18 : decode cX2_size 18 = .ok (.ireturn, 1) := by decide +kernel
theorem dX2_size_19 : decode cX2_size 19 = .ok (.iload_n 2, 1) := by decide +kernel
theorem dX2_size_20 : decode cX2_size 20 = .ok (.iconst 0, 1) := by decide +kernel
theorem dX2_size_21 : decode cX2_size 21 = .ok (.iconst 2, 1) := by decide +kernel
theorem dX2_size_22 : decode cX2_size 22 = .ok (.invokestatic 47, 3) := by decide +kernel
theorem dX2_size_25 : decode cX2_size 25 = .ok (.ifCond .eq 22, 3) := by decide +kernel
theorem dX2_size_28 : decode cX2_size 28 = .ok (.aload_n 0, 1) := by decide +kernel
theorem dX2_size_29 : decode cX2_size 29 = .ok (.iload_n 1, 1) := by decide +kernel
theorem dX2_size_30 : decode cX2_size 30 = .ok (.aload_n 0, 1) := by decide +kernel
theorem dX2_size_31 : decode cX2_size 31 = .ok (.getfield 13, 3) := by decide +kernel
theorem dX2_size_34 : decode cX2_size 34 = .ok (.iload_n 1, 1) := by decide +kernel
theorem dX2_size_35 : decode cX2_size 35 = .ok (.iaload, 1) := by decide +kernel
theorem dX2_size_36 : decode cX2_size 36 = .ok (.iload_n 2, 1) := by decide +kernel
theorem dX2_size_37 : decode cX2_size 37 = .ok (.aload_n 0, 1) := by decide +kernel
theorem dX2_size_38 : decode cX2_size 38 = .ok (.getfield 34, 3) := by decide +kernel
theorem dX2_size_41 : decode cX2_size 41 = .ok (.invokevirtual 118, 3) := by decide +kernel
theorem dX2_size_44 : decode cX2_size 44 = .ok (.goto 8, 3) := by decide +kernel
theorem dX2_size_47 : decode cX2_size 47 = .ok (.aload_n 0, 1) := by decide +kernel
theorem dX2_size_48 : decode cX2_size 48 = .ok (.iconst 2, 1) := by decide +kernel
theorem dX2_size_49 : decode cX2_size 49 = .ok (.invokevirtual 58, 3) := by decide +kernel
theorem dX2_size_52 : decode cX2_size 52 = .ok (.ireturn, 1) := by decide +kernel
set_option maxRecDepth 20000 in
theorem ggX2_reads_X2_isStick : GoodIn wsX2_reads wsX2_isStick := goodIn_r _ [8, 9, 10, 11, 7, 12, 26, 27, 28, 29, 30, 31, 32, 33, 34, 35, 36, 37, 38] (by decide +kernel) (by decide +kernel)
set_option maxRecDepth 20000 in
theorem gX2_reads_X2_isStick : GoodIn wsX2_reads (wsV RX2 51 RX2 yX2_isStick wsX2_isStick) := goodIn_app (goodIn_of _ (by decide +kernel)) ggX2_reads_X2_isStick
set_option maxRecDepth 20000 in
theorem ggX2_reads_X2_no : GoodIn wsX2_reads wsX2_no := goodIn_r _ [16, 1, 26, 27, 28, 29, 30, 31, 32, 33, 34, 35, 36, 37, 38] (by decide +kernel) (by decide +kernel)
set_option maxRecDepth 20000 in
theorem gX2_reads_X2_no : GoodIn wsX2_reads (wsV RX2 58 RX2 yX2_no wsX2_no) := goodIn_app (goodIn_of _ (by decide +kernel)) ggX2_reads_X2_no
set_option maxRecDepth 20000 in
theorem ggX2_reads_X2_isIn : GoodIn wsX2_reads wsX2_isIn := goodIn_r _ [12] (by decide +kernel) (by decide +kernel)
set_option maxRecDepth 20000 in
theorem gX2_reads_X2_isIn : GoodIn wsX2_reads (va_wsS RX2 47 yX2_isIn wsX2_isIn) := goodIn_app (goodIn_of _ (by decide +kernel)) ggX2_reads_X2_isIn
set_option maxRecDepth 20000 in
theorem ggX2_reads_X2_read : GoodIn wsX2_reads wsX2_read := goodIn_r _ [20, 21, 22, 23, 24, 7, 25, 26, 27, 28, 29, 30, 31, 32, 33, 34, 35, 36, 37, 38] (by decide +kernel) (by decide +kernel)
set_option maxRecDepth 20000 in
theorem gX2_reads_X2_read : GoodIn wsX2_reads (wsV RX2 118 RX2 yX2_read wsX2_read) := goodIn_app (goodIn_of _ (by decide +kernel)) ggX2_reads_X2_read
theorem dX2_reads_0 : decode cX2_reads 0 = .ok (.aload_n 0, 1) := by decide +kernel
theorem dX2_reads_1 : decode cX2_reads 1 = .ok (.iconst 0, 1) := by decide +kernel
theorem dX2_reads_2 : decode cX2_reads 2 = .ok (.putfield 40, 3) := by decide +kernel
theorem dX2_reads_5 : decode cX2_reads 5 = .ok (.aload_n 0, 1) := by decide +kernel
theorem dX2_reads_6 : decode cX2_reads 6 = .ok (.iload_n 1, 1) := by decide +kernel
theorem dX2_reads_7 : decode cX2_reads 7 = .ok (.invokevirtual 51, 3) := by decide +kernel
theorem dX2_reads_10 : decode cX2_reads 10 = .ok (.ifCond .ne 9, 3) := by decide +kernel
theorem dX2_reads_13 : decode cX2_reads 13 = .ok (.aload_n 0, 1) := by decide +kernel
theorem dX2_reads_14 : decode cX2_reads 14 = .ok (.iconst 1, 1) := by decide +kernel
theorem dX2_reads_15 : decode cX2_reads 15 = .ok (.invokevirtual 58, 3) := by decide +kernel
theorem dX2_reads_18 : decode cX2_reads 18 = .ok (.ireturn, 1) := by decide +kernel
theorem dX2_reads_19 : decode cX2_reads 19 = .ok (.iload_n 2, 1) := by decide +kernel
theorem dX2_reads_20 : decode cX2_reads 20 = .ok (.iconst 0, 1) := by decide +kernel
theorem dX2_reads_21 : decode cX2_reads 21 = .ok (.iconst 2, 1) := by decide +kernel
theorem dX2_reads_22 : decode cX2_reads 22 = .ok (.invokestatic 47, 3) := by decide +kernel
theorem dX2_reads_25 : decode cX2_reads 25 = .ok (.ifCond .eq 29, 3) := by decide +kernel
theorem dX2_reads_28 : decode cX2_reads 28 = .ok (.iload_n 3, 1) := by decide +kernel
theorem dX2_reads_29 : decode cX2_reads 29 = .ok (.iconst 0, 1) := by decide +kernel
theorem dX2_reads_30 : decode cX2_reads 30 = .ok (.aload_n 0, 1) := by decide +kernel
theorem dX2_reads_31 : decode cX2_reads 31 = .ok (.iload_n 1, 1) := by decide +kernel
theorem dX2_reads_32 : decode cX2_reads 32 = .ok (.aload_n 0, 1) := by decide +kernel
theorem dX2_reads_33 : decode cX2_reads 33 = .ok (.getfield 13, 3) := by decide +kernel
theorem dX2_reads_36 : decode cX2_reads 36 = .ok (.iload_n 1, 1) := by decide +kernel
theorem dX2_reads_37 : decode cX2_reads 37 = .ok (.iaload, 1) := by decide +kernel
theorem dX2_reads_38 : decode cX2_reads 38 = .ok (.iload_n 2, 1) := by decide +kernel
theorem dX2_reads_39 : decode cX2_reads 39 = .ok (.aload_n 0, 1) := by decide +kernel
theorem dX2_reads_40 : decode cX2_reads 40 = .ok (.getfield 34, 3) := by decide +kernel
theorem dX2_reads_43 : decode cX2_reads 43 = .ok (.invokevirtual 118, 3) := by decide +kernel
theorem dX2_reads_46 : decode cX2_reads 46 = .ok (.iconst 1, 1) := by decide +kernel
theorem dX2_reads_47 : decode cX2_reads 47 = .ok (.isub, 1) := by decide +kernel
theorem dX2_reads_48 : decode cX2_reads 48 = .ok (.invokestatic 47, 3) := by decide +kernel
theorem dX2_reads_51 : decode cX2_reads 51 = .ok (.ifCond .ne 9, 3) := by decide +kernel
theorem dX2_reads_54 : decode cX2_reads 54 = .ok (.aload_n 0, 1) := by decide +kernel
theorem dX2_reads_55 : decode cX2_reads 55 = .ok (.iconst 2, 1) := by decide +kernel
theorem dX2_reads_56 : decode cX2_reads 56 = .ok (.invokevirtual 58, 3) := by decide +kernel
theorem dX2_reads_59 : decode cX2_reads 59 = .ok (.ireturn, 1) := by decide +kernel
theorem dX2_reads_60 : decode cX2_reads 60 = .ok (.aload_n 0, 1) := by decide +kernel
theorem dX2_reads_61 : decode cX2_reads 61 = .ok (.getfield 34, 3) := by decide +kernel
theorem dX2_reads_64 : decode cX2_reads 64 = .ok (.iload_n 3, 1) := by decide +kernel
theorem dX2_reads_65 : decode cX2_reads 65 = .ok (.iaload, 1) := by decide +kernel
theorem dX2_reads_66 : decode cX2_reads 66 = .ok (.ireturn, 1) := by decide +kernel
set_option maxRecDepth 20000 in
theorem ggX2_has_X2_isStick : GoodIn wsX2_has wsX2_isStick := goodIn_r _ [7, 8, 9, 10, 6, 11, 28, 29, 30, 31, 32, 33, 34, 35, 36, 37, 38, 39, 40] (by decide +kernel) (by decide +kernel)
set_option maxRecDepth 20000 in
theorem gX2_has_X2_isStick : GoodIn wsX2_has (wsV RX2 51 RX2 yX2_isStick wsX2_isStick) := goodIn_app (goodIn_of _ (by decide +kernel)) ggX2_has_X2_isStick
set_option maxRecDepth 20000 in
theorem ggX2_has_X2_no : GoodIn wsX2_has wsX2_no := goodIn_r _ [15, 1, 28, 29, 30, 31, 32, 33, 34, 35, 36, 37, 38, 39, 40] (by decide +kernel) (by decide +kernel)
set_option maxRecDepth 20000 in
theorem gX2_has_X2_no : GoodIn wsX2_has (wsV RX2 58 RX2 yX2_no wsX2_no) := goodIn_app (goodIn_of _ (by decide +kernel)) ggX2_has_X2_no
set_option maxRecDepth 20000 in
theorem ggX2_has_X2_isRune : GoodIn wsX2_has wsX2_isRune := goodIn_r _ [18, 9, 10, 6, 11] (by decide +kernel) (by decide +kernel)
set_option maxRecDepth 20000 in
theorem gX2_has_X2_isRune : GoodIn wsX2_has (va_wsS RX2 73 yX2_isRune wsX2_isRune) := goodIn_app (goodIn_of _ (by decide +kernel)) ggX2_has_X2_isRune
set_option maxRecDepth 20000 in
theorem ggX2_has_X2_read : GoodIn wsX2_has wsX2_read := goodIn_r _ [22, 23, 24, 25, 26, 6, 27, 28, 29, 30, 31, 32, 33, 34, 35, 36, 37, 38, 39, 40] (by decide +kernel) (by decide +kernel)
set_option maxRecDepth 20000 in
theorem gX2_has_X2_read : GoodIn wsX2_has (wsV RX2 118 RX2 yX2_read wsX2_read) := goodIn_app (goodIn_of _ (by decide +kernel)) ggX2_has_X2_read
theorem dX2_has_0 : decode cX2_has 0 = .ok (.aload_n 0, 1) := by decide +kernel
theorem dX2_has_1 : decode cX2_has 1 = .ok (.iconst 0, 1) := by decide +kernel
theorem dX2_has_2 : decode cX2_has 2 = .ok (.putfield 40, 3) := by decide +kernel
theorem dX2_has_5 : decode cX2_has 5 = .ok (.aload_n 0, 1) := by decide +kernel
theorem dX2_has_6 : decode cX2_has 6 = .ok (.iload_n 1, 1) := by decide +kernel
theorem dX2_has_7 : decode cX2_has 7 = .ok (.invokevirtual 51, 3) := by decide +kernel
theorem dX2_has_10 : decode cX2_has 10 = .ok (.ifCond .ne 9, 3) := by decide +kernel
theorem dX2_has_13 : decode cX2_has 13 = .ok (.aload_n 0, 1) := by decide +kernel
theorem dX2_has_14 : decode cX2_has 14 = .ok (.iconst 1, 1) := by decide +kernel
theorem dX2_has_15 : decode cX2_has 15 = .ok (.invokevirtual 58, 3) := by decide +kernel
theorem dX2_has_18 : decode cX2_has 18 = .ok (.ireturn, 1) := by decide +kernel
theorem dX2_has_19 : decode cX2_has 19 = .ok (.iload_n 2, 1) := by decide +kernel
theorem dX2_has_20 : decode cX2_has 20 = .ok (.invokestatic 73, 3) := by decide +kernel
theorem dX2_has_23 : decode cX2_has 23 = .ok (.ifCond .eq 10, 3) := by decide +kernel
theorem dX2_has_26 : decode cX2_has 26 = .ok (.iload_n 3, 1) := by decide +kernel
theorem dX2_has_27 : decode cX2_has 27 = .ok (.invokestatic 73, 3) := by decide +kernel
theorem dX2_has_30 : decode cX2_has 30 = .ok (.ifCond .ne 9, 3) := by decide +kernel
theorem dX2_has_33 : decode cX2_has 33 = .ok (.aload_n 0, 1) := by decide +kernel
theorem dX2_has_34 : decode cX2_has 34 = .ok (.iconst 2, 1) := by decide +kernel
theorem dX2_has_35 : decode cX2_has 35 = .ok (.invokevirtual 58, 3) := by decide +kernel
theorem dX2_has_38 : decode cX2_has 38 = .ok (.ireturn, 1) := by decide +kernel
theorem dX2_has_39 : decode cX2_has 39 = .ok (.iconst 0, 1) := by decide +kernel
theorem dX2_has_40 : decode cX2_has 40 = .ok (.istore 4, 2) := by decide +kernel
theorem dX2_has_42 : decode cX2_has 42 = .ok (.iconst 0, 1) := by decide +kernel
theorem dX2_has_43 : decode cX2_has 43 = .ok (.istore 5, 2) := by decide +kernel
theorem dX2_has_45 : decode cX2_has 45 = .ok (.iload 5, 2) := by decide +kernel
theorem dX2_has_47 : decode cX2_has 47 = .ok (.bipush 9, 2) := by decide +kernel
theorem dX2_has_49 : decode cX2_has 49 = .ok (.if_icmp .ge 96, 3) := by decide +kernel
theorem dX2_has_52 : decode cX2_has 52 = .ok (.aload_n 0, 1) := by decide +kernel
theorem dX2_has_53 : decode cX2_has 53 = .ok (.iload_n 1, 1) := by decide +kernel
theorem dX2_has_54 : decode cX2_has 54 = .ok (.iload 5, 2) := by decide +kernel
theorem dX2_has_56 : decode cX2_has 56 = .ok (.iconst 3, 1) := by decide +kernel
theorem dX2_has_57 : decode cX2_has 57 = .ok (.idiv, 1) := by decide +kernel
theorem dX2_has_58 : decode cX2_has 58 = .ok (.iload 5, 2) := by decide +kernel
theorem dX2_has_60 : decode cX2_has 60 = .ok (.iconst 3, 1) := by decide +kernel
theorem dX2_has_61 : decode cX2_has 61 = .ok (.irem, 1) := by decide +kernel
theorem dX2_has_62 : decode cX2_has 62 = .ok (.aload_n 0, 1) := by decide +kernel
theorem dX2_has_63 : decode cX2_has 63 = .ok (.getfield 34, 3) := by decide +kernel
theorem dX2_has_66 : decode cX2_has 66 = .ok (.invokevirtual 118, 3) := by decide +kernel
theorem dX2_has_69 : decode cX2_has 69 = .ok (.istore 6, 2) := by decide +kernel
theorem dX2_has_71 : decode cX2_has 71 = .ok (.iconst 0, 1) := by decide +kernel
theorem dX2_has_72 : decode cX2_has 72 = .ok (.istore 7, 2) := by decide +kernel
theorem dX2_has_74 : decode cX2_has 74 = .ok (.iconst 1, 1) := by decide +kernel
theorem dX2_has_75 : decode cX2_has 75 = .ok (.istore 8, 2) := by decide +kernel
theorem dX2_has_77 : decode cX2_has 77 = .ok (.iload 8, 2) := by decide +kernel
theorem dX2_has_79 : decode cX2_has 79 = .ok (.iload 6, 2) := by decide +kernel
theorem dX2_has_81 : decode cX2_has 81 = .ok (.if_icmp .ge 43, 3) := by decide +kernel
theorem dX2_has_84 : decode cX2_has 84 = .ok (.iload 7, 2) := by decide +kernel
theorem dX2_has_86 : decode cX2_has 86 = .ok (.aload_n 0, 1) := by decide +kernel
theorem dX2_has_87 : decode cX2_has 87 = .ok (.getfield 34, 3) := by decide +kernel
theorem dX2_has_90 : decode cX2_has 90 = .ok (.iload 8, 2) := by decide +kernel
theorem dX2_has_92 : decode cX2_has 92 = .ok (.iconst 1, 1) := by decide +kernel
theorem dX2_has_93 : decode cX2_has 93 = .ok (.isub, 1) := by decide +kernel
theorem dX2_has_94 : decode cX2_has 94 = .ok (.iaload, 1) := by decide +kernel
theorem dX2_has_95 : decode cX2_has 95 = .ok (.iload_n 2, 1) := by decide +kernel
theorem dX2_has_96 : decode cX2_has 96 = .ok (.if_icmp .ne 18, 3) := by decide +kernel
theorem dX2_has_99 : decode cX2_has 99 = .ok (.aload_n 0, 1) := by decide +kernel
theorem dX2_has_100 : decode cX2_has 100 = .ok (.getfield 34, 3) := by decide +kernel
theorem dX2_has_103 : decode cX2_has 103 = .ok (.iload 8, 2) := by decide +kernel
theorem dX2_has_105 : decode cX2_has 105 = .ok (.iaload, 1) := by decide +kernel
theorem dX2_has_106 : decode cX2_has 106 = .ok (.iload_n 3, 1) := by decide +kernel
theorem dX2_has_107 : decode cX2_has 107 = .ok (.if_icmp .ne 7, 3) := by decide +kernel
theorem dX2_has_110 : decode cX2_has 110 = .ok (.iconst 1, 1) := by decide +kernel
theorem dX2_has_111 : decode cX2_has 111 = .ok (.goto 4, 3) := by decide +kernel
theorem dX2_has_114 : decode cX2_has 114 = .ok (.iconst 0, 1) := by decide +kernel
theorem dX2_has_115 : decode cX2_has 115 = .ok (.ior, 1) := by decide +kernel
theorem dX2_has_116 : decode cX2_has 116 = .ok (.istore 7, 2) := by decide +kernel
theorem dX2_has_118 : decode cX2_has 118 = .ok (.iinc 8 1, 3) := by decide +kernel
theorem dX2_has_121 : decode cX2_has 121 = .ok (.goto (-44), 3) := by decide +kernel
theorem dX2_has_124 : decode cX2_has 124 = .ok (.iload 4, 2) := by decide +kernel
theorem dX2_has_126 : decode cX2_has 126 = .ok (.iload 7, 2) := by decide +kernel
theorem dX2_has_128 : decode cX2_has 128 = .ok (.ifCond .eq 7, 3) := by decide +kernel
theorem dX2_has_131 : decode cX2_has 131 = .ok (.iconst 1, 1) := by decide +kernel
theorem dX2_has_132 : decode cX2_has 132 = .ok (.goto 4, 3) := by decide +kernel
theorem dX2_has_135 : decode cX2_has 135 = .ok (.iconst 0, 1) := by decide +kernel
theorem dX2_has_136 : decode cX2_has 136 = .ok (.iadd, 1) := by decide +kernel
theorem dX2_has_137 : decode cX2_has 137 = .ok (.istore 4, 2) := by decide +kernel
theorem dX2_has_139 : decode cX2_has 139 = .ok (.iinc 5 1, 3) := by decide +kernel
theorem dX2_has_142 : decode cX2_has 142 = .ok (.goto (-97), 3) := by decide +kernel
theorem dX2_has_145 : decode cX2_has 145 = .ok (.iload 4, 2) := by decide +kernel
theorem dX2_has_147 : decode cX2_has 147 = .ok (.ireturn, 1) := by decide +kernel
set_option maxRecDepth 20000 in
theorem ggX2_rhymeOf_X2_read : GoodIn wsX2_rhymeOf wsX2_read := goodIn_r _ [8, 9, 10, 11, 12, 7, 13, 14, 15, 16, 17, 18, 19, 20, 21, 22, 23, 24, 25, 26] (by decide +kernel) (by decide +kernel)
set_option maxRecDepth 20000 in
theorem gX2_rhymeOf_X2_read : GoodIn wsX2_rhymeOf (wsV RX2 118 RX2 yX2_read wsX2_read) := goodIn_app (goodIn_of _ (by decide +kernel)) ggX2_rhymeOf_X2_read
theorem dX2_rhymeOf_0 : decode cX2_rhymeOf 0 = .ok (.aload_n 0, 1) := by decide +kernel
theorem dX2_rhymeOf_1 : decode cX2_rhymeOf 1 = .ok (.iload_n 1, 1) := by decide +kernel
theorem dX2_rhymeOf_2 : decode cX2_rhymeOf 2 = .ok (.iload_n 2, 1) := by decide +kernel
theorem dX2_rhymeOf_3 : decode cX2_rhymeOf 3 = .ok (.iload 4, 2) := by decide +kernel
theorem dX2_rhymeOf_5 : decode cX2_rhymeOf 5 = .ok (.aload_n 0, 1) := by decide +kernel
theorem dX2_rhymeOf_6 : decode cX2_rhymeOf 6 = .ok (.getfield 34, 3) := by decide +kernel
theorem dX2_rhymeOf_9 : decode cX2_rhymeOf 9 = .ok (.invokevirtual 118, 3) := by decide +kernel
theorem dX2_rhymeOf_12 : decode cX2_rhymeOf 12 = .ok (.iconst 1, 1) := by decide +kernel
theorem dX2_rhymeOf_13 : decode cX2_rhymeOf 13 = .ok (.isub, 1) := by decide +kernel
theorem dX2_rhymeOf_14 : decode cX2_rhymeOf 14 = .ok (.istore 5, 2) := by decide +kernel
theorem dX2_rhymeOf_16 : decode cX2_rhymeOf 16 = .ok (.aload_n 0, 1) := by decide +kernel
theorem dX2_rhymeOf_17 : decode cX2_rhymeOf 17 = .ok (.iload_n 3, 1) := by decide +kernel
theorem dX2_rhymeOf_18 : decode cX2_rhymeOf 18 = .ok (.aload_n 0, 1) := by decide +kernel
theorem dX2_rhymeOf_19 : decode cX2_rhymeOf 19 = .ok (.getfield 13, 3) := by decide +kernel
theorem dX2_rhymeOf_22 : decode cX2_rhymeOf 22 = .ok (.iload_n 3, 1) := by decide +kernel
theorem dX2_rhymeOf_23 : decode cX2_rhymeOf 23 = .ok (.iaload, 1) := by decide +kernel
theorem dX2_rhymeOf_24 : decode cX2_rhymeOf 24 = .ok (.iload 4, 2) := by decide +kernel
theorem dX2_rhymeOf_26 : decode cX2_rhymeOf 26 = .ok (.aload_n 0, 1) := by decide +kernel
theorem dX2_rhymeOf_27 : decode cX2_rhymeOf 27 = .ok (.getfield 37, 3) := by decide +kernel
theorem dX2_rhymeOf_30 : decode cX2_rhymeOf 30 = .ok (.invokevirtual 118, 3) := by decide +kernel
theorem dX2_rhymeOf_33 : decode cX2_rhymeOf 33 = .ok (.iconst 1, 1) := by decide +kernel
theorem dX2_rhymeOf_34 : decode cX2_rhymeOf 34 = .ok (.isub, 1) := by decide +kernel
theorem dX2_rhymeOf_35 : decode cX2_rhymeOf 35 = .ok (.istore 6, 2) := by decide +kernel
theorem dX2_rhymeOf_37 : decode cX2_rhymeOf 37 = .ok (.iconst 0, 1) := by decide +kernel
theorem dX2_rhymeOf_38 : decode cX2_rhymeOf 38 = .ok (.istore 7, 2) := by decide +kernel
theorem dX2_rhymeOf_40 : decode cX2_rhymeOf 40 = .ok (.iload 5, 2) := by decide +kernel
theorem dX2_rhymeOf_42 : decode cX2_rhymeOf 42 = .ok (.ifCond .lt 67, 3) := by decide +kernel
theorem dX2_rhymeOf_45 : decode cX2_rhymeOf 45 = .ok (.iload 6, 2) := by decide +kernel
theorem dX2_rhymeOf_47 : decode cX2_rhymeOf 47 = .ok (.ifCond .lt 62, 3) := by decide +kernel
theorem dX2_rhymeOf_50 : decode cX2_rhymeOf 50 = .ok (.aload_n 0, 1) := by decide +kernel
theorem dX2_rhymeOf_51 : decode cX2_rhymeOf 51 = .ok (.getfield 34, 3) := by decide +kernel
theorem dX2_rhymeOf_54 : decode cX2_rhymeOf 54 = .ok (.iload 5, 2) := by decide +kernel
theorem dX2_rhymeOf_56 : decode cX2_rhymeOf 56 = .ok (.iaload, 1) := by decide +kernel
theorem dX2_rhymeOf_57 : decode cX2_rhymeOf 57 = .ok (.bipush 8, 2) := by decide +kernel
theorem dX2_rhymeOf_59 : decode cX2_rhymeOf 59 = .ok (.idiv, 1) := by decide +kernel
theorem dX2_rhymeOf_60 : decode cX2_rhymeOf 60 = .ok (.aload_n 0, 1) := by decide +kernel
theorem dX2_rhymeOf_61 : decode cX2_rhymeOf 61 = .ok (.getfield 37, 3) := by decide +kernel
theorem dX2_rhymeOf_64 : decode cX2_rhymeOf 64 = .ok (.iload 6, 2) := by decide +kernel
theorem dX2_rhymeOf_66 : decode cX2_rhymeOf 66 = .ok (.iaload, 1) := by decide +kernel
theorem dX2_rhymeOf_67 : decode cX2_rhymeOf 67 = .ok (.bipush 8, 2) := by decide +kernel
theorem dX2_rhymeOf_69 : decode cX2_rhymeOf 69 = .ok (.idiv, 1) := by decide +kernel
theorem dX2_rhymeOf_70 : decode cX2_rhymeOf 70 = .ok (.if_icmp .ne 39, 3) := by decide +kernel
theorem dX2_rhymeOf_73 : decode cX2_rhymeOf 73 = .ok (.iload 7, 2) := by decide +kernel
theorem dX2_rhymeOf_75 : decode cX2_rhymeOf 75 = .ok (.aload_n 0, 1) := by decide +kernel
theorem dX2_rhymeOf_76 : decode cX2_rhymeOf 76 = .ok (.getfield 34, 3) := by decide +kernel
theorem dX2_rhymeOf_79 : decode cX2_rhymeOf 79 = .ok (.iload 5, 2) := by decide +kernel
theorem dX2_rhymeOf_81 : decode cX2_rhymeOf 81 = .ok (.iaload, 1) := by decide +kernel
theorem dX2_rhymeOf_82 : decode cX2_rhymeOf 82 = .ok (.aload_n 0, 1) := by decide +kernel
theorem dX2_rhymeOf_83 : decode cX2_rhymeOf 83 = .ok (.getfield 37, 3) := by decide +kernel
theorem dX2_rhymeOf_86 : decode cX2_rhymeOf 86 = .ok (.iload 6, 2) := by decide +kernel
theorem dX2_rhymeOf_88 : decode cX2_rhymeOf 88 = .ok (.iaload, 1) := by decide +kernel
theorem dX2_rhymeOf_89 : decode cX2_rhymeOf 89 = .ok (.if_icmp .ne 7, 3) := by decide +kernel
theorem dX2_rhymeOf_92 : decode cX2_rhymeOf 92 = .ok (.iconst 2, 1) := by decide +kernel
theorem dX2_rhymeOf_93 : decode cX2_rhymeOf 93 = .ok (.goto 4, 3) := by decide +kernel
theorem dX2_rhymeOf_96 : decode cX2_rhymeOf 96 = .ok (.iconst 1, 1) := by decide +kernel
theorem dX2_rhymeOf_97 : decode cX2_rhymeOf 97 = .ok (.iadd, 1) := by decide +kernel
theorem dX2_rhymeOf_98 : decode cX2_rhymeOf 98 = .ok (.istore 7, 2) := by decide +kernel
theorem dX2_rhymeOf_100 : decode cX2_rhymeOf 100 = .ok (.iinc 5 (-1), 3) := by decide +kernel
theorem dX2_rhymeOf_103 : decode cX2_rhymeOf 103 = .ok (.iinc 6 (-1), 3) := by decide +kernel
theorem dX2_rhymeOf_106 : decode cX2_rhymeOf 106 = .ok (.goto (-66), 3) := by decide +kernel
theorem dX2_rhymeOf_109 : decode cX2_rhymeOf 109 = .ok (.iload 7, 2) := by decide +kernel
theorem dX2_rhymeOf_111 : decode cX2_rhymeOf 111 = .ok (.ireturn, 1) := by decide +kernel
set_option maxRecDepth 20000 in
theorem ggX2_rhyme_X2_isStick : GoodIn wsX2_rhyme wsX2_isStick := goodIn_r _ [7, 8, 9, 10, 6, 11, 31, 32, 33, 34, 35, 36, 37, 38, 39, 40, 41, 42, 43] (by decide +kernel) (by decide +kernel)
set_option maxRecDepth 20000 in
theorem gX2_rhyme_X2_isStick : GoodIn wsX2_rhyme (wsV RX2 51 RX2 yX2_isStick wsX2_isStick) := goodIn_app (goodIn_of _ (by decide +kernel)) ggX2_rhyme_X2_isStick
set_option maxRecDepth 20000 in
theorem ggX2_rhyme_X2_no : GoodIn wsX2_rhyme wsX2_no := goodIn_r _ [15, 1, 31, 32, 33, 34, 35, 36, 37, 38, 39, 40, 41, 42, 43] (by decide +kernel) (by decide +kernel)
set_option maxRecDepth 20000 in
theorem gX2_rhyme_X2_no : GoodIn wsX2_rhyme (wsV RX2 58 RX2 yX2_no wsX2_no) := goodIn_app (goodIn_of _ (by decide +kernel)) ggX2_rhyme_X2_no
set_option maxRecDepth 20000 in
theorem ggX2_rhyme_X2_isIn : GoodIn wsX2_rhyme wsX2_isIn := goodIn_r _ [11] (by decide +kernel) (by decide +kernel)
set_option maxRecDepth 20000 in
theorem gX2_rhyme_X2_isIn : GoodIn wsX2_rhyme (va_wsS RX2 47 yX2_isIn wsX2_isIn) := goodIn_app (goodIn_of _ (by decide +kernel)) ggX2_rhyme_X2_isIn
set_option maxRecDepth 20000 in
theorem ggX2_rhyme_X2_rhymeOf : GoodIn wsX2_rhyme wsX2_rhymeOf := goodIn_r _ [19, 20, 2, 21, 22, 23, 24, 6, 25, 26, 27, 28, 29, 30, 31, 32, 33, 34, 35, 36, 37, 38, 39, 40, 41, 42, 43] (by decide +kernel) (by decide +kernel)
set_option maxRecDepth 20000 in
theorem gX2_rhyme_X2_rhymeOf : GoodIn wsX2_rhyme (wsV RX2 122 RX2 yX2_rhymeOf wsX2_rhymeOf) := goodIn_app (goodIn_of _ (by decide +kernel)) ggX2_rhyme_X2_rhymeOf
theorem dX2_rhyme_0 : decode cX2_rhyme 0 = .ok (.aload_n 0, 1) := by decide +kernel
theorem dX2_rhyme_1 : decode cX2_rhyme 1 = .ok (.iconst 0, 1) := by decide +kernel
theorem dX2_rhyme_2 : decode cX2_rhyme 2 = .ok (.putfield 40, 3) := by decide +kernel
theorem dX2_rhyme_5 : decode cX2_rhyme 5 = .ok (.aload_n 0, 1) := by decide +kernel
theorem dX2_rhyme_6 : decode cX2_rhyme 6 = .ok (.iload_n 1, 1) := by decide +kernel
theorem dX2_rhyme_7 : decode cX2_rhyme 7 = .ok (.invokevirtual 51, 3) := by decide +kernel
theorem dX2_rhyme_10 : decode cX2_rhyme 10 = .ok (.ifCond .eq 11, 3) := by decide +kernel
theorem dX2_rhyme_13 : decode cX2_rhyme 13 = .ok (.aload_n 0, 1) := by decide +kernel
theorem dX2_rhyme_14 : decode cX2_rhyme 14 = .ok (.iload_n 2, 1) := by decide +kernel
theorem dX2_rhyme_15 : decode cX2_rhyme 15 = .ok (.invokevirtual 51, 3) := by decide +kernel
theorem dX2_rhyme_18 : decode cX2_rhyme 18 = .ok (.ifCond .ne 9, 3) := by decide +kernel
theorem dX2_rhyme_21 : decode cX2_rhyme 21 = .ok (.aload_n 0, 1) := by decide +kernel
theorem dX2_rhyme_22 : decode cX2_rhyme 22 = .ok (.iconst 1, 1) := by decide +kernel
theorem dX2_rhyme_23 : decode cX2_rhyme 23 = .ok (.invokevirtual 58, 3) := by decide +kernel
theorem dX2_rhyme_26 : decode cX2_rhyme 26 = .ok (.ireturn, 1) := by decide +kernel
theorem dX2_rhyme_27 : decode cX2_rhyme 27 = .ok (.iload_n 3, 1) := by decide +kernel
theorem dX2_rhyme_28 : decode cX2_rhyme 28 = .ok (.iconst 0, 1) := by decide +kernel
theorem dX2_rhyme_29 : decode cX2_rhyme 29 = .ok (.iconst 2, 1) := by decide +kernel
theorem dX2_rhyme_30 : decode cX2_rhyme 30 = .ok (.invokestatic 47, 3) := by decide +kernel
theorem dX2_rhyme_33 : decode cX2_rhyme 33 = .ok (.ifCond .eq 19, 3) := by decide +kernel
theorem dX2_rhyme_36 : decode cX2_rhyme 36 = .ok (.aload_n 0, 1) := by decide +kernel
theorem dX2_rhyme_37 : decode cX2_rhyme 37 = .ok (.iload_n 1, 1) := by decide +kernel
theorem dX2_rhyme_38 : decode cX2_rhyme 38 = .ok (.aload_n 0, 1) := by decide +kernel
theorem dX2_rhyme_39 : decode cX2_rhyme 39 = .ok (.getfield 13, 3) := by decide +kernel
theorem dX2_rhyme_42 : decode cX2_rhyme 42 = .ok (.iload_n 1, 1) := by decide +kernel
theorem dX2_rhyme_43 : decode cX2_rhyme 43 = .ok (.iaload, 1) := by decide +kernel
theorem dX2_rhyme_44 : decode cX2_rhyme 44 = .ok (.iload_n 2, 1) := by decide +kernel
theorem dX2_rhyme_45 : decode cX2_rhyme 45 = .ok (.iload_n 3, 1) := by decide +kernel
theorem dX2_rhyme_46 : decode cX2_rhyme 46 = .ok (.invokevirtual 122, 3) := by decide +kernel
theorem dX2_rhyme_49 : decode cX2_rhyme 49 = .ok (.goto 8, 3) := by decide +kernel
theorem dX2_rhyme_52 : decode cX2_rhyme 52 = .ok (.aload_n 0, 1) := by decide +kernel
theorem dX2_rhyme_53 : decode cX2_rhyme 53 = .ok (.iconst 2, 1) := by decide +kernel
theorem dX2_rhyme_54 : decode cX2_rhyme 54 = .ok (.invokevirtual 58, 3) := by decide +kernel
theorem dX2_rhyme_57 : decode cX2_rhyme 57 = .ok (.ireturn, 1) := by decide +kernel
set_option maxRecDepth 20000 in
theorem ggX2_best_X2_isStick : GoodIn wsX2_best wsX2_isStick := goodIn_r _ [6, 7, 8, 9, 5, 10, 31, 32, 33, 34, 35, 36, 37, 38, 39, 40, 41, 42, 43] (by decide +kernel) (by decide +kernel)
set_option maxRecDepth 20000 in
theorem gX2_best_X2_isStick : GoodIn wsX2_best (wsV RX2 51 RX2 yX2_isStick wsX2_isStick) := goodIn_app (goodIn_of _ (by decide +kernel)) ggX2_best_X2_isStick
set_option maxRecDepth 20000 in
theorem ggX2_best_X2_no : GoodIn wsX2_best wsX2_no := goodIn_r _ [14, 1, 31, 32, 33, 34, 35, 36, 37, 38, 39, 40, 41, 42, 43] (by decide +kernel) (by decide +kernel)
set_option maxRecDepth 20000 in
theorem gX2_best_X2_no : GoodIn wsX2_best (wsV RX2 58 RX2 yX2_no wsX2_no) := goodIn_app (goodIn_of _ (by decide +kernel)) ggX2_best_X2_no
set_option maxRecDepth 20000 in
theorem ggX2_best_X2_isIn : GoodIn wsX2_best wsX2_isIn := goodIn_r _ [10] (by decide +kernel) (by decide +kernel)
set_option maxRecDepth 20000 in
theorem gX2_best_X2_isIn : GoodIn wsX2_best (va_wsS RX2 47 yX2_isIn wsX2_isIn) := goodIn_app (goodIn_of _ (by decide +kernel)) ggX2_best_X2_isIn
set_option maxRecDepth 20000 in
theorem ggX2_best_X2_rhymeOf : GoodIn wsX2_best wsX2_rhymeOf := goodIn_r _ [18, 19, 20, 21, 22, 23, 24, 5, 25, 26, 27, 28, 29, 30, 31, 32, 33, 34, 35, 36, 37, 38, 39, 40, 41, 42, 43] (by decide +kernel) (by decide +kernel)
set_option maxRecDepth 20000 in
theorem gX2_best_X2_rhymeOf : GoodIn wsX2_best (wsV RX2 122 RX2 yX2_rhymeOf wsX2_rhymeOf) := goodIn_app (goodIn_of _ (by decide +kernel)) ggX2_best_X2_rhymeOf
theorem dX2_best_0 : decode cX2_best 0 = .ok (.aload_n 0, 1) := by decide +kernel
theorem dX2_best_1 : decode cX2_best 1 = .ok (.iconst 0, 1) := by decide +kernel
theorem dX2_best_2 : decode cX2_best 2 = .ok (.putfield 40, 3) := by decide +kernel
theorem dX2_best_5 : decode cX2_best 5 = .ok (.aload_n 0, 1) := by decide +kernel
theorem dX2_best_6 : decode cX2_best 6 = .ok (.iload_n 1, 1) := by decide +kernel
theorem dX2_best_7 : decode cX2_best 7 = .ok (.invokevirtual 51, 3) := by decide +kernel
theorem dX2_best_10 : decode cX2_best 10 = .ok (.ifCond .eq 11, 3) := by decide +kernel
theorem dX2_best_13 : decode cX2_best 13 = .ok (.aload_n 0, 1) := by decide +kernel
theorem dX2_best_14 : decode cX2_best 14 = .ok (.iload_n 2, 1) := by decide +kernel
theorem dX2_best_15 : decode cX2_best 15 = .ok (.invokevirtual 51, 3) := by decide +kernel
theorem dX2_best_18 : decode cX2_best 18 = .ok (.ifCond .ne 9, 3) := by decide +kernel
theorem dX2_best_21 : decode cX2_best 21 = .ok (.aload_n 0, 1) := by decide +kernel
theorem dX2_best_22 : decode cX2_best 22 = .ok (.iconst 1, 1) := by decide +kernel
theorem dX2_best_23 : decode cX2_best 23 = .ok (.invokevirtual 58, 3) := by decide +kernel
theorem dX2_best_26 : decode cX2_best 26 = .ok (.ireturn, 1) := by decide +kernel
theorem dX2_best_27 : decode cX2_best 27 = .ok (.iload_n 3, 1) := by decide +kernel
theorem dX2_best_28 : decode cX2_best 28 = .ok (.iconst 0, 1) := by decide +kernel
theorem dX2_best_29 : decode cX2_best 29 = .ok (.iconst 2, 1) := by decide +kernel
theorem dX2_best_30 : decode cX2_best 30 = .ok (.invokestatic 47, 3) := by decide +kernel
theorem dX2_best_33 : decode cX2_best 33 = .ok (.ifCond .ne 9, 3) := by decide +kernel
theorem dX2_best_36 : decode cX2_best 36 = .ok (.aload_n 0, 1) := by decide +kernel
theorem dX2_best_37 : decode cX2_best 37 = .ok (.iconst 2, 1) := by decide +kernel
theorem dX2_best_38 : decode cX2_best 38 = .ok (.invokevirtual 58, 3) := by decide +kernel
theorem dX2_best_41 : decode cX2_best 41 = .ok (.ireturn, 1) := by decide +kernel
theorem dX2_best_42 : decode cX2_best 42 = .ok (.iconst 0, 1) := by decide +kernel
theorem dX2_best_43 : decode cX2_best 43 = .ok (.istore 4, 2) := by decide +kernel
theorem dX2_best_45 : decode cX2_best 45 = .ok (.iconst 1, 1) := by decide +kernel
theorem dX2_best_46 : decode cX2_best 46 = .ok (.istore 5, 2) := by decide +kernel
theorem dX2_best_48 : decode cX2_best 48 = .ok (.iload 5, 2) := by decide +kernel
theorem dX2_best_50 : decode cX2_best 50 = .ok (.iconst 3, 1) := by decide +kernel
theorem dX2_best_51 : decode cX2_best 51 = .ok (.if_icmp .ge 34, 3) := by decide +kernel
theorem dX2_best_54 : decode cX2_best 54 = .ok (.aload_n 0, 1) := by decide +kernel
theorem dX2_best_55 : decode cX2_best 55 = .ok (.iload_n 1, 1) := by decide +kernel
theorem dX2_best_56 : decode cX2_best 56 = .ok (.iload 5, 2) := by decide +kernel
theorem dX2_best_58 : decode cX2_best 58 = .ok (.iload_n 2, 1) := by decide +kernel
theorem dX2_best_59 : decode cX2_best 59 = .ok (.iload_n 3, 1) := by decide +kernel
theorem dX2_best_60 : decode cX2_best 60 = .ok (.invokevirtual 122, 3) := by decide +kernel
theorem dX2_best_63 : decode cX2_best 63 = .ok (.aload_n 0, 1) := by decide +kernel
theorem dX2_best_64 : decode cX2_best 64 = .ok (.iload_n 1, 1) := by decide +kernel
theorem dX2_best_65 : decode cX2_best 65 = .ok (.iload 4, 2) := by decide +kernel
theorem dX2_best_67 : decode cX2_best 67 = .ok (.iload_n 2, 1) := by decide +kernel
theorem dX2_best_68 : decode cX2_best 68 = .ok (.iload_n 3, 1) := by decide +kernel
theorem dX2_best_69 : decode cX2_best 69 = .ok (.invokevirtual 122, 3) := by decide +kernel
theorem dX2_best_72 : decode cX2_best 72 = .ok (.if_icmp .le 7, 3) := by decide +kernel
theorem dX2_best_75 : decode cX2_best 75 = .ok (.iload 5, 2) := by decide +kernel
theorem dX2_best_77 : decode cX2_best 77 = .ok (.istore 4, 2) := by decide +kernel
theorem dX2_best_79 : decode cX2_best 79 = .ok (.iinc 5 1, 3) := by decide +kernel
theorem dX2_best_82 : decode cX2_best 82 = .ok (.goto (-34), 3) := by decide +kernel
theorem dX2_best_85 : decode cX2_best 85 = .ok (.iload 4, 2) := by decide +kernel
theorem dX2_best_87 : decode cX2_best 87 = .ok (.ireturn, 1) := by decide +kernel
set_option maxRecDepth 20000 in
theorem ggX2_pieces_X2_isStick : GoodIn wsX2_pieces wsX2_isStick := goodIn_r _ [7, 8, 9, 10, 6, 11, 33, 34, 35, 36, 37, 38, 39, 40, 41, 42, 43, 44, 45] (by decide +kernel) (by decide +kernel)
set_option maxRecDepth 20000 in
theorem gX2_pieces_X2_isStick : GoodIn wsX2_pieces (wsV RX2 51 RX2 yX2_isStick wsX2_isStick) := goodIn_app (goodIn_of _ (by decide +kernel)) ggX2_pieces_X2_isStick
set_option maxRecDepth 20000 in
theorem ggX2_pieces_X2_no : GoodIn wsX2_pieces wsX2_no := goodIn_r _ [15, 1, 33, 34, 35, 36, 37, 38, 39, 40, 41, 42, 43, 44, 45] (by decide +kernel) (by decide +kernel)
set_option maxRecDepth 20000 in
theorem gX2_pieces_X2_no : GoodIn wsX2_pieces (wsV RX2 58 RX2 yX2_no wsX2_no) := goodIn_app (goodIn_of _ (by decide +kernel)) ggX2_pieces_X2_no
set_option maxRecDepth 20000 in
theorem ggX2_pieces_X2_isIn : GoodIn wsX2_pieces wsX2_isIn := goodIn_r _ [11] (by decide +kernel) (by decide +kernel)
set_option maxRecDepth 20000 in
theorem gX2_pieces_X2_isIn : GoodIn wsX2_pieces (va_wsS RX2 47 yX2_isIn wsX2_isIn) := goodIn_app (goodIn_of _ (by decide +kernel)) ggX2_pieces_X2_isIn
set_option maxRecDepth 20000 in
theorem ggX2_pieces_X2_strong : GoodIn wsX2_pieces wsX2_strong := goodIn_r _ [19, 20, 21, 22, 23, 24, 25, 26, 27, 6, 28, 29, 30, 31, 32, 33, 34, 35, 36, 37, 38, 39, 40, 41, 42, 43, 44, 45] (by decide +kernel) (by decide +kernel)
set_option maxRecDepth 20000 in
theorem gX2_pieces_X2_strong : GoodIn wsX2_pieces (wsV RX2 89 RX2 yX2_strong wsX2_strong) := goodIn_app (goodIn_of _ (by decide +kernel)) ggX2_pieces_X2_strong
theorem dX2_pieces_0 : decode cX2_pieces 0 = .ok (.aload_n 0, 1) := by decide +kernel
theorem dX2_pieces_1 : decode cX2_pieces 1 = .ok (.iconst 0, 1) := by decide +kernel
theorem dX2_pieces_2 : decode cX2_pieces 2 = .ok (.putfield 40, 3) := by decide +kernel
theorem dX2_pieces_5 : decode cX2_pieces 5 = .ok (.aload_n 0, 1) := by decide +kernel
theorem dX2_pieces_6 : decode cX2_pieces 6 = .ok (.iload_n 1, 1) := by decide +kernel
theorem dX2_pieces_7 : decode cX2_pieces 7 = .ok (.invokevirtual 51, 3) := by decide +kernel
theorem dX2_pieces_10 : decode cX2_pieces 10 = .ok (.ifCond .ne 9, 3) := by decide +kernel
theorem dX2_pieces_13 : decode cX2_pieces 13 = .ok (.aload_n 0, 1) := by decide +kernel
theorem dX2_pieces_14 : decode cX2_pieces 14 = .ok (.iconst 1, 1) := by decide +kernel
theorem dX2_pieces_15 : decode cX2_pieces 15 = .ok (.invokevirtual 58, 3) := by decide +kernel
theorem dX2_pieces_18 : decode cX2_pieces 18 = .ok (.ireturn, 1) := by decide +kernel
theorem dX2_pieces_19 : decode cX2_pieces 19 = .ok (.iload_n 2, 1) := by decide +kernel
theorem dX2_pieces_20 : decode cX2_pieces 20 = .ok (.iconst 1, 1) := by decide +kernel
theorem dX2_pieces_21 : decode cX2_pieces 21 = .ok (.bipush 20, 2) := by decide +kernel
theorem dX2_pieces_23 : decode cX2_pieces 23 = .ok (.invokestatic 47, 3) := by decide +kernel
theorem dX2_pieces_26 : decode cX2_pieces 26 = .ok (.ifCond .ne 9, 3) := by decide +kernel
theorem dX2_pieces_29 : decode cX2_pieces 29 = .ok (.aload_n 0, 1) := by decide +kernel
theorem dX2_pieces_30 : decode cX2_pieces 30 = .ok (.iconst 2, 1) := by decide +kernel
theorem dX2_pieces_31 : decode cX2_pieces 31 = .ok (.invokevirtual 58, 3) := by decide +kernel
theorem dX2_pieces_34 : decode cX2_pieces 34 = .ok (.ireturn, 1) := by decide +kernel
theorem dX2_pieces_35 : decode cX2_pieces 35 = .ok (.iconst 1, 1) := by decide +kernel
theorem dX2_pieces_36 : decode cX2_pieces 36 = .ok (.istore_n 3, 1) := by decide +kernel
theorem dX2_pieces_37 : decode cX2_pieces 37 = .ok (.iconst 0, 1) := by decide +kernel
theorem dX2_pieces_38 : decode cX2_pieces 38 = .ok (.istore 4, 2) := by decide +kernel
theorem dX2_pieces_40 : decode cX2_pieces 40 = .ok (.iload 4, 2) := by decide +kernel
theorem dX2_pieces_42 : decode cX2_pieces 42 = .ok (.aload_n 0, 1) := by decide +kernel
theorem dX2_pieces_43 : decode cX2_pieces 43 = .ok (.getfield 9, 3) := by decide +kernel
theorem dX2_pieces_46 : decode cX2_pieces 46 = .ok (.iload_n 1, 1) := by decide +kernel
theorem dX2_pieces_47 : decode cX2_pieces 47 = .ok (.iaload, 1) := by decide +kernel
theorem dX2_pieces_48 : decode cX2_pieces 48 = .ok (.iconst 1, 1) := by decide +kernel
theorem dX2_pieces_49 : decode cX2_pieces 49 = .ok (.isub, 1) := by decide +kernel
theorem dX2_pieces_50 : decode cX2_pieces 50 = .ok (.if_icmp .ge 28, 3) := by decide +kernel
theorem dX2_pieces_53 : decode cX2_pieces 53 = .ok (.iload_n 3, 1) := by decide +kernel
theorem dX2_pieces_54 : decode cX2_pieces 54 = .ok (.aload_n 0, 1) := by decide +kernel
theorem dX2_pieces_55 : decode cX2_pieces 55 = .ok (.iload_n 1, 1) := by decide +kernel
theorem dX2_pieces_56 : decode cX2_pieces 56 = .ok (.iload 4, 2) := by decide +kernel
theorem dX2_pieces_58 : decode cX2_pieces 58 = .ok (.invokevirtual 89, 3) := by decide +kernel
theorem dX2_pieces_61 : decode cX2_pieces 61 = .ok (.iload_n 2, 1) := by decide +kernel
theorem dX2_pieces_62 : decode cX2_pieces 62 = .ok (.if_icmp .ge 7, 3) := by decide +kernel
theorem dX2_pieces_65 : decode cX2_pieces 65 = .ok (.iconst 1, 1) := by decide +kernel
theorem dX2_pieces_66 : decode cX2_pieces 66 = .ok (.goto 4, 3) := by decide +kernel
theorem dX2_pieces_69 : decode cX2_pieces 69 = .ok (.iconst 0, 1) := by decide +kernel
theorem dX2_pieces_70 : decode cX2_pieces 70 = .ok (.iadd, 1) := by decide +kernel
theorem dX2_pieces_71 : decode cX2_pieces 71 = .ok (.istore_n 3, 1) := by decide +kernel
theorem dX2_pieces_72 : decode cX2_pieces 72 = .ok (.iinc 4 1, 3) := by decide +kernel
theorem dX2_pieces_75 : decode cX2_pieces 75 = .ok (.goto (-35), 3) := by decide +kernel
theorem dX2_pieces_78 : decode cX2_pieces 78 = .ok (.iload_n 3, 1) := by decide +kernel
theorem dX2_pieces_79 : decode cX2_pieces 79 = .ok (.ireturn, 1) := by decide +kernel
set_option maxRecDepth 20000 in
theorem ggX2_row_X2_isStick : GoodIn wsX2_row wsX2_isStick := goodIn_r _ [9, 3, 10, 11, 8, 12, 32, 33, 34, 35, 36, 37, 38, 39, 40, 41, 42, 43, 44] (by decide +kernel) (by decide +kernel)
set_option maxRecDepth 20000 in
theorem gX2_row_X2_isStick : GoodIn wsX2_row (wsV RX2 51 RX2 yX2_isStick wsX2_isStick) := goodIn_app (goodIn_of _ (by decide +kernel)) ggX2_row_X2_isStick
set_option maxRecDepth 20000 in
theorem ggX2_row_X2_no : GoodIn wsX2_row wsX2_no := goodIn_r _ [16, 1, 32, 33, 34, 35, 36, 37, 38, 39, 40, 41, 42, 43, 44] (by decide +kernel) (by decide +kernel)
set_option maxRecDepth 20000 in
theorem gX2_row_X2_no : GoodIn wsX2_row (wsV RX2 58 RX2 yX2_no wsX2_no) := goodIn_app (goodIn_of _ (by decide +kernel)) ggX2_row_X2_no
set_option maxRecDepth 20000 in
theorem ggX2_row_X2_isIn : GoodIn wsX2_row wsX2_isIn := goodIn_r _ [12] (by decide +kernel) (by decide +kernel)
set_option maxRecDepth 20000 in
theorem gX2_row_X2_isIn : GoodIn wsX2_row (va_wsS RX2 47 yX2_isIn wsX2_isIn) := goodIn_app (goodIn_of _ (by decide +kernel)) ggX2_row_X2_isIn
set_option maxRecDepth 20000 in
theorem ggX2_row_X2_rhymeOf : GoodIn wsX2_row wsX2_rhymeOf := goodIn_r _ [20, 21, 4, 22, 23, 24, 25, 8, 26, 27, 28, 29, 30, 31, 32, 33, 34, 35, 36, 37, 38, 39, 40, 41, 42, 43, 44] (by decide +kernel) (by decide +kernel)
set_option maxRecDepth 20000 in
theorem gX2_row_X2_rhymeOf : GoodIn wsX2_row (wsV RX2 122 RX2 yX2_rhymeOf wsX2_rhymeOf) := goodIn_app (goodIn_of _ (by decide +kernel)) ggX2_row_X2_rhymeOf
theorem dX2_row_0 : decode cX2_row 0 = .ok (.aload_n 0, 1) := by decide +kernel
theorem dX2_row_1 : decode cX2_row 1 = .ok (.iconst 0, 1) := by decide +kernel
theorem dX2_row_2 : decode cX2_row 2 = .ok (.putfield 40, 3) := by decide +kernel
theorem dX2_row_5 : decode cX2_row 5 = .ok (.aload_n 0, 1) := by decide +kernel
theorem dX2_row_6 : decode cX2_row 6 = .ok (.iload_n 1, 1) := by decide +kernel
theorem dX2_row_7 : decode cX2_row 7 = .ok (.invokevirtual 51, 3) := by decide +kernel
theorem dX2_row_10 : decode cX2_row 10 = .ok (.ifCond .ne 9, 3) := by decide +kernel
theorem dX2_row_13 : decode cX2_row 13 = .ok (.aload_n 0, 1) := by decide +kernel
theorem dX2_row_14 : decode cX2_row 14 = .ok (.iconst 1, 1) := by decide +kernel
theorem dX2_row_15 : decode cX2_row 15 = .ok (.invokevirtual 58, 3) := by decide +kernel
theorem dX2_row_18 : decode cX2_row 18 = .ok (.ireturn, 1) := by decide +kernel
theorem dX2_row_19 : decode cX2_row 19 = .ok (.iload_n 2, 1) := by decide +kernel
theorem dX2_row_20 : decode cX2_row 20 = .ok (.iconst 0, 1) := by decide +kernel
theorem dX2_row_21 : decode cX2_row 21 = .ok (.iconst 2, 1) := by decide +kernel
theorem dX2_row_22 : decode cX2_row 22 = .ok (.invokestatic 47, 3) := by decide +kernel
theorem dX2_row_25 : decode cX2_row 25 = .ok (.ifCond .ne 9, 3) := by decide +kernel
theorem dX2_row_28 : decode cX2_row 28 = .ok (.aload_n 0, 1) := by decide +kernel
theorem dX2_row_29 : decode cX2_row 29 = .ok (.iconst 2, 1) := by decide +kernel
theorem dX2_row_30 : decode cX2_row 30 = .ok (.invokevirtual 58, 3) := by decide +kernel
theorem dX2_row_33 : decode cX2_row 33 = .ok (.ireturn, 1) := by decide +kernel
theorem dX2_row_34 : decode cX2_row 34 = .ok (.aload_n 0, 1) := by decide +kernel
theorem dX2_row_35 : decode cX2_row 35 = .ok (.getfield 16, 3) := by decide +kernel
theorem dX2_row_38 : decode cX2_row 38 = .ok (.iload_n 1, 1) := by decide +kernel
theorem dX2_row_39 : decode cX2_row 39 = .ok (.iaload, 1) := by decide +kernel
theorem dX2_row_40 : decode cX2_row 40 = .ok (.iconst 1, 1) := by decide +kernel
theorem dX2_row_41 : decode cX2_row 41 = .ok (.if_icmp .ne 9, 3) := by decide +kernel
theorem dX2_row_44 : decode cX2_row 44 = .ok (.aload_n 0, 1) := by decide +kernel
theorem dX2_row_45 : decode cX2_row 45 = .ok (.iconst 3, 1) := by decide +kernel
theorem dX2_row_46 : decode cX2_row 46 = .ok (.invokevirtual 58, 3) := by decide +kernel
theorem dX2_row_49 : decode cX2_row 49 = .ok (.ireturn, 1) := by decide +kernel
theorem dX2_row_50 : decode cX2_row 50 = .ok (.lconst 1, 1) := by decide +kernel
theorem dX2_row_51 : decode cX2_row 51 = .ok (.iload_n 1, 1) := by decide +kernel
theorem dX2_row_52 : decode cX2_row 52 = .ok (.lshl, 1) := by decide +kernel
theorem dX2_row_53 : decode cX2_row 53 = .ok (.lstore_n 3, 1) := by decide +kernel
theorem dX2_row_54 : decode cX2_row 54 = .ok (.iconst 1, 1) := by decide +kernel
theorem dX2_row_55 : decode cX2_row 55 = .ok (.istore 5, 2) := by decide +kernel
theorem dX2_row_57 : decode cX2_row 57 = .ok (.iload_n 1, 1) := by decide +kernel
theorem dX2_row_58 : decode cX2_row 58 = .ok (.istore 6, 2) := by decide +kernel
theorem dX2_row_60 : decode cX2_row 60 = .ok (.iload 6, 2) := by decide +kernel
theorem dX2_row_62 : decode cX2_row 62 = .ok (.iconst (-1), 1) := by decide +kernel
theorem dX2_row_63 : decode cX2_row 63 = .ok (.if_icmp .eq 114, 3) := by decide +kernel
theorem dX2_row_66 : decode cX2_row 66 = .ok (.iconst (-1), 1) := by decide +kernel
theorem dX2_row_67 : decode cX2_row 67 = .ok (.istore 7, 2) := by decide +kernel
theorem dX2_row_69 : decode cX2_row 69 = .ok (.iconst 0, 1) := by decide +kernel
theorem dX2_row_70 : decode cX2_row 70 = .ok (.istore 8, 2) := by decide +kernel
theorem dX2_row_72 : decode cX2_row 72 = .ok (.iconst 0, 1) := by decide +kernel
theorem dX2_row_73 : decode cX2_row 73 = .ok (.istore 9, 2) := by decide +kernel
theorem dX2_row_75 : decode cX2_row 75 = .ok (.iload 9, 2) := by decide +kernel
theorem dX2_row_77 : decode cX2_row 77 = .ok (.aload_n 0, 1) := by decide +kernel
theorem dX2_row_78 : decode cX2_row 78 = .ok (.getfield 44, 3) := by decide +kernel
theorem dX2_row_81 : decode cX2_row 81 = .ok (.if_icmp .ge 70, 3) := by decide +kernel
theorem dX2_row_84 : decode cX2_row 84 = .ok (.aload_n 0, 1) := by decide +kernel
theorem dX2_row_85 : decode cX2_row 85 = .ok (.getfield 16, 3) := by decide +kernel
theorem dX2_row_88 : decode cX2_row 88 = .ok (.iload 9, 2) := by decide +kernel
theorem dX2_row_90 : decode cX2_row 90 = .ok (.iaload, 1) := by decide +kernel
theorem dX2_row_91 : decode cX2_row 91 = .ok (.iconst 1, 1) := by decide +kernel
theorem dX2_row_92 : decode cX2_row 92 = .ok (.if_icmp .eq 53, 3) := by decide +kernel
theorem dX2_row_95 : decode cX2_row 95 = .ok (.lload_n 3, 1) := by decide +kernel
theorem dX2_row_96 : decode cX2_row 96 = .ok (.iload 9, 2) := by decide +kernel
theorem dX2_row_98 : decode cX2_row 98 = .ok (.lshr, 1) := by decide +kernel
theorem dX2_row_99 : decode cX2_row 99 = .ok (.lconst 1, 1) := by decide +kernel
theorem dX2_row_100 : decode cX2_row 100 = .ok (.land, 1) := by decide +kernel
theorem dX2_row_101 : decode cX2_row 101 = .ok (.lconst 1, 1) := by decide +kernel
theorem dX2_row_102 : decode cX2_row 102 = .ok (.lcmp, 1) := by decide +kernel
theorem dX2_row_103 : decode cX2_row 103 = .ok (.ifCond .ne 6, 3) := by decide +kernel
theorem dX2_row_106 : decode cX2_row 106 = .ok (.goto 39, 3) := by decide +kernel
theorem dX2_row_109 : decode cX2_row 109 = .ok (.aload_n 0, 1) := by decide +kernel
theorem dX2_row_110 : decode cX2_row 110 = .ok (.iload 6, 2) := by decide +kernel
theorem dX2_row_112 : decode cX2_row 112 = .ok (.aload_n 0, 1) := by decide +kernel
theorem dX2_row_113 : decode cX2_row 113 = .ok (.getfield 13, 3) := by decide +kernel
theorem dX2_row_116 : decode cX2_row 116 = .ok (.iload 6, 2) := by decide +kernel
theorem dX2_row_118 : decode cX2_row 118 = .ok (.iaload, 1) := by decide +kernel
theorem dX2_row_119 : decode cX2_row 119 = .ok (.iload 9, 2) := by decide +kernel
theorem dX2_row_121 : decode cX2_row 121 = .ok (.iload_n 2, 1) := by decide +kernel
theorem dX2_row_122 : decode cX2_row 122 = .ok (.invokevirtual 122, 3) := by decide +kernel
theorem dX2_row_125 : decode cX2_row 125 = .ok (.istore 10, 2) := by decide +kernel
theorem dX2_row_127 : decode cX2_row 127 = .ok (.iload 10, 2) := by decide +kernel
theorem dX2_row_129 : decode cX2_row 129 = .ok (.iload 8, 2) := by decide +kernel
theorem dX2_row_131 : decode cX2_row 131 = .ok (.if_icmp .gt 6, 3) := by decide +kernel
theorem dX2_row_134 : decode cX2_row 134 = .ok (.goto 11, 3) := by decide +kernel
theorem dX2_row_137 : decode cX2_row 137 = .ok (.iload 10, 2) := by decide +kernel
theorem dX2_row_139 : decode cX2_row 139 = .ok (.istore 8, 2) := by decide +kernel
theorem dX2_row_141 : decode cX2_row 141 = .ok (.iload 9, 2) := by decide +kernel
theorem dX2_row_143 : decode cX2_row 143 = .ok (.istore 7, 2) := by decide +kernel
theorem dX2_row_145 : decode cX2_row 145 = .ok (.iinc 9 1, 3) := by decide +kernel
theorem dX2_row_148 : decode cX2_row 148 = .ok (.goto (-73), 3) := by decide +kernel
theorem dX2_row_151 : decode cX2_row 151 = .ok (.iload 7, 2) := by decide +kernel
theorem dX2_row_153 : decode cX2_row 153 = .ok (.istore 6, 2) := by decide +kernel
theorem dX2_row_155 : decode cX2_row 155 = .ok (.iload 6, 2) := by decide +kernel
theorem dX2_row_157 : decode cX2_row 157 = .ok (.iconst (-1), 1) := by decide +kernel
theorem dX2_row_158 : decode cX2_row 158 = .ok (.if_icmp .ne 6, 3) := by decide +kernel
theorem dX2_row_161 : decode cX2_row 161 = .ok (.goto (-101), 3) := by decide +kernel
theorem dX2_row_164 : decode cX2_row 164 = .ok (.lload_n 3, 1) := by decide +kernel
theorem dX2_row_165 : decode cX2_row 165 = .ok (.lconst 1, 1) := by decide +kernel
theorem dX2_row_166 : decode cX2_row 166 = .ok (.iload 6, 2) := by decide +kernel
theorem dX2_row_168 : decode cX2_row 168 = .ok (.lshl, 1) := by decide +kernel
theorem dX2_row_169 : decode cX2_row 169 = .ok (.lor, 1) := by decide +kernel
theorem dX2_row_170 : decode cX2_row 170 = .ok (.lstore_n 3, 1) := by decide +kernel
theorem dX2_row_171 : decode cX2_row 171 = .ok (.iinc 5 1, 3) := by decide +kernel
theorem dX2_row_174 : decode cX2_row 174 = .ok (.goto (-114), 3) := by decide +kernel
theorem dX2_row_177 : decode cX2_row 177 = .ok (.iload 5, 2) := by decide +kernel
theorem dX2_row_179 : decode cX2_row 179 = .ok (.ireturn, 1) := by decide +kernel
set_option maxRecDepth 20000 in
theorem ggX2_mean_X2_there : GoodIn wsX2_mean wsX2_there := goodIn_r _ [6, 7, 8, 39, 40, 41, 42, 43, 44, 45, 46, 47, 48, 49, 50, 51] (by decide +kernel) (by decide +kernel)
set_option maxRecDepth 20000 in
theorem gX2_mean_X2_there : GoodIn wsX2_mean (wsV RX2 62 RX2 yX2_there wsX2_there) := goodIn_app (goodIn_of _ (by decide +kernel)) ggX2_mean_X2_there
set_option maxRecDepth 20000 in
theorem ggX2_mean_X2_counted : GoodIn wsX2_mean wsX2_counted := goodIn_r _ [12, 7, 8, 13, 14, 15, 16, 17, 18, 5, 19, 20, 21, 22, 23, 24, 25, 26, 27, 28, 29, 30, 31, 32, 33, 34, 35, 36, 37, 38, 2, 3, 4, 6, 39, 40, 41, 42, 43, 44, 45, 46, 47, 48, 49, 50, 51] (by decide +kernel) (by decide +kernel)
set_option maxRecDepth 20000 in
theorem gX2_mean_X2_counted : GoodIn wsX2_mean (wsV RX2 115 RX2 yX2_counted wsX2_counted) := goodIn_app (goodIn_of _ (by decide +kernel)) ggX2_mean_X2_counted
theorem dX2_mean_0 : decode cX2_mean 0 = .ok (.aload_n 0, 1) := by decide +kernel
theorem dX2_mean_1 : decode cX2_mean 1 = .ok (.iconst 0, 1) := by decide +kernel
theorem dX2_mean_2 : decode cX2_mean 2 = .ok (.putfield 40, 3) := by decide +kernel
theorem dX2_mean_5 : decode cX2_mean 5 = .ok (.aload_n 0, 1) := by decide +kernel
theorem dX2_mean_6 : decode cX2_mean 6 = .ok (.invokevirtual 62, 3) := by decide +kernel
theorem dX2_mean_9 : decode cX2_mean 9 = .ok (.ifCond .ne 7, 3) := by decide +kernel
theorem dX2_mean_12 : decode cX2_mean 12 = .ok (.dconst 0, 1) := by decide +kernel
theorem dX2_mean_13 : decode cX2_mean 13 = .ok (.goto 15, 3) := by decide +kernel
theorem dX2_mean_16 : decode cX2_mean 16 = .ok (.aload_n 0, 1) := by decide +kernel
theorem dX2_mean_17 : decode cX2_mean 17 = .ok (.iconst 2, 1) := by decide +kernel
theorem dX2_mean_18 : decode cX2_mean 18 = .ok (.invokevirtual 115, 3) := by decide +kernel
theorem dX2_mean_21 : decode cX2_mean 21 = .ok (.i2d, 1) := by decide +kernel
theorem dX2_mean_22 : decode cX2_mean 22 = .ok (.aload_n 0, 1) := by decide +kernel
theorem dX2_mean_23 : decode cX2_mean 23 = .ok (.invokevirtual 62, 3) := by decide +kernel
theorem dX2_mean_26 : decode cX2_mean 26 = .ok (.i2d, 1) := by decide +kernel
theorem dX2_mean_27 : decode cX2_mean 27 = .ok (.ddiv, 1) := by decide +kernel
theorem dX2_mean_28 : decode cX2_mean 28 = .ok (.dreturn, 1) := by decide +kernel
set_option maxRecDepth 20000 in
theorem ggX2_digest_X2_counted : GoodIn wsX2_digest wsX2_counted := goodIn_r _ [12, 4, 13, 5, 14, 15, 16, 17, 18, 11, 19, 20, 21, 22, 23, 6, 24, 25, 26, 27, 28, 29, 30, 31, 32, 33, 34, 35, 36, 37, 38, 39, 40, 41, 47, 48, 49, 50, 51, 52, 53, 54, 55, 56, 57, 58, 59] (by decide +kernel) (by decide +kernel)
set_option maxRecDepth 20000 in
theorem gX2_digest_X2_counted : GoodIn wsX2_digest (wsV RX2 115 RX2 yX2_counted wsX2_counted) := goodIn_app (goodIn_of _ (by decide +kernel)) ggX2_digest_X2_counted
set_option maxRecDepth 20000 in
theorem ggX2_digest_X2_stickTold : GoodIn wsX2_digest wsX2_stickTold := goodIn_r _ [45, 14, 5, 46, 37, 36, 13, 16, 17, 18, 11, 19, 20, 21, 22, 23, 6, 24, 25, 26, 27, 28, 29, 30, 31, 47, 48, 49, 50, 51, 52, 53, 54, 55, 56, 57, 58, 59] (by decide +kernel) (by decide +kernel)
set_option maxRecDepth 20000 in
theorem gX2_digest_X2_stickTold : GoodIn wsX2_digest (wsV RX2 112 RX2 yX2_stickTold wsX2_stickTold) := goodIn_app (goodIn_of _ (by decide +kernel)) ggX2_digest_X2_stickTold
set_option maxRecDepth 20000 in
theorem ggX2_digest_X2_spot : GoodIn wsX2_digest wsX2_spot := goodIn_r _ [26] (by decide +kernel) (by decide +kernel)
set_option maxRecDepth 20000 in
theorem gX2_digest_X2_spot : GoodIn wsX2_digest (va_wsS RX2 76 yX2_spot wsX2_spot) := goodIn_app (goodIn_of _ (by decide +kernel)) ggX2_digest_X2_spot
theorem dX2_digest_0 : decode cX2_digest 0 = .ok (.aload_n 0, 1) := by decide +kernel
theorem dX2_digest_1 : decode cX2_digest 1 = .ok (.iconst 0, 1) := by decide +kernel
theorem dX2_digest_2 : decode cX2_digest 2 = .ok (.putfield 40, 3) := by decide +kernel
theorem dX2_digest_5 : decode cX2_digest 5 = .ok (.ldc2_w 125, 3) := by decide +kernel
theorem dX2_digest_8 : decode cX2_digest 8 = .ok (.lstore_n 1, 1) := by decide +kernel
theorem dX2_digest_9 : decode cX2_digest 9 = .ok (.iconst 0, 1) := by decide +kernel
theorem dX2_digest_10 : decode cX2_digest 10 = .ok (.istore_n 3, 1) := by decide +kernel
theorem dX2_digest_11 : decode cX2_digest 11 = .ok (.iload_n 3, 1) := by decide +kernel
theorem dX2_digest_12 : decode cX2_digest 12 = .ok (.bipush 6, 2) := by decide +kernel
theorem dX2_digest_14 : decode cX2_digest 14 = .ok (.if_icmp .gt 22, 3) := by decide +kernel
theorem dX2_digest_17 : decode cX2_digest 17 = .ok (.lload_n 1, 1) := by decide +kernel
theorem dX2_digest_18 : decode cX2_digest 18 = .ok (.ldc2_w 127, 3) := by decide +kernel
theorem dX2_digest_21 : decode cX2_digest 21 = .ok (.lmul, 1) := by decide +kernel
theorem dX2_digest_22 : decode cX2_digest 22 = .ok (.aload_n 0, 1) := by decide +kernel
theorem dX2_digest_23 : decode cX2_digest 23 = .ok (.iload_n 3, 1) := by decide +kernel
theorem dX2_digest_24 : decode cX2_digest 24 = .ok (.invokevirtual 115, 3) := by decide +kernel
theorem dX2_digest_27 : decode cX2_digest 27 = .ok (.i2l, 1) := by decide +kernel
theorem dX2_digest_28 : decode cX2_digest 28 = .ok (.ladd, 1) := by decide +kernel
theorem dX2_digest_29 : decode cX2_digest 29 = .ok (.lstore_n 1, 1) := by decide +kernel
theorem dX2_digest_30 : decode cX2_digest 30 = .ok (.iinc 3 1, 3) := by decide +kernel
theorem dX2_digest_33 : decode cX2_digest 33 = .ok (.goto (-22), 3) := by decide +kernel
theorem dX2_digest_36 : decode cX2_digest 36 = .ok (.iconst 0, 1) := by decide +kernel
theorem dX2_digest_37 : decode cX2_digest 37 = .ok (.istore_n 3, 1) := by decide +kernel
theorem dX2_digest_38 : decode cX2_digest 38 = .ok (.iload_n 3, 1) := by decide +kernel
theorem dX2_digest_39 : decode cX2_digest 39 = .ok (.aload_n 0, 1) := by decide +kernel
theorem dX2_digest_40 : decode cX2_digest 40 = .ok (.getfield 44, 3) := by decide +kernel
theorem dX2_digest_43 : decode cX2_digest 43 = .ok (.if_icmp .ge 128, 3) := by decide +kernel
theorem dX2_digest_46 : decode cX2_digest 46 = .ok (.iconst 0, 1) := by decide +kernel
theorem dX2_digest_47 : decode cX2_digest 47 = .ok (.istore 4, 2) := by decide +kernel
theorem dX2_digest_49 : decode cX2_digest 49 = .ok (.iload 4, 2) := by decide +kernel
theorem dX2_digest_51 : decode cX2_digest 51 = .ok (.bipush 6, 2) := by decide +kernel
theorem dX2_digest_53 : decode cX2_digest 53 = .ok (.if_icmp .gt 24, 3) := by decide +kernel
theorem dX2_digest_56 : decode cX2_digest 56 = .ok (.lload_n 1, 1) := by decide +kernel
theorem dX2_digest_57 : decode cX2_digest 57 = .ok (.ldc2_w 127, 3) := by decide +kernel
theorem dX2_digest_60 : decode cX2_digest 60 = .ok (.lmul, 1) := by decide +kernel
theorem dX2_digest_61 : decode cX2_digest 61 = .ok (.aload_n 0, 1) := by decide +kernel
theorem dX2_digest_62 : decode cX2_digest 62 = .ok (.iload_n 3, 1) := by decide +kernel
theorem dX2_digest_63 : decode cX2_digest 63 = .ok (.iload 4, 2) := by decide +kernel
theorem dX2_digest_65 : decode cX2_digest 65 = .ok (.invokevirtual 112, 3) := by decide +kernel
theorem dX2_digest_68 : decode cX2_digest 68 = .ok (.i2l, 1) := by decide +kernel
theorem dX2_digest_69 : decode cX2_digest 69 = .ok (.ladd, 1) := by decide +kernel
theorem dX2_digest_70 : decode cX2_digest 70 = .ok (.lstore_n 1, 1) := by decide +kernel
theorem dX2_digest_71 : decode cX2_digest 71 = .ok (.iinc 4 1, 3) := by decide +kernel
theorem dX2_digest_74 : decode cX2_digest 74 = .ok (.goto (-25), 3) := by decide +kernel
theorem dX2_digest_77 : decode cX2_digest 77 = .ok (.iconst 0, 1) := by decide +kernel
theorem dX2_digest_78 : decode cX2_digest 78 = .ok (.istore 4, 2) := by decide +kernel
theorem dX2_digest_80 : decode cX2_digest 80 = .ok (.iload 4, 2) := by decide +kernel
theorem dX2_digest_82 : decode cX2_digest 82 = .ok (.iconst 3, 1) := by decide +kernel
theorem dX2_digest_83 : decode cX2_digest 83 = .ok (.aload_n 0, 1) := by decide +kernel
theorem dX2_digest_84 : decode cX2_digest 84 = .ok (.getfield 9, 3) := by decide +kernel
theorem dX2_digest_87 : decode cX2_digest 87 = .ok (.iload_n 3, 1) := by decide +kernel
theorem dX2_digest_88 : decode cX2_digest 88 = .ok (.iaload, 1) := by decide +kernel
theorem dX2_digest_89 : decode cX2_digest 89 = .ok (.imul, 1) := by decide +kernel
theorem dX2_digest_90 : decode cX2_digest 90 = .ok (.if_icmp .ge 33, 3) := by decide +kernel
theorem dX2_digest_93 : decode cX2_digest 93 = .ok (.lload_n 1, 1) := by decide +kernel
theorem dX2_digest_94 : decode cX2_digest 94 = .ok (.ldc2_w 127, 3) := by decide +kernel
theorem dX2_digest_97 : decode cX2_digest 97 = .ok (.lmul, 1) := by decide +kernel
theorem dX2_digest_98 : decode cX2_digest 98 = .ok (.aload_n 0, 1) := by decide +kernel
theorem dX2_digest_99 : decode cX2_digest 99 = .ok (.getfield 25, 3) := by decide +kernel
theorem dX2_digest_102 : decode cX2_digest 102 = .ok (.iload_n 3, 1) := by decide +kernel
theorem dX2_digest_103 : decode cX2_digest 103 = .ok (.iconst 0, 1) := by decide +kernel
theorem dX2_digest_104 : decode cX2_digest 104 = .ok (.iconst 0, 1) := by decide +kernel
theorem dX2_digest_105 : decode cX2_digest 105 = .ok (.invokestatic 76, 3) := by decide +kernel
theorem dX2_digest_108 : decode cX2_digest 108 = .ok (.iload 4, 2) := by decide +kernel
theorem dX2_digest_110 : decode cX2_digest 110 = .ok (.iadd, 1) := by decide +kernel
theorem dX2_digest_111 : decode cX2_digest 111 = .ok (.iaload, 1) := by decide +kernel
theorem dX2_digest_112 : decode cX2_digest 112 = .ok (.i2l, 1) := by decide +kernel
theorem dX2_digest_113 : decode cX2_digest 113 = .ok (.ladd, 1) := by decide +kernel
theorem dX2_digest_114 : decode cX2_digest 114 = .ok (.lconst 1, 1) := by decide +kernel
theorem dX2_digest_115 : decode cX2_digest 115 = .ok (.lsub, 1) := by decide +kernel
theorem dX2_digest_116 : decode cX2_digest 116 = .ok (.lstore_n 1, 1) := by decide +kernel
theorem dX2_digest_117 : decode cX2_digest 117 = .ok (.iinc 4 1, 3) := by decide +kernel
theorem dX2_digest_120 : decode cX2_digest 120 = .ok (.goto (-40), 3) := by decide +kernel
theorem dX2_digest_123 : decode cX2_digest 123 = .ok (.iconst 0, 1) := by decide +kernel
theorem dX2_digest_124 : decode cX2_digest 124 = .ok (.istore 4, 2) := by decide +kernel
theorem dX2_digest_126 : decode cX2_digest 126 = .ok (.iload 4, 2) := by decide +kernel
theorem dX2_digest_128 : decode cX2_digest 128 = .ok (.aload_n 0, 1) := by decide +kernel
theorem dX2_digest_129 : decode cX2_digest 129 = .ok (.getfield 9, 3) := by decide +kernel
theorem dX2_digest_132 : decode cX2_digest 132 = .ok (.iload_n 3, 1) := by decide +kernel
theorem dX2_digest_133 : decode cX2_digest 133 = .ok (.iaload, 1) := by decide +kernel
theorem dX2_digest_134 : decode cX2_digest 134 = .ok (.iconst 1, 1) := by decide +kernel
theorem dX2_digest_135 : decode cX2_digest 135 = .ok (.isub, 1) := by decide +kernel
theorem dX2_digest_136 : decode cX2_digest 136 = .ok (.if_icmp .ge 29, 3) := by decide +kernel
theorem dX2_digest_139 : decode cX2_digest 139 = .ok (.lload_n 1, 1) := by decide +kernel
theorem dX2_digest_140 : decode cX2_digest 140 = .ok (.ldc2_w 127, 3) := by decide +kernel
theorem dX2_digest_143 : decode cX2_digest 143 = .ok (.lmul, 1) := by decide +kernel
theorem dX2_digest_144 : decode cX2_digest 144 = .ok (.aload_n 0, 1) := by decide +kernel
theorem dX2_digest_145 : decode cX2_digest 145 = .ok (.getfield 28, 3) := by decide +kernel
theorem dX2_digest_148 : decode cX2_digest 148 = .ok (.bipush 12, 2) := by decide +kernel
theorem dX2_digest_150 : decode cX2_digest 150 = .ok (.iload_n 3, 1) := by decide +kernel
theorem dX2_digest_151 : decode cX2_digest 151 = .ok (.imul, 1) := by decide +kernel
theorem dX2_digest_152 : decode cX2_digest 152 = .ok (.iload 4, 2) := by decide +kernel
theorem dX2_digest_154 : decode cX2_digest 154 = .ok (.iadd, 1) := by decide +kernel
theorem dX2_digest_155 : decode cX2_digest 155 = .ok (.iaload, 1) := by decide +kernel
theorem dX2_digest_156 : decode cX2_digest 156 = .ok (.i2l, 1) := by decide +kernel
theorem dX2_digest_157 : decode cX2_digest 157 = .ok (.ladd, 1) := by decide +kernel
theorem dX2_digest_158 : decode cX2_digest 158 = .ok (.lstore_n 1, 1) := by decide +kernel
theorem dX2_digest_159 : decode cX2_digest 159 = .ok (.iinc 4 1, 3) := by decide +kernel
theorem dX2_digest_162 : decode cX2_digest 162 = .ok (.goto (-36), 3) := by decide +kernel
theorem dX2_digest_165 : decode cX2_digest 165 = .ok (.iinc 3 1, 3) := by decide +kernel
theorem dX2_digest_168 : decode cX2_digest 168 = .ok (.goto (-130), 3) := by decide +kernel
theorem dX2_digest_171 : decode cX2_digest 171 = .ok (.lload_n 1, 1) := by decide +kernel
theorem dX2_digest_172 : decode cX2_digest 172 = .ok (.lreturn, 1) := by decide +kernel
theorem dJ9_max_7cf53_0 : decode cJ9_max_7cf53 0 = .ok (.iload_n 0, 1) := by decide +kernel
theorem dJ9_max_7cf53_1 : decode cJ9_max_7cf53 1 = .ok (.iload_n 1, 1) := by decide +kernel
theorem dJ9_max_7cf53_2 : decode cJ9_max_7cf53 2 = .ok (.if_icmp .lt 7, 3) := by decide +kernel
theorem dJ9_max_7cf53_5 : decode cJ9_max_7cf53 5 = .ok (.iload_n 0, 1) := by decide +kernel
theorem dJ9_max_7cf53_6 : decode cJ9_max_7cf53 6 = .ok (.goto 4, 3) := by decide +kernel
theorem dJ9_max_7cf53_9 : decode cJ9_max_7cf53 9 = .ok (.iload_n 1, 1) := by decide +kernel
theorem dJ9_max_7cf53_10 : decode cJ9_max_7cf53 10 = .ok (.ireturn, 1) := by decide +kernel
theorem dJ7_fill_53178_0 : decode cJ7_fill_53178 0 = .ok (.iconst 0, 1) := by decide +kernel
theorem dJ7_fill_53178_1 : decode cJ7_fill_53178 1 = .ok (.istore_n 2, 1) := by decide +kernel
theorem dJ7_fill_53178_2 : decode cJ7_fill_53178 2 = .ok (.aload_n 0, 1) := by decide +kernel
theorem dJ7_fill_53178_3 : decode cJ7_fill_53178 3 = .ok (.arraylength, 1) := by decide +kernel
theorem dJ7_fill_53178_4 : decode cJ7_fill_53178 4 = .ok (.istore_n 3, 1) := by decide +kernel
theorem dJ7_fill_53178_5 : decode cJ7_fill_53178 5 = .ok (.iload_n 2, 1) := by decide +kernel
theorem dJ7_fill_53178_6 : decode cJ7_fill_53178 6 = .ok (.iload_n 3, 1) := by decide +kernel
theorem dJ7_fill_53178_7 : decode cJ7_fill_53178 7 = .ok (.if_icmp .ge 13, 3) := by decide +kernel
theorem dJ7_fill_53178_10 : decode cJ7_fill_53178 10 = .ok (.aload_n 0, 1) := by decide +kernel
theorem dJ7_fill_53178_11 : decode cJ7_fill_53178 11 = .ok (.iload_n 2, 1) := by decide +kernel
theorem dJ7_fill_53178_12 : decode cJ7_fill_53178 12 = .ok (.iload_n 1, 1) := by decide +kernel
theorem dJ7_fill_53178_13 : decode cJ7_fill_53178 13 = .ok (.iastore, 1) := by decide +kernel
theorem dJ7_fill_53178_14 : decode cJ7_fill_53178 14 = .ok (.iinc 2 1, 3) := by decide +kernel
theorem dJ7_fill_53178_17 : decode cJ7_fill_53178 17 = .ok (.goto (-12), 3) := by decide +kernel
theorem dJ7_fill_53178_20 : decode cJ7_fill_53178 20 = .ok (.return_, 1) := by decide +kernel
