set_option maxRecDepth 20000 in
theorem ggX0_init_J7_fill_53178 : GoodIn wsX0_init wsJ7_fill_53178 := goodIn_r _ [17] (by decide +kernel) (by decide +kernel)
set_option maxRecDepth 20000 in
theorem gX0_init_J7_fill_53178 : GoodIn wsX0_init (va_wsS RX0 39 yJ7_fill_53178 wsJ7_fill_53178) := goodIn_app (goodIn_of _ (by decide +kernel)) ggX0_init_J7_fill_53178
theorem dX0_init_0 : decode cX0_init 0 = .ok (.aload_n 0, 1) := by decide +kernel
theorem dX0_init_1 : decode cX0_init 1 = .ok (.invokespecial 3, 3) := by decide +kernel
theorem dX0_init_4 : decode cX0_init 4 = .ok (.aload_n 0, 1) := by decide +kernel
theorem dX0_init_5 : decode cX0_init 5 = .ok (.iload_n 1, 1) := by decide +kernel
theorem dX0_init_6 : decode cX0_init 6 = .ok (.putfield 9, 3) := by decide +kernel
theorem dX0_init_9 : decode cX0_init 9 = .ok (.aload_n 0, 1) := by decide +kernel
theorem dX0_init_10 : decode cX0_init 10 = .ok (.iconst 0, 1) := by decide +kernel
theorem dX0_init_11 : decode cX0_init 11 = .ok (.putfield 15, 3) := by decide +kernel
theorem dX0_init_14 : decode cX0_init 14 = .ok (.aload_n 0, 1) := by decide +kernel
theorem dX0_init_15 : decode cX0_init 15 = .ok (.iconst (-1), 1) := by decide +kernel
theorem dX0_init_16 : decode cX0_init 16 = .ok (.putfield 18, 3) := by decide +kernel
theorem dX0_init_19 : decode cX0_init 19 = .ok (.aload_n 0, 1) := by decide +kernel
theorem dX0_init_20 : decode cX0_init 20 = .ok (.iconst (-1), 1) := by decide +kernel
theorem dX0_init_21 : decode cX0_init 21 = .ok (.putfield 21, 3) := by decide +kernel
theorem dX0_init_24 : decode cX0_init 24 = .ok (.aload_n 0, 1) := by decide +kernel
theorem dX0_init_25 : decode cX0_init 25 = .ok (.iconst 0, 1) := by decide +kernel
theorem dX0_init_26 : decode cX0_init 26 = .ok (.putfield 24, 3) := by decide +kernel
theorem dX0_init_29 : decode cX0_init 29 = .ok (.aload_n 0, 1) := by decide +kernel
theorem dX0_init_30 : decode cX0_init 30 = .ok (.bipush 36, 2) := by decide +kernel
theorem dX0_init_32 : decode cX0_init 32 = .ok (.newarray .int, 2) := by decide +kernel
theorem dX0_init_34 : decode cX0_init 34 = .ok (.putfield 28, 3) := by decide +kernel
theorem dX0_init_37 : decode cX0_init 37 = .ok (.aload_n 0, 1) := by decide +kernel
theorem dX0_init_38 : decode cX0_init 38 = .ok (.bipush 11, 2) := by decide +kernel
theorem dX0_init_40 : decode cX0_init 40 = .ok (.newarray .int, 2) := by decide +kernel
theorem dX0_init_42 : decode cX0_init 42 = .ok (.putfield 32, 3) := by decide +kernel
theorem dX0_init_45 : decode cX0_init 45 = .ok (.aload_n 0, 1) := by decide +kernel
theorem dX0_init_46 : decode cX0_init 46 = .ok (.bipush 11, 2) := by decide +kernel
theorem dX0_init_48 : decode cX0_init 48 = .ok (.newarray .boolean, 2) := by decide +kernel
theorem dX0_init_50 : decode cX0_init 50 = .ok (.putfield 35, 3) := by decide +kernel
theorem dX0_init_53 : decode cX0_init 53 = .ok (.aload_n 0, 1) := by decide +kernel
theorem dX0_init_54 : decode cX0_init 54 = .ok (.getfield 28, 3) := by decide +kernel
theorem dX0_init_57 : decode cX0_init 57 = .ok (.iconst (-1), 1) := by decide +kernel
theorem dX0_init_58 : decode cX0_init 58 = .ok (.invokestatic 39, 3) := by decide +kernel
theorem dX0_init_61 : decode cX0_init 61 = .ok (.aload_n 0, 1) := by decide +kernel
theorem dX0_init_62 : decode cX0_init 62 = .ok (.getfield 32, 3) := by decide +kernel
theorem dX0_init_65 : decode cX0_init 65 = .ok (.bipush 12, 2) := by decide +kernel
theorem dX0_init_67 : decode cX0_init 67 = .ok (.invokestatic 39, 3) := by decide +kernel
theorem dX0_init_70 : decode cX0_init 70 = .ok (.return_, 1) := by decide +kernel
theorem dX0_hasPlace_0 : decode cX0_hasPlace 0 = .ok (.iload_n 1, 1) := by decide +kernel
theorem dX0_hasPlace_1 : decode cX0_hasPlace 1 = .ok (.ifCond .lt 30, 3) := by decide +kernel
theorem dX0_hasPlace_4 : decode cX0_hasPlace 4 = .ok (.iload_n 1, 1) := by decide +kernel
theorem dX0_hasPlace_5 : decode cX0_hasPlace 5 = .ok (.iconst 3, 1) := by decide +kernel
theorem dX0_hasPlace_6 : decode cX0_hasPlace 6 = .ok (.if_icmp .ge 25, 3) := by decide +kernel
theorem dX0_hasPlace_9 : decode cX0_hasPlace 9 = .ok (.iload_n 2, 1) := by decide +kernel
theorem dX0_hasPlace_10 : decode cX0_hasPlace 10 = .ok (.ifCond .lt 21, 3) := by decide +kernel
theorem dX0_hasPlace_13 : decode cX0_hasPlace 13 = .ok (.iload_n 2, 1) := by decide +kernel
theorem dX0_hasPlace_14 : decode cX0_hasPlace 14 = .ok (.aload_n 0, 1) := by decide +kernel
theorem dX0_hasPlace_15 : decode cX0_hasPlace 15 = .ok (.getfield 9, 3) := by decide +kernel
theorem dX0_hasPlace_18 : decode cX0_hasPlace 18 = .ok (.if_icmp .ge 13, 3) := by decide +kernel
theorem dX0_hasPlace_21 : decode cX0_hasPlace 21 = .ok (.iload_n 2, 1) := by decide +kernel
theorem dX0_hasPlace_22 : decode cX0_hasPlace 22 = .ok (.bipush 12, 2) := by decide +kernel
theorem dX0_hasPlace_24 : decode cX0_hasPlace 24 = .ok (.if_icmp .ge 7, 3) := by decide +kernel
theorem dX0_hasPlace_27 : decode cX0_hasPlace 27 = .ok (.iconst 1, 1) := by decide +kernel
theorem dX0_hasPlace_28 : decode cX0_hasPlace 28 = .ok (.goto 4, 3) := by decide +kernel
theorem dX0_hasPlace_31 : decode cX0_hasPlace 31 = .ok (.iconst 0, 1) := by decide +kernel
theorem dX0_hasPlace_32 : decode cX0_hasPlace 32 = .ok (.ireturn, 1) := by decide +kernel
theorem dX0_hasJoint_0 : decode cX0_hasJoint 0 = .ok (.iload_n 1, 1) := by decide +kernel
theorem dX0_hasJoint_1 : decode cX0_hasJoint 1 = .ok (.ifCond .lt 23, 3) := by decide +kernel
theorem dX0_hasJoint_4 : decode cX0_hasJoint 4 = .ok (.iload_n 1, 1) := by decide +kernel
theorem dX0_hasJoint_5 : decode cX0_hasJoint 5 = .ok (.aload_n 0, 1) := by decide +kernel
theorem dX0_hasJoint_6 : decode cX0_hasJoint 6 = .ok (.getfield 9, 3) := by decide +kernel
theorem dX0_hasJoint_9 : decode cX0_hasJoint 9 = .ok (.iconst 1, 1) := by decide +kernel
theorem dX0_hasJoint_10 : decode cX0_hasJoint 10 = .ok (.isub, 1) := by decide +kernel
theorem dX0_hasJoint_11 : decode cX0_hasJoint 11 = .ok (.if_icmp .ge 13, 3) := by decide +kernel
theorem dX0_hasJoint_14 : decode cX0_hasJoint 14 = .ok (.iload_n 1, 1) := by decide +kernel
theorem dX0_hasJoint_15 : decode cX0_hasJoint 15 = .ok (.bipush 11, 2) := by decide +kernel
theorem dX0_hasJoint_17 : decode cX0_hasJoint 17 = .ok (.if_icmp .ge 7, 3) := by decide +kernel
theorem dX0_hasJoint_20 : decode cX0_hasJoint 20 = .ok (.iconst 1, 1) := by decide +kernel
theorem dX0_hasJoint_21 : decode cX0_hasJoint 21 = .ok (.goto 4, 3) := by decide +kernel
theorem dX0_hasJoint_24 : decode cX0_hasJoint 24 = .ok (.iconst 0, 1) := by decide +kernel
theorem dX0_hasJoint_25 : decode cX0_hasJoint 25 = .ok (.ireturn, 1) := by decide +kernel
set_option maxRecDepth 20000 in
theorem ggX0_runeAt_X0_hasPlace : GoodIn wsX0_runeAt wsX0_hasPlace := goodIn_r _ [6, 7, 8, 9, 10, 11, 12, 13, 14, 15] (by decide +kernel) (by decide +kernel)
set_option maxRecDepth 20000 in
theorem gX0_runeAt_X0_hasPlace : GoodIn wsX0_runeAt (wsV RX0 45 RX0 yX0_hasPlace wsX0_hasPlace) := goodIn_app (goodIn_of _ (by decide +kernel)) ggX0_runeAt_X0_hasPlace
theorem dX0_runeAt_0 : decode cX0_runeAt 0 = .ok (.aload_n 0, 1) := by decide +kernel
theorem dX0_runeAt_1 : decode cX0_runeAt 1 = .ok (.iload_n 1, 1) := by decide +kernel
theorem dX0_runeAt_2 : decode cX0_runeAt 2 = .ok (.iload_n 2, 1) := by decide +kernel
theorem dX0_runeAt_3 : decode cX0_runeAt 3 = .ok (.invokevirtual 45, 3) := by decide +kernel
theorem dX0_runeAt_6 : decode cX0_runeAt 6 = .ok (.ifCond .eq 16, 3) := by decide +kernel
theorem dX0_runeAt_9 : decode cX0_runeAt 9 = .ok (.aload_n 0, 1) := by decide +kernel
theorem dX0_runeAt_10 : decode cX0_runeAt 10 = .ok (.getfield 28, 3) := by decide +kernel
theorem dX0_runeAt_13 : decode cX0_runeAt 13 = .ok (.iload_n 2, 1) := by decide +kernel
theorem dX0_runeAt_14 : decode cX0_runeAt 14 = .ok (.iconst 3, 1) := by decide +kernel
theorem dX0_runeAt_15 : decode cX0_runeAt 15 = .ok (.imul, 1) := by decide +kernel
theorem dX0_runeAt_16 : decode cX0_runeAt 16 = .ok (.iload_n 1, 1) := by decide +kernel
theorem dX0_runeAt_17 : decode cX0_runeAt 17 = .ok (.iadd, 1) := by decide +kernel
theorem dX0_runeAt_18 : decode cX0_runeAt 18 = .ok (.iaload, 1) := by decide +kernel
theorem dX0_runeAt_19 : decode cX0_runeAt 19 = .ok (.goto 4, 3) := by decide +kernel
theorem dX0_runeAt_22 : decode cX0_runeAt 22 = .ok (.iconst (-1), 1) := by decide +kernel
theorem dX0_runeAt_23 : decode cX0_runeAt 23 = .ok (.ireturn, 1) := by decide +kernel
set_option maxRecDepth 20000 in
theorem ggX0_putRune_X0_hasPlace : GoodIn wsX0_putRune wsX0_hasPlace := goodIn_r _ [6, 7, 8, 9, 10, 11, 12, 13, 14, 15] (by decide +kernel) (by decide +kernel)
set_option maxRecDepth 20000 in
theorem gX0_putRune_X0_hasPlace : GoodIn wsX0_putRune (wsV RX0 45 RX0 yX0_hasPlace wsX0_hasPlace) := goodIn_app (goodIn_of _ (by decide +kernel)) ggX0_putRune_X0_hasPlace
theorem dX0_putRune_0 : decode cX0_putRune 0 = .ok (.aload_n 0, 1) := by decide +kernel
theorem dX0_putRune_1 : decode cX0_putRune 1 = .ok (.iload_n 1, 1) := by decide +kernel
theorem dX0_putRune_2 : decode cX0_putRune 2 = .ok (.iload_n 2, 1) := by decide +kernel
theorem dX0_putRune_3 : decode cX0_putRune 3 = .ok (.invokevirtual 45, 3) := by decide +kernel
theorem dX0_putRune_6 : decode cX0_putRune 6 = .ok (.ifCond .eq 14, 3) := by decide +kernel
theorem dX0_putRune_9 : decode cX0_putRune 9 = .ok (.aload_n 0, 1) := by decide +kernel
theorem dX0_putRune_10 : decode cX0_putRune 10 = .ok (.getfield 28, 3) := by decide +kernel
theorem dX0_putRune_13 : decode cX0_putRune 13 = .ok (.iload_n 2, 1) := by decide +kernel
theorem dX0_putRune_14 : decode cX0_putRune 14 = .ok (.iconst 3, 1) := by decide +kernel
theorem dX0_putRune_15 : decode cX0_putRune 15 = .ok (.imul, 1) := by decide +kernel
theorem dX0_putRune_16 : decode cX0_putRune 16 = .ok (.iload_n 1, 1) := by decide +kernel
theorem dX0_putRune_17 : decode cX0_putRune 17 = .ok (.iadd, 1) := by decide +kernel
theorem dX0_putRune_18 : decode cX0_putRune 18 = .ok (.iload_n 3, 1) := by decide +kernel
theorem dX0_putRune_19 : decode cX0_putRune 19 = .ok (.iastore, 1) := by decide +kernel
theorem dX0_putRune_20 : decode cX0_putRune 20 = .ok (.return_, 1) := by decide +kernel
set_option maxRecDepth 20000 in
theorem ggX0_baseAt_X0_hasJoint : GoodIn wsX0_baseAt wsX0_hasJoint := goodIn_r _ [6, 7, 8, 9, 10, 11, 12, 13, 14, 15] (by decide +kernel) (by decide +kernel)
set_option maxRecDepth 20000 in
theorem gX0_baseAt_X0_hasJoint : GoodIn wsX0_baseAt (wsV RX0 49 RX0 yX0_hasJoint wsX0_hasJoint) := goodIn_app (goodIn_of _ (by decide +kernel)) ggX0_baseAt_X0_hasJoint
theorem dX0_baseAt_0 : decode cX0_baseAt 0 = .ok (.aload_n 0, 1) := by decide +kernel
theorem dX0_baseAt_1 : decode cX0_baseAt 1 = .ok (.iload_n 1, 1) := by decide +kernel
theorem dX0_baseAt_2 : decode cX0_baseAt 2 = .ok (.invokevirtual 49, 3) := by decide +kernel
theorem dX0_baseAt_5 : decode cX0_baseAt 5 = .ok (.ifCond .eq 12, 3) := by decide +kernel
theorem dX0_baseAt_8 : decode cX0_baseAt 8 = .ok (.aload_n 0, 1) := by decide +kernel
theorem dX0_baseAt_9 : decode cX0_baseAt 9 = .ok (.getfield 32, 3) := by decide +kernel
theorem dX0_baseAt_12 : decode cX0_baseAt 12 = .ok (.iload_n 1, 1) := by decide +kernel
theorem dX0_baseAt_13 : decode cX0_baseAt 13 = .ok (.iaload, 1) := by decide +kernel
theorem dX0_baseAt_14 : decode cX0_baseAt 14 = .ok (.goto 4, 3) := by decide +kernel
theorem dX0_baseAt_17 : decode cX0_baseAt 17 = .ok (.iconst 0, 1) := by decide +kernel
theorem dX0_baseAt_18 : decode cX0_baseAt 18 = .ok (.ireturn, 1) := by decide +kernel
set_option maxRecDepth 20000 in
theorem ggX0_gluedAt_X0_hasJoint : GoodIn wsX0_gluedAt wsX0_hasJoint := goodIn_r _ [6, 7, 8, 9, 10, 11, 12, 13, 14, 15] (by decide +kernel) (by decide +kernel)
set_option maxRecDepth 20000 in
theorem gX0_gluedAt_X0_hasJoint : GoodIn wsX0_gluedAt (wsV RX0 49 RX0 yX0_hasJoint wsX0_hasJoint) := goodIn_app (goodIn_of _ (by decide +kernel)) ggX0_gluedAt_X0_hasJoint
theorem dX0_gluedAt_0 : decode cX0_gluedAt 0 = .ok (.aload_n 0, 1) := by decide +kernel
theorem dX0_gluedAt_1 : decode cX0_gluedAt 1 = .ok (.iload_n 1, 1) := by decide +kernel
theorem dX0_gluedAt_2 : decode cX0_gluedAt 2 = .ok (.invokevirtual 49, 3) := by decide +kernel
theorem dX0_gluedAt_5 : decode cX0_gluedAt 5 = .ok (.ifCond .eq 16, 3) := by decide +kernel
theorem dX0_gluedAt_8 : decode cX0_gluedAt 8 = .ok (.aload_n 0, 1) := by decide +kernel
theorem dX0_gluedAt_9 : decode cX0_gluedAt 9 = .ok (.getfield 35, 3) := by decide +kernel
theorem dX0_gluedAt_12 : decode cX0_gluedAt 12 = .ok (.iload_n 1, 1) := by decide +kernel
theorem dX0_gluedAt_13 : decode cX0_gluedAt 13 = .ok (.baload, 1) := by decide +kernel
theorem dX0_gluedAt_14 : decode cX0_gluedAt 14 = .ok (.ifCond .eq 7, 3) := by decide +kernel
theorem dX0_gluedAt_17 : decode cX0_gluedAt 17 = .ok (.iconst 1, 1) := by decide +kernel
theorem dX0_gluedAt_18 : decode cX0_gluedAt 18 = .ok (.goto 4, 3) := by decide +kernel
theorem dX0_gluedAt_21 : decode cX0_gluedAt 21 = .ok (.iconst 0, 1) := by decide +kernel
theorem dX0_gluedAt_22 : decode cX0_gluedAt 22 = .ok (.ireturn, 1) := by decide +kernel
set_option maxRecDepth 20000 in
theorem ggX0_putJoint_X0_hasJoint : GoodIn wsX0_putJoint wsX0_hasJoint := goodIn_r _ [7, 8, 9, 10, 11, 12, 13, 14, 15, 16] (by decide +kernel) (by decide +kernel)
set_option maxRecDepth 20000 in
theorem gX0_putJoint_X0_hasJoint : GoodIn wsX0_putJoint (wsV RX0 49 RX0 yX0_hasJoint wsX0_hasJoint) := goodIn_app (goodIn_of _ (by decide +kernel)) ggX0_putJoint_X0_hasJoint
theorem dX0_putJoint_0 : decode cX0_putJoint 0 = .ok (.aload_n 0, 1) := by decide +kernel
theorem dX0_putJoint_1 : decode cX0_putJoint 1 = .ok (.iload_n 1, 1) := by decide +kernel
theorem dX0_putJoint_2 : decode cX0_putJoint 2 = .ok (.invokevirtual 49, 3) := by decide +kernel
theorem dX0_putJoint_5 : decode cX0_putJoint 5 = .ok (.ifCond .eq 17, 3) := by decide +kernel
theorem dX0_putJoint_8 : decode cX0_putJoint 8 = .ok (.aload_n 0, 1) := by decide +kernel
theorem dX0_putJoint_9 : decode cX0_putJoint 9 = .ok (.getfield 32, 3) := by decide +kernel
theorem dX0_putJoint_12 : decode cX0_putJoint 12 = .ok (.iload_n 1, 1) := by decide +kernel
theorem dX0_putJoint_13 : decode cX0_putJoint 13 = .ok (.iload_n 2, 1) := by decide +kernel
theorem dX0_putJoint_14 : decode cX0_putJoint 14 = .ok (.iastore, 1) := by decide +kernel
theorem dX0_putJoint_15 : decode cX0_putJoint 15 = .ok (.aload_n 0, 1) := by decide +kernel
theorem dX0_putJoint_16 : decode cX0_putJoint 16 = .ok (.getfield 35, 3) := by decide +kernel
theorem dX0_putJoint_19 : decode cX0_putJoint 19 = .ok (.iload_n 1, 1) := by decide +kernel
theorem dX0_putJoint_20 : decode cX0_putJoint 20 = .ok (.iload_n 3, 1) := by decide +kernel
theorem dX0_putJoint_21 : decode cX0_putJoint 21 = .ok (.bastore, 1) := by decide +kernel
theorem dX0_putJoint_22 : decode cX0_putJoint 22 = .ok (.return_, 1) := by decide +kernel
set_option maxRecDepth 20000 in
theorem ggX0_takePlaces_X0_runeAt : GoodIn wsX0_takePlaces wsX0_runeAt := goodIn_r _ [5, 6, 7, 8, 9, 4, 10, 11, 34, 35, 36, 37, 38, 39, 40, 41] (by decide +kernel) (by decide +kernel)
set_option maxRecDepth 20000 in
theorem gX0_takePlaces_X0_runeAt : GoodIn wsX0_takePlaces (wsV RX0 53 RX0 yX0_runeAt wsX0_runeAt) := goodIn_app (goodIn_of _ (by decide +kernel)) ggX0_takePlaces_X0_runeAt
set_option maxRecDepth 20000 in
theorem ggX0_takePlaces_X0_putRune : GoodIn wsX0_takePlaces wsX0_putRune := goodIn_r _ [15, 6, 7, 8, 9, 4, 10, 11, 34, 35, 36, 37, 38, 39, 40, 41] (by decide +kernel) (by decide +kernel)
set_option maxRecDepth 20000 in
theorem gX0_takePlaces_X0_putRune : GoodIn wsX0_takePlaces (wsV RX0 57 RX0 yX0_putRune wsX0_putRune) := goodIn_app (goodIn_of _ (by decide +kernel)) ggX0_takePlaces_X0_putRune
set_option maxRecDepth 20000 in
theorem ggX0_takePlaces_X0_baseAt : GoodIn wsX0_takePlaces wsX0_baseAt := goodIn_r _ [19, 20, 21, 22, 23, 4, 24, 11, 34, 35, 36, 37, 38, 39, 40, 41] (by decide +kernel) (by decide +kernel)
set_option maxRecDepth 20000 in
theorem gX0_takePlaces_X0_baseAt : GoodIn wsX0_takePlaces (wsV RX0 61 RX0 yX0_baseAt wsX0_baseAt) := goodIn_app (goodIn_of _ (by decide +kernel)) ggX0_takePlaces_X0_baseAt
set_option maxRecDepth 20000 in
theorem ggX0_takePlaces_X0_gluedAt : GoodIn wsX0_takePlaces wsX0_gluedAt := goodIn_r _ [28, 29, 21, 22, 23, 4, 24, 11, 34, 35, 36, 37, 38, 39, 40, 41] (by decide +kernel) (by decide +kernel)
set_option maxRecDepth 20000 in
theorem gX0_takePlaces_X0_gluedAt : GoodIn wsX0_takePlaces (wsV RX0 65 RX0 yX0_gluedAt wsX0_gluedAt) := goodIn_app (goodIn_of _ (by decide +kernel)) ggX0_takePlaces_X0_gluedAt
set_option maxRecDepth 20000 in
theorem ggX0_takePlaces_X0_putJoint : GoodIn wsX0_takePlaces wsX0_putJoint := goodIn_r _ [33, 20, 29, 21, 22, 23, 4, 24, 11, 34, 35, 36, 37, 38, 39, 40, 41] (by decide +kernel) (by decide +kernel)
set_option maxRecDepth 20000 in
theorem gX0_takePlaces_X0_putJoint : GoodIn wsX0_takePlaces (wsV RX0 68 RX0 yX0_putJoint wsX0_putJoint) := goodIn_app (goodIn_of _ (by decide +kernel)) ggX0_takePlaces_X0_putJoint
theorem dX0_takePlaces_0 : decode cX0_takePlaces 0 = .ok (.iconst 0, 1) := by decide +kernel
theorem dX0_takePlaces_1 : decode cX0_takePlaces 1 = .ok (.istore 6, 2) := by decide +kernel
theorem dX0_takePlaces_3 : decode cX0_takePlaces 3 = .ok (.iload 6, 2) := by decide +kernel
theorem dX0_takePlaces_5 : decode cX0_takePlaces 5 = .ok (.iload_n 3, 1) := by decide +kernel
theorem dX0_takePlaces_6 : decode cX0_takePlaces 6 = .ok (.if_icmp .ge 50, 3) := by decide +kernel
theorem dX0_takePlaces_9 : decode cX0_takePlaces 9 = .ok (.iconst 0, 1) := by decide +kernel
theorem dX0_takePlaces_10 : decode cX0_takePlaces 10 = .ok (.istore 7, 2) := by decide +kernel
theorem dX0_takePlaces_12 : decode cX0_takePlaces 12 = .ok (.iload 7, 2) := by decide +kernel
theorem dX0_takePlaces_14 : decode cX0_takePlaces 14 = .ok (.iconst 3, 1) := by decide +kernel
theorem dX0_takePlaces_15 : decode cX0_takePlaces 15 = .ok (.if_icmp .ge 35, 3) := by decide +kernel
theorem dX0_takePlaces_18 : decode cX0_takePlaces 18 = .ok (.aload_n 0, 1) := by decide +kernel
theorem dX0_takePlaces_19 : decode cX0_takePlaces 19 = .ok (.iload 7, 2) := by decide +kernel
theorem dX0_takePlaces_21 : decode cX0_takePlaces 21 = .ok (.iload 4, 2) := by decide +kernel
theorem dX0_takePlaces_23 : decode cX0_takePlaces 23 = .ok (.iload 6, 2) := by decide +kernel
theorem dX0_takePlaces_25 : decode cX0_takePlaces 25 = .ok (.iadd, 1) := by decide +kernel
theorem dX0_takePlaces_26 : decode cX0_takePlaces 26 = .ok (.aload_n 1, 1) := by decide +kernel
theorem dX0_takePlaces_27 : decode cX0_takePlaces 27 = .ok (.iload 7, 2) := by decide +kernel
theorem dX0_takePlaces_29 : decode cX0_takePlaces 29 = .ok (.iload 5, 2) := by decide +kernel
theorem dX0_takePlaces_31 : decode cX0_takePlaces 31 = .ok (.iadd, 1) := by decide +kernel
theorem dX0_takePlaces_32 : decode cX0_takePlaces 32 = .ok (.iconst 3, 1) := by decide +kernel
theorem dX0_takePlaces_33 : decode cX0_takePlaces 33 = .ok (.irem, 1) := by decide +kernel
theorem dX0_takePlaces_34 : decode cX0_takePlaces 34 = .ok (.iload_n 2, 1) := by decide +kernel
theorem dX0_takePlaces_35 : decode cX0_takePlaces 35 = .ok (.iload 6, 2) := by decide +kernel
theorem dX0_takePlaces_37 : decode cX0_takePlaces 37 = .ok (.iadd, 1) := by decide +kernel
theorem dX0_takePlaces_38 : decode cX0_takePlaces 38 = .ok (.invokevirtual 53, 3) := by decide +kernel
theorem dX0_takePlaces_41 : decode cX0_takePlaces 41 = .ok (.invokevirtual 57, 3) := by decide +kernel
theorem dX0_takePlaces_44 : decode cX0_takePlaces 44 = .ok (.iinc 7 1, 3) := by decide +kernel
theorem dX0_takePlaces_47 : decode cX0_takePlaces 47 = .ok (.goto (-35), 3) := by decide +kernel
theorem dX0_takePlaces_50 : decode cX0_takePlaces 50 = .ok (.iinc 6 1, 3) := by decide +kernel
theorem dX0_takePlaces_53 : decode cX0_takePlaces 53 = .ok (.goto (-50), 3) := by decide +kernel
theorem dX0_takePlaces_56 : decode cX0_takePlaces 56 = .ok (.iconst 0, 1) := by decide +kernel
theorem dX0_takePlaces_57 : decode cX0_takePlaces 57 = .ok (.istore 6, 2) := by decide +kernel
theorem dX0_takePlaces_59 : decode cX0_takePlaces 59 = .ok (.iload 6, 2) := by decide +kernel
theorem dX0_takePlaces_61 : decode cX0_takePlaces 61 = .ok (.iload_n 3, 1) := by decide +kernel
theorem dX0_takePlaces_62 : decode cX0_takePlaces 62 = .ok (.iconst 1, 1) := by decide +kernel
theorem dX0_takePlaces_63 : decode cX0_takePlaces 63 = .ok (.isub, 1) := by decide +kernel
theorem dX0_takePlaces_64 : decode cX0_takePlaces 64 = .ok (.if_icmp .ge 34, 3) := by decide +kernel
theorem dX0_takePlaces_67 : decode cX0_takePlaces 67 = .ok (.aload_n 0, 1) := by decide +kernel
theorem dX0_takePlaces_68 : decode cX0_takePlaces 68 = .ok (.iload 4, 2) := by decide +kernel
theorem dX0_takePlaces_70 : decode cX0_takePlaces 70 = .ok (.iload 6, 2) := by decide +kernel
theorem dX0_takePlaces_72 : decode cX0_takePlaces 72 = .ok (.iadd, 1) := by decide +kernel
theorem dX0_takePlaces_73 : decode cX0_takePlaces 73 = .ok (.aload_n 1, 1) := by decide +kernel
theorem dX0_takePlaces_74 : decode cX0_takePlaces 74 = .ok (.iload_n 2, 1) := by decide +kernel
theorem dX0_takePlaces_75 : decode cX0_takePlaces 75 = .ok (.iload 6, 2) := by decide +kernel
theorem dX0_takePlaces_77 : decode cX0_takePlaces 77 = .ok (.iadd, 1) := by decide +kernel
theorem dX0_takePlaces_78 : decode cX0_takePlaces 78 = .ok (.invokevirtual 61, 3) := by decide +kernel
theorem dX0_takePlaces_81 : decode cX0_takePlaces 81 = .ok (.aload_n 1, 1) := by decide +kernel
theorem dX0_takePlaces_82 : decode cX0_takePlaces 82 = .ok (.iload_n 2, 1) := by decide +kernel
theorem dX0_takePlaces_83 : decode cX0_takePlaces 83 = .ok (.iload 6, 2) := by decide +kernel
theorem dX0_takePlaces_85 : decode cX0_takePlaces 85 = .ok (.iadd, 1) := by decide +kernel
theorem dX0_takePlaces_86 : decode cX0_takePlaces 86 = .ok (.invokevirtual 65, 3) := by decide +kernel
theorem dX0_takePlaces_89 : decode cX0_takePlaces 89 = .ok (.invokevirtual 68, 3) := by decide +kernel
theorem dX0_takePlaces_92 : decode cX0_takePlaces 92 = .ok (.iinc 6 1, 3) := by decide +kernel
theorem dX0_takePlaces_95 : decode cX0_takePlaces 95 = .ok (.goto (-36), 3) := by decide +kernel
theorem dX0_takePlaces_98 : decode cX0_takePlaces 98 = .ok (.return_, 1) := by decide +kernel
theorem dX0_fitsAheadOf_0 : decode cX0_fitsAheadOf 0 = .ok (.aload_n 0, 1) := by decide +kernel
theorem dX0_fitsAheadOf_1 : decode cX0_fitsAheadOf 1 = .ok (.aload_n 1, 1) := by decide +kernel
theorem dX0_fitsAheadOf_2 : decode cX0_fitsAheadOf 2 = .ok (.if_acmp .eq 26, 3) := by decide +kernel
theorem dX0_fitsAheadOf_5 : decode cX0_fitsAheadOf 5 = .ok (.aload_n 0, 1) := by decide +kernel
theorem dX0_fitsAheadOf_6 : decode cX0_fitsAheadOf 6 = .ok (.getfield 21, 3) := by decide +kernel
theorem dX0_fitsAheadOf_9 : decode cX0_fitsAheadOf 9 = .ok (.iconst (-1), 1) := by decide +kernel
theorem dX0_fitsAheadOf_10 : decode cX0_fitsAheadOf 10 = .ok (.if_icmp .eq 18, 3) := by decide +kernel
theorem dX0_fitsAheadOf_13 : decode cX0_fitsAheadOf 13 = .ok (.aload_n 0, 1) := by decide +kernel
theorem dX0_fitsAheadOf_14 : decode cX0_fitsAheadOf 14 = .ok (.getfield 21, 3) := by decide +kernel
theorem dX0_fitsAheadOf_17 : decode cX0_fitsAheadOf 17 = .ok (.aload_n 1, 1) := by decide +kernel
theorem dX0_fitsAheadOf_18 : decode cX0_fitsAheadOf 18 = .ok (.getfield 18, 3) := by decide +kernel
theorem dX0_fitsAheadOf_21 : decode cX0_fitsAheadOf 21 = .ok (.if_icmp .ne 7, 3) := by decide +kernel
theorem dX0_fitsAheadOf_24 : decode cX0_fitsAheadOf 24 = .ok (.iconst 1, 1) := by decide +kernel
theorem dX0_fitsAheadOf_25 : decode cX0_fitsAheadOf 25 = .ok (.goto 4, 3) := by decide +kernel
theorem dX0_fitsAheadOf_28 : decode cX0_fitsAheadOf 28 = .ok (.iconst 0, 1) := by decide +kernel
theorem dX0_fitsAheadOf_29 : decode cX0_fitsAheadOf 29 = .ok (.ireturn, 1) := by decide +kernel
set_option maxRecDepth 20000 in
theorem ggX0_factAt_X0_runesInAll : GoodIn wsX0_factAt wsX0_runesInAll := goodIn_r _ [10, 1, 11, 12, 13, 9, 14, 15, 16, 17, 18, 19, 20, 21, 22, 23, 37, 38, 39, 40, 41, 42, 43, 44] (by decide +kernel) (by decide +kernel)
set_option maxRecDepth 20000 in
theorem gX0_factAt_X0_runesInAll : GoodIn wsX0_factAt (wsV RX0 72 RX0 yX0_runesInAll wsX0_runesInAll) := goodIn_app (goodIn_of _ (by decide +kernel)) ggX0_factAt_X0_runesInAll
set_option maxRecDepth 20000 in
theorem ggX0_factAt_X0_gluedJoints : GoodIn wsX0_factAt wsX0_gluedJoints := goodIn_r _ [27, 1, 28, 29, 30, 9, 31, 32, 33, 34, 35, 36, 37, 38, 39, 40, 41, 42, 43, 44] (by decide +kernel) (by decide +kernel)
set_option maxRecDepth 20000 in
theorem gX0_factAt_X0_gluedJoints : GoodIn wsX0_factAt (wsV RX0 76 RX0 yX0_gluedJoints wsX0_gluedJoints) := goodIn_app (goodIn_of _ (by decide +kernel)) ggX0_factAt_X0_gluedJoints
theorem dX0_factAt_0 : decode cX0_factAt 0 = .ok (.iload_n 1, 1) := by decide +kernel
theorem dX0_factAt_1 : decode cX0_factAt 1 = .ok (.tableswitch 69 0 5 #[39, 44, 49, 54, 59, 64], 39) := by decide +kernel
theorem dX0_factAt_40 : decode cX0_factAt 40 = .ok (.aload_n 0, 1) := by decide +kernel
theorem dX0_factAt_41 : decode cX0_factAt 41 = .ok (.getfield 9, 3) := by decide +kernel
theorem dX0_factAt_44 : decode cX0_factAt 44 = .ok (.ireturn, 1) := by decide +kernel
theorem dX0_factAt_45 : decode cX0_factAt 45 = .ok (.aload_n 0, 1) := by decide +kernel
theorem dX0_factAt_46 : decode cX0_factAt 46 = .ok (.getfield 15, 3) := by decide +kernel
theorem dX0_factAt_49 : decode cX0_factAt 49 = .ok (.ireturn, 1) := by decide +kernel
theorem dX0_factAt_50 : decode cX0_factAt 50 = .ok (.aload_n 0, 1) := by decide +kernel
theorem dX0_factAt_51 : decode cX0_factAt 51 = .ok (.invokevirtual 72, 3) := by decide +kernel
theorem dX0_factAt_54 : decode cX0_factAt 54 = .ok (.ireturn, 1) := by decide +kernel
theorem dX0_factAt_55 : decode cX0_factAt 55 = .ok (.aload_n 0, 1) := by decide +kernel
theorem dX0_factAt_56 : decode cX0_factAt 56 = .ok (.invokevirtual 76, 3) := by decide +kernel
theorem dX0_factAt_59 : decode cX0_factAt 59 = .ok (.ireturn, 1) := by decide +kernel
theorem dX0_factAt_60 : decode cX0_factAt 60 = .ok (.aload_n 0, 1) := by decide +kernel
theorem dX0_factAt_61 : decode cX0_factAt 61 = .ok (.getfield 18, 3) := by decide +kernel
theorem dX0_factAt_64 : decode cX0_factAt 64 = .ok (.ireturn, 1) := by decide +kernel
theorem dX0_factAt_65 : decode cX0_factAt 65 = .ok (.aload_n 0, 1) := by decide +kernel
theorem dX0_factAt_66 : decode cX0_factAt 66 = .ok (.getfield 21, 3) := by decide +kernel
theorem dX0_factAt_69 : decode cX0_factAt 69 = .ok (.ireturn, 1) := by decide +kernel
theorem dX0_factAt_70 : decode cX0_factAt 70 = .ok (.aload_n 0, 1) := by decide +kernel
theorem dX0_factAt_71 : decode cX0_factAt 71 = .ok (.getfield 24, 3) := by decide +kernel
theorem dX0_factAt_74 : decode cX0_factAt 74 = .ok (.ifCond .eq 7, 3) := by decide +kernel
theorem dX0_factAt_77 : decode cX0_factAt 77 = .ok (.iconst 1, 1) := by decide +kernel
theorem dX0_factAt_78 : decode cX0_factAt 78 = .ok (.goto 4, 3) := by decide +kernel
theorem dX0_factAt_81 : decode cX0_factAt 81 = .ok (.iconst 0, 1) := by decide +kernel
theorem dX0_factAt_82 : decode cX0_factAt 82 = .ok (.ireturn, 1) := by decide +kernel
set_option maxRecDepth 20000 in
theorem ggX0_runesInAll_X0_runesAtPlace : GoodIn wsX0_runesInAll wsX0_runesAtPlace := goodIn_r _ [6, 7, 8, 9, 5, 10, 11, 12, 13, 14, 15, 1, 16, 17, 18, 19, 20, 21, 22, 23] (by decide +kernel) (by decide +kernel)
set_option maxRecDepth 20000 in
theorem gX0_runesInAll_X0_runesAtPlace : GoodIn wsX0_runesInAll (wsV RX0 79 RX0 yX0_runesAtPlace wsX0_runesAtPlace) := goodIn_app (goodIn_of _ (by decide +kernel)) ggX0_runesInAll_X0_runesAtPlace
theorem dX0_runesInAll_0 : decode cX0_runesInAll 0 = .ok (.iconst 0, 1) := by decide +kernel
theorem dX0_runesInAll_1 : decode cX0_runesInAll 1 = .ok (.istore_n 1, 1) := by decide +kernel
theorem dX0_runesInAll_2 : decode cX0_runesInAll 2 = .ok (.iconst 0, 1) := by decide +kernel
theorem dX0_runesInAll_3 : decode cX0_runesInAll 3 = .ok (.istore_n 2, 1) := by decide +kernel
theorem dX0_runesInAll_4 : decode cX0_runesInAll 4 = .ok (.iload_n 2, 1) := by decide +kernel
theorem dX0_runesInAll_5 : decode cX0_runesInAll 5 = .ok (.aload_n 0, 1) := by decide +kernel
theorem dX0_runesInAll_6 : decode cX0_runesInAll 6 = .ok (.getfield 9, 3) := by decide +kernel
theorem dX0_runesInAll_9 : decode cX0_runesInAll 9 = .ok (.if_icmp .ge 17, 3) := by decide +kernel
theorem dX0_runesInAll_12 : decode cX0_runesInAll 12 = .ok (.iload_n 1, 1) := by decide +kernel
theorem dX0_runesInAll_13 : decode cX0_runesInAll 13 = .ok (.aload_n 0, 1) := by decide +kernel
theorem dX0_runesInAll_14 : decode cX0_runesInAll 14 = .ok (.iload_n 2, 1) := by decide +kernel
theorem dX0_runesInAll_15 : decode cX0_runesInAll 15 = .ok (.invokevirtual 79, 3) := by decide +kernel
theorem dX0_runesInAll_18 : decode cX0_runesInAll 18 = .ok (.iadd, 1) := by decide +kernel
theorem dX0_runesInAll_19 : decode cX0_runesInAll 19 = .ok (.istore_n 1, 1) := by decide +kernel
theorem dX0_runesInAll_20 : decode cX0_runesInAll 20 = .ok (.iinc 2 1, 3) := by decide +kernel
theorem dX0_runesInAll_23 : decode cX0_runesInAll 23 = .ok (.goto (-19), 3) := by decide +kernel
theorem dX0_runesInAll_26 : decode cX0_runesInAll 26 = .ok (.iload_n 1, 1) := by decide +kernel
theorem dX0_runesInAll_27 : decode cX0_runesInAll 27 = .ok (.ireturn, 1) := by decide +kernel
set_option maxRecDepth 20000 in
theorem ggX0_runesAtPlace_X0_runeAt : GoodIn wsX0_runesAtPlace wsX0_runeAt := goodIn_r _ [5, 6, 7, 8, 9, 4, 10, 11, 12, 13, 14, 15, 16, 17, 18, 19] (by decide +kernel) (by decide +kernel)
set_option maxRecDepth 20000 in
theorem gX0_runesAtPlace_X0_runeAt : GoodIn wsX0_runesAtPlace (wsV RX0 53 RX0 yX0_runeAt wsX0_runeAt) := goodIn_app (goodIn_of _ (by decide +kernel)) ggX0_runesAtPlace_X0_runeAt
theorem dX0_runesAtPlace_0 : decode cX0_runesAtPlace 0 = .ok (.iconst 0, 1) := by decide +kernel
theorem dX0_runesAtPlace_1 : decode cX0_runesAtPlace 1 = .ok (.istore_n 2, 1) := by decide +kernel
theorem dX0_runesAtPlace_2 : decode cX0_runesAtPlace 2 = .ok (.iconst 0, 1) := by decide +kernel
theorem dX0_runesAtPlace_3 : decode cX0_runesAtPlace 3 = .ok (.istore_n 3, 1) := by decide +kernel
theorem dX0_runesAtPlace_4 : decode cX0_runesAtPlace 4 = .ok (.iload_n 3, 1) := by decide +kernel
theorem dX0_runesAtPlace_5 : decode cX0_runesAtPlace 5 = .ok (.iconst 3, 1) := by decide +kernel
theorem dX0_runesAtPlace_6 : decode cX0_runesAtPlace 6 = .ok (.if_icmp .ge 22, 3) := by decide +kernel
theorem dX0_runesAtPlace_9 : decode cX0_runesAtPlace 9 = .ok (.aload_n 0, 1) := by decide +kernel
theorem dX0_runesAtPlace_10 : decode cX0_runesAtPlace 10 = .ok (.iload_n 3, 1) := by decide +kernel
theorem dX0_runesAtPlace_11 : decode cX0_runesAtPlace 11 = .ok (.iload_n 1, 1) := by decide +kernel
theorem dX0_runesAtPlace_12 : decode cX0_runesAtPlace 12 = .ok (.invokevirtual 53, 3) := by decide +kernel
theorem dX0_runesAtPlace_15 : decode cX0_runesAtPlace 15 = .ok (.iconst (-1), 1) := by decide +kernel
theorem dX0_runesAtPlace_16 : decode cX0_runesAtPlace 16 = .ok (.if_icmp .eq 6, 3) := by decide +kernel
theorem dX0_runesAtPlace_19 : decode cX0_runesAtPlace 19 = .ok (.iinc 2 1, 3) := by decide +kernel
theorem dX0_runesAtPlace_22 : decode cX0_runesAtPlace 22 = .ok (.iinc 3 1, 3) := by decide +kernel
theorem dX0_runesAtPlace_25 : decode cX0_runesAtPlace 25 = .ok (.goto (-21), 3) := by decide +kernel
theorem dX0_runesAtPlace_28 : decode cX0_runesAtPlace 28 = .ok (.iload_n 2, 1) := by decide +kernel
theorem dX0_runesAtPlace_29 : decode cX0_runesAtPlace 29 = .ok (.ireturn, 1) := by decide +kernel
set_option maxRecDepth 20000 in
theorem ggX0_gluedJoints_X0_gluedAt : GoodIn wsX0_gluedJoints wsX0_gluedAt := goodIn_r _ [6, 7, 8, 9, 10, 5, 11, 1, 12, 13, 14, 15, 16, 17, 18, 19] (by decide +kernel) (by decide +kernel)
set_option maxRecDepth 20000 in
theorem gX0_gluedJoints_X0_gluedAt : GoodIn wsX0_gluedJoints (wsV RX0 65 RX0 yX0_gluedAt wsX0_gluedAt) := goodIn_app (goodIn_of _ (by decide +kernel)) ggX0_gluedJoints_X0_gluedAt
theorem dX0_gluedJoints_0 : decode cX0_gluedJoints 0 = .ok (.iconst 0, 1) := by decide +kernel
theorem dX0_gluedJoints_1 : decode cX0_gluedJoints 1 = .ok (.istore_n 1, 1) := by decide +kernel
theorem dX0_gluedJoints_2 : decode cX0_gluedJoints 2 = .ok (.iconst 0, 1) := by decide +kernel
theorem dX0_gluedJoints_3 : decode cX0_gluedJoints 3 = .ok (.istore_n 2, 1) := by decide +kernel
theorem dX0_gluedJoints_4 : decode cX0_gluedJoints 4 = .ok (.iload_n 2, 1) := by decide +kernel
theorem dX0_gluedJoints_5 : decode cX0_gluedJoints 5 = .ok (.aload_n 0, 1) := by decide +kernel
theorem dX0_gluedJoints_6 : decode cX0_gluedJoints 6 = .ok (.getfield 9, 3) := by decide +kernel
theorem dX0_gluedJoints_9 : decode cX0_gluedJoints 9 = .ok (.iconst 1, 1) := by decide +kernel
theorem dX0_gluedJoints_10 : decode cX0_gluedJoints 10 = .ok (.isub, 1) := by decide +kernel
theorem dX0_gluedJoints_11 : decode cX0_gluedJoints 11 = .ok (.if_icmp .ge 20, 3) := by decide +kernel
theorem dX0_gluedJoints_14 : decode cX0_gluedJoints 14 = .ok (.aload_n 0, 1) := by decide +kernel
theorem dX0_gluedJoints_15 : decode cX0_gluedJoints 15 = .ok (.iload_n 2, 1) := by decide +kernel
theorem dX0_gluedJoints_16 : decode cX0_gluedJoints 16 = .ok (.invokevirtual 65, 3) := by decide +kernel
theorem dX0_gluedJoints_19 : decode cX0_gluedJoints 19 = .ok (.ifCond .eq 6, 3) := by decide +kernel
theorem dX0_gluedJoints_22 : decode cX0_gluedJoints 22 = .ok (.iinc 1 1, 3) := by decide +kernel
theorem dX0_gluedJoints_25 : decode cX0_gluedJoints 25 = .ok (.iinc 2 1, 3) := by decide +kernel
theorem dX0_gluedJoints_28 : decode cX0_gluedJoints 28 = .ok (.goto (-24), 3) := by decide +kernel
theorem dX0_gluedJoints_31 : decode cX0_gluedJoints 31 = .ok (.iload_n 1, 1) := by decide +kernel
theorem dX0_gluedJoints_32 : decode cX0_gluedJoints 32 = .ok (.ireturn, 1) := by decide +kernel
set_option maxRecDepth 20000 in
theorem ggX0_strengthAt_X0_baseAt : GoodIn wsX0_strengthAt wsX0_baseAt := goodIn_r _ [9, 10, 11, 12, 13, 8, 14, 15, 29, 30, 31, 32, 33, 34, 35, 36] (by decide +kernel) (by decide +kernel)
set_option maxRecDepth 20000 in
theorem gX0_strengthAt_X0_baseAt : GoodIn wsX0_strengthAt (wsV RX0 61 RX0 yX0_baseAt wsX0_baseAt) := goodIn_app (goodIn_of _ (by decide +kernel)) ggX0_strengthAt_X0_baseAt
set_option maxRecDepth 20000 in
theorem ggX0_strengthAt_X0_runesAtPlace : GoodIn wsX0_strengthAt wsX0_runesAtPlace := goodIn_r _ [19, 20, 21, 22, 8, 23, 24, 25, 26, 27, 28, 15, 29, 30, 31, 32, 33, 34, 35, 36] (by decide +kernel) (by decide +kernel)
set_option maxRecDepth 20000 in
theorem gX0_strengthAt_X0_runesAtPlace : GoodIn wsX0_strengthAt (wsV RX0 79 RX0 yX0_runesAtPlace wsX0_runesAtPlace) := goodIn_app (goodIn_of _ (by decide +kernel)) ggX0_strengthAt_X0_runesAtPlace
theorem dX0_strengthAt_0 : decode cX0_strengthAt 0 = .ok (.iconst 0, 1) := by decide +kernel
theorem dX0_strengthAt_1 : decode cX0_strengthAt 1 = .ok (.aload_n 0, 1) := by decide +kernel
theorem dX0_strengthAt_2 : decode cX0_strengthAt 2 = .ok (.iload_n 1, 1) := by decide +kernel
theorem dX0_strengthAt_3 : decode cX0_strengthAt 3 = .ok (.invokevirtual 61, 3) := by decide +kernel
theorem dX0_strengthAt_6 : decode cX0_strengthAt 6 = .ok (.aload_n 0, 1) := by decide +kernel
theorem dX0_strengthAt_7 : decode cX0_strengthAt 7 = .ok (.iload_n 1, 1) := by decide +kernel
theorem dX0_strengthAt_8 : decode cX0_strengthAt 8 = .ok (.invokevirtual 79, 3) := by decide +kernel
theorem dX0_strengthAt_11 : decode cX0_strengthAt 11 = .ok (.isub, 1) := by decide +kernel
theorem dX0_strengthAt_12 : decode cX0_strengthAt 12 = .ok (.aload_n 0, 1) := by decide +kernel
theorem dX0_strengthAt_13 : decode cX0_strengthAt 13 = .ok (.iload_n 1, 1) := by decide +kernel
theorem dX0_strengthAt_14 : decode cX0_strengthAt 14 = .ok (.iconst 1, 1) := by decide +kernel
theorem dX0_strengthAt_15 : decode cX0_strengthAt 15 = .ok (.iadd, 1) := by decide +kernel
theorem dX0_strengthAt_16 : decode cX0_strengthAt 16 = .ok (.invokevirtual 79, 3) := by decide +kernel
theorem dX0_strengthAt_19 : decode cX0_strengthAt 19 = .ok (.isub, 1) := by decide +kernel
theorem dX0_strengthAt_20 : decode cX0_strengthAt 20 = .ok (.invokestatic 82, 3) := by decide +kernel
theorem dX0_strengthAt_23 : decode cX0_strengthAt 23 = .ok (.ireturn, 1) := by decide +kernel
set_option maxRecDepth 20000 in
theorem ggX0_firstWeakestJoint_X0_strengthAt : GoodIn wsX0_firstWeakestJoint wsX0_strengthAt := goodIn_r _ [6, 7, 8, 9, 10, 11, 12, 13, 5, 14, 15, 16, 17, 18, 19, 1, 20, 21, 22, 23, 24, 25, 26, 27, 28, 29, 30, 31, 32, 33, 34, 35, 36, 37, 38, 39, 40] (by decide +kernel) (by decide +kernel)
set_option maxRecDepth 20000 in
theorem gX0_firstWeakestJoint_X0_strengthAt : GoodIn wsX0_firstWeakestJoint (wsV RX0 87 RX0 yX0_strengthAt wsX0_strengthAt) := goodIn_app (goodIn_of _ (by decide +kernel)) ggX0_firstWeakestJoint_X0_strengthAt
theorem dX0_firstWeakestJoint_0 : decode cX0_firstWeakestJoint 0 = .ok (.iconst (-1), 1) := by decide +kernel
theorem dX0_firstWeakestJoint_1 : decode cX0_firstWeakestJoint 1 = .ok (.istore_n 1, 1) := by decide +kernel
theorem dX0_firstWeakestJoint_2 : decode cX0_firstWeakestJoint 2 = .ok (.iconst 0, 1) := by decide +kernel
theorem dX0_firstWeakestJoint_3 : decode cX0_firstWeakestJoint 3 = .ok (.istore_n 2, 1) := by decide +kernel
theorem dX0_firstWeakestJoint_4 : decode cX0_firstWeakestJoint 4 = .ok (.iload_n 2, 1) := by decide +kernel
theorem dX0_firstWeakestJoint_5 : decode cX0_firstWeakestJoint 5 = .ok (.aload_n 0, 1) := by decide +kernel
theorem dX0_firstWeakestJoint_6 : decode cX0_firstWeakestJoint 6 = .ok (.getfield 9, 3) := by decide +kernel
theorem dX0_firstWeakestJoint_9 : decode cX0_firstWeakestJoint 9 = .ok (.iconst 1, 1) := by decide +kernel
theorem dX0_firstWeakestJoint_10 : decode cX0_firstWeakestJoint 10 = .ok (.isub, 1) := by decide +kernel
theorem dX0_firstWeakestJoint_11 : decode cX0_firstWeakestJoint 11 = .ok (.if_icmp .ge 29, 3) := by decide +kernel
theorem dX0_firstWeakestJoint_14 : decode cX0_firstWeakestJoint 14 = .ok (.iload_n 1, 1) := by decide +kernel
theorem dX0_firstWeakestJoint_15 : decode cX0_firstWeakestJoint 15 = .ok (.iconst (-1), 1) := by decide +kernel
theorem dX0_firstWeakestJoint_16 : decode cX0_firstWeakestJoint 16 = .ok (.if_icmp .eq 16, 3) := by decide +kernel
theorem dX0_firstWeakestJoint_19 : decode cX0_firstWeakestJoint 19 = .ok (.aload_n 0, 1) := by decide +kernel
theorem dX0_firstWeakestJoint_20 : decode cX0_firstWeakestJoint 20 = .ok (.iload_n 2, 1) := by decide +kernel
theorem dX0_firstWeakestJoint_21 : decode cX0_firstWeakestJoint 21 = .ok (.invokevirtual 87, 3) := by decide +kernel
theorem dX0_firstWeakestJoint_24 : decode cX0_firstWeakestJoint 24 = .ok (.aload_n 0, 1) := by decide +kernel
theorem dX0_firstWeakestJoint_25 : decode cX0_firstWeakestJoint 25 = .ok (.iload_n 1, 1) := by decide +kernel
theorem dX0_firstWeakestJoint_26 : decode cX0_firstWeakestJoint 26 = .ok (.invokevirtual 87, 3) := by decide +kernel
theorem dX0_firstWeakestJoint_29 : decode cX0_firstWeakestJoint 29 = .ok (.if_icmp .ge 5, 3) := by decide +kernel
theorem dX0_firstWeakestJoint_32 : decode cX0_firstWeakestJoint 32 = .ok (.iload_n 2, 1) := by decide +kernel
theorem dX0_firstWeakestJoint_33 : decode cX0_firstWeakestJoint 33 = .ok (.istore_n 1, 1) := by decide +kernel
theorem dX0_firstWeakestJoint_34 : decode cX0_firstWeakestJoint 34 = .ok (.iinc 2 1, 3) := by decide +kernel
theorem dX0_firstWeakestJoint_37 : decode cX0_firstWeakestJoint 37 = .ok (.goto (-33), 3) := by decide +kernel
theorem dX0_firstWeakestJoint_40 : decode cX0_firstWeakestJoint 40 = .ok (.iload_n 1, 1) := by decide +kernel
theorem dX0_firstWeakestJoint_41 : decode cX0_firstWeakestJoint 41 = .ok (.ireturn, 1) := by decide +kernel
set_option maxRecDepth 20000 in
theorem ggX0_jointsWeakerThan_X0_strengthAt : GoodIn wsX0_jointsWeakerThan wsX0_strengthAt := goodIn_r _ [6, 7, 8, 9, 10, 11, 12, 13, 5, 14, 15, 16, 17, 18, 19, 1, 20, 21, 22, 23, 24, 25, 26, 27, 28, 29, 30, 31, 32, 33, 34, 35, 36, 37, 38, 39, 40] (by decide +kernel) (by decide +kernel)
set_option maxRecDepth 20000 in
theorem gX0_jointsWeakerThan_X0_strengthAt : GoodIn wsX0_jointsWeakerThan (wsV RX0 87 RX0 yX0_strengthAt wsX0_strengthAt) := goodIn_app (goodIn_of _ (by decide +kernel)) ggX0_jointsWeakerThan_X0_strengthAt
theorem dX0_jointsWeakerThan_0 : decode cX0_jointsWeakerThan 0 = .ok (.iconst 0, 1) := by decide +kernel
theorem dX0_jointsWeakerThan_1 : decode cX0_jointsWeakerThan 1 = .ok (.istore_n 2, 1) := by decide +kernel
theorem dX0_jointsWeakerThan_2 : decode cX0_jointsWeakerThan 2 = .ok (.iconst 0, 1) := by decide +kernel
theorem dX0_jointsWeakerThan_3 : decode cX0_jointsWeakerThan 3 = .ok (.istore_n 3, 1) := by decide +kernel
theorem dX0_jointsWeakerThan_4 : decode cX0_jointsWeakerThan 4 = .ok (.iload_n 3, 1) := by decide +kernel
theorem dX0_jointsWeakerThan_5 : decode cX0_jointsWeakerThan 5 = .ok (.aload_n 0, 1) := by decide +kernel
theorem dX0_jointsWeakerThan_6 : decode cX0_jointsWeakerThan 6 = .ok (.getfield 9, 3) := by decide +kernel
theorem dX0_jointsWeakerThan_9 : decode cX0_jointsWeakerThan 9 = .ok (.iconst 1, 1) := by decide +kernel
theorem dX0_jointsWeakerThan_10 : decode cX0_jointsWeakerThan 10 = .ok (.isub, 1) := by decide +kernel
theorem dX0_jointsWeakerThan_11 : decode cX0_jointsWeakerThan 11 = .ok (.if_icmp .ge 21, 3) := by decide +kernel
theorem dX0_jointsWeakerThan_14 : decode cX0_jointsWeakerThan 14 = .ok (.aload_n 0, 1) := by decide +kernel
theorem dX0_jointsWeakerThan_15 : decode cX0_jointsWeakerThan 15 = .ok (.iload_n 3, 1) := by decide +kernel
theorem dX0_jointsWeakerThan_16 : decode cX0_jointsWeakerThan 16 = .ok (.invokevirtual 87, 3) := by decide +kernel
theorem dX0_jointsWeakerThan_19 : decode cX0_jointsWeakerThan 19 = .ok (.iload_n 1, 1) := by decide +kernel
theorem dX0_jointsWeakerThan_20 : decode cX0_jointsWeakerThan 20 = .ok (.if_icmp .ge 6, 3) := by decide +kernel
theorem dX0_jointsWeakerThan_23 : decode cX0_jointsWeakerThan 23 = .ok (.iinc 2 1, 3) := by decide +kernel
theorem dX0_jointsWeakerThan_26 : decode cX0_jointsWeakerThan 26 = .ok (.iinc 3 1, 3) := by decide +kernel
theorem dX0_jointsWeakerThan_29 : decode cX0_jointsWeakerThan 29 = .ok (.goto (-25), 3) := by decide +kernel
theorem dX0_jointsWeakerThan_32 : decode cX0_jointsWeakerThan 32 = .ok (.iload_n 2, 1) := by decide +kernel
theorem dX0_jointsWeakerThan_33 : decode cX0_jointsWeakerThan 33 = .ok (.ireturn, 1) := by decide +kernel
set_option maxRecDepth 20000 in
theorem ggX0_runeRead_X0_hasPlace : GoodIn wsX0_runeRead wsX0_hasPlace := goodIn_r _ [5, 6, 12, 13, 14, 15, 16, 17, 18, 19] (by decide +kernel) (by decide +kernel)
set_option maxRecDepth 20000 in
theorem gX0_runeRead_X0_hasPlace : GoodIn wsX0_runeRead (wsV RX0 45 RX0 yX0_hasPlace wsX0_hasPlace) := goodIn_app (goodIn_of _ (by decide +kernel)) ggX0_runeRead_X0_hasPlace
set_option maxRecDepth 20000 in
theorem ggX0_runeRead_X0_runeAt : GoodIn wsX0_runeRead wsX0_runeAt := goodIn_r _ [10, 11, 1, 2, 3, 4, 5, 6, 12, 13, 14, 15, 16, 17, 18, 19] (by decide +kernel) (by decide +kernel)
set_option maxRecDepth 20000 in
theorem gX0_runeRead_X0_runeAt : GoodIn wsX0_runeRead (wsV RX0 53 RX0 yX0_runeAt wsX0_runeAt) := goodIn_app (goodIn_of _ (by decide +kernel)) ggX0_runeRead_X0_runeAt
theorem dX0_runeRead_0 : decode cX0_runeRead 0 = .ok (.aload_n 0, 1) := by decide +kernel
theorem dX0_runeRead_1 : decode cX0_runeRead 1 = .ok (.iconst 0, 1) := by decide +kernel
theorem dX0_runeRead_2 : decode cX0_runeRead 2 = .ok (.iload_n 3, 1) := by decide +kernel
theorem dX0_runeRead_3 : decode cX0_runeRead 3 = .ok (.invokevirtual 45, 3) := by decide +kernel
theorem dX0_runeRead_6 : decode cX0_runeRead 6 = .ok (.ifCond .eq 18, 3) := by decide +kernel
theorem dX0_runeRead_9 : decode cX0_runeRead 9 = .ok (.aload_n 0, 1) := by decide +kernel
theorem dX0_runeRead_10 : decode cX0_runeRead 10 = .ok (.iload_n 1, 1) := by decide +kernel
theorem dX0_runeRead_11 : decode cX0_runeRead 11 = .ok (.iload_n 3, 1) := by decide +kernel
theorem dX0_runeRead_12 : decode cX0_runeRead 12 = .ok (.iload_n 2, 1) := by decide +kernel
theorem dX0_runeRead_13 : decode cX0_runeRead 13 = .ok (.imul, 1) := by decide +kernel
theorem dX0_runeRead_14 : decode cX0_runeRead 14 = .ok (.iadd, 1) := by decide +kernel
theorem dX0_runeRead_15 : decode cX0_runeRead 15 = .ok (.iconst 3, 1) := by decide +kernel
theorem dX0_runeRead_16 : decode cX0_runeRead 16 = .ok (.irem, 1) := by decide +kernel
theorem dX0_runeRead_17 : decode cX0_runeRead 17 = .ok (.iload_n 3, 1) := by decide +kernel
theorem dX0_runeRead_18 : decode cX0_runeRead 18 = .ok (.invokevirtual 53, 3) := by decide +kernel
theorem dX0_runeRead_21 : decode cX0_runeRead 21 = .ok (.goto 4, 3) := by decide +kernel
theorem dX0_runeRead_24 : decode cX0_runeRead 24 = .ok (.iconst (-1), 1) := by decide +kernel
theorem dX0_runeRead_25 : decode cX0_runeRead 25 = .ok (.ireturn, 1) := by decide +kernel
set_option maxRecDepth 20000 in
theorem ggX0_placeReadUpTo_X0_runeRead : GoodIn wsX0_placeReadUpTo wsX0_runeRead := goodIn_r _ [5, 6, 7, 8, 4, 9, 10, 11, 12, 13, 14, 15, 16, 17, 18, 19, 20, 21, 22, 23] (by decide +kernel) (by decide +kernel)
set_option maxRecDepth 20000 in
theorem gX0_placeReadUpTo_X0_runeRead : GoodIn wsX0_placeReadUpTo (wsV RX0 90 RX0 yX0_runeRead wsX0_runeRead) := goodIn_app (goodIn_of _ (by decide +kernel)) ggX0_placeReadUpTo_X0_runeRead
theorem dX0_placeReadUpTo_0 : decode cX0_placeReadUpTo 0 = .ok (.iload_n 3, 1) := by decide +kernel
theorem dX0_placeReadUpTo_1 : decode cX0_placeReadUpTo 1 = .ok (.istore 4, 2) := by decide +kernel
theorem dX0_placeReadUpTo_3 : decode cX0_placeReadUpTo 3 = .ok (.iload 4, 2) := by decide +kernel
theorem dX0_placeReadUpTo_5 : decode cX0_placeReadUpTo 5 = .ok (.ifCond .lt 24, 3) := by decide +kernel
theorem dX0_placeReadUpTo_8 : decode cX0_placeReadUpTo 8 = .ok (.aload_n 0, 1) := by decide +kernel
theorem dX0_placeReadUpTo_9 : decode cX0_placeReadUpTo 9 = .ok (.iload_n 1, 1) := by decide +kernel
theorem dX0_placeReadUpTo_10 : decode cX0_placeReadUpTo 10 = .ok (.iload_n 2, 1) := by decide +kernel
theorem dX0_placeReadUpTo_11 : decode cX0_placeReadUpTo 11 = .ok (.iload 4, 2) := by decide +kernel
theorem dX0_placeReadUpTo_13 : decode cX0_placeReadUpTo 13 = .ok (.invokevirtual 90, 3) := by decide +kernel
theorem dX0_placeReadUpTo_16 : decode cX0_placeReadUpTo 16 = .ok (.iconst (-1), 1) := by decide +kernel
theorem dX0_placeReadUpTo_17 : decode cX0_placeReadUpTo 17 = .ok (.if_icmp .eq 6, 3) := by decide +kernel
theorem dX0_placeReadUpTo_20 : decode cX0_placeReadUpTo 20 = .ok (.iload 4, 2) := by decide +kernel
theorem dX0_placeReadUpTo_22 : decode cX0_placeReadUpTo 22 = .ok (.ireturn, 1) := by decide +kernel
theorem dX0_placeReadUpTo_23 : decode cX0_placeReadUpTo 23 = .ok (.iinc 4 (-1), 3) := by decide +kernel
theorem dX0_placeReadUpTo_26 : decode cX0_placeReadUpTo 26 = .ok (.goto (-23), 3) := by decide +kernel
theorem dX0_placeReadUpTo_29 : decode cX0_placeReadUpTo 29 = .ok (.iconst (-1), 1) := by decide +kernel
theorem dX0_placeReadUpTo_30 : decode cX0_placeReadUpTo 30 = .ok (.ireturn, 1) := by decide +kernel
set_option maxRecDepth 20000 in
theorem ggX0_readingLength_X0_runeRead : GoodIn wsX0_readingLength wsX0_runeRead := goodIn_r _ [6, 7, 8, 9, 5, 10, 1, 11, 12, 13, 14, 15, 16, 17, 18, 19, 20, 21, 22, 23] (by decide +kernel) (by decide +kernel)
set_option maxRecDepth 20000 in
theorem gX0_readingLength_X0_runeRead : GoodIn wsX0_readingLength (wsV RX0 90 RX0 yX0_runeRead wsX0_runeRead) := goodIn_app (goodIn_of _ (by decide +kernel)) ggX0_readingLength_X0_runeRead
theorem dX0_readingLength_0 : decode cX0_readingLength 0 = .ok (.iconst 0, 1) := by decide +kernel
theorem dX0_readingLength_1 : decode cX0_readingLength 1 = .ok (.istore_n 3, 1) := by decide +kernel
theorem dX0_readingLength_2 : decode cX0_readingLength 2 = .ok (.iconst 0, 1) := by decide +kernel
theorem dX0_readingLength_3 : decode cX0_readingLength 3 = .ok (.istore 4, 2) := by decide +kernel
theorem dX0_readingLength_5 : decode cX0_readingLength 5 = .ok (.iload 4, 2) := by decide +kernel
theorem dX0_readingLength_7 : decode cX0_readingLength 7 = .ok (.aload_n 0, 1) := by decide +kernel
theorem dX0_readingLength_8 : decode cX0_readingLength 8 = .ok (.getfield 9, 3) := by decide +kernel
theorem dX0_readingLength_11 : decode cX0_readingLength 11 = .ok (.if_icmp .ge 24, 3) := by decide +kernel
theorem dX0_readingLength_14 : decode cX0_readingLength 14 = .ok (.aload_n 0, 1) := by decide +kernel
theorem dX0_readingLength_15 : decode cX0_readingLength 15 = .ok (.iload_n 1, 1) := by decide +kernel
theorem dX0_readingLength_16 : decode cX0_readingLength 16 = .ok (.iload_n 2, 1) := by decide +kernel
theorem dX0_readingLength_17 : decode cX0_readingLength 17 = .ok (.iload 4, 2) := by decide +kernel
theorem dX0_readingLength_19 : decode cX0_readingLength 19 = .ok (.invokevirtual 90, 3) := by decide +kernel
theorem dX0_readingLength_22 : decode cX0_readingLength 22 = .ok (.iconst (-1), 1) := by decide +kernel
theorem dX0_readingLength_23 : decode cX0_readingLength 23 = .ok (.if_icmp .eq 6, 3) := by decide +kernel
theorem dX0_readingLength_26 : decode cX0_readingLength 26 = .ok (.iinc 3 1, 3) := by decide +kernel
theorem dX0_readingLength_29 : decode cX0_readingLength 29 = .ok (.iinc 4 1, 3) := by decide +kernel
theorem dX0_readingLength_32 : decode cX0_readingLength 32 = .ok (.goto (-27), 3) := by decide +kernel
theorem dX0_readingLength_35 : decode cX0_readingLength 35 = .ok (.iload_n 3, 1) := by decide +kernel
theorem dX0_readingLength_36 : decode cX0_readingLength 36 = .ok (.ireturn, 1) := by decide +kernel
set_option maxRecDepth 20000 in
theorem ggX0_readsPair_X0_runeRead : GoodIn wsX0_readsPair wsX0_runeRead := goodIn_r _ [6, 7, 8, 9, 5, 10, 1, 11, 12, 13, 14, 15, 16, 17, 18, 19, 20, 21, 22, 23] (by decide +kernel) (by decide +kernel)
set_option maxRecDepth 20000 in
theorem gX0_readsPair_X0_runeRead : GoodIn wsX0_readsPair (wsV RX0 90 RX0 yX0_runeRead wsX0_runeRead) := goodIn_app (goodIn_of _ (by decide +kernel)) ggX0_readsPair_X0_runeRead
theorem dX0_readsPair_0 : decode cX0_readsPair 0 = .ok (.iconst (-1), 1) := by decide +kernel
theorem dX0_readsPair_1 : decode cX0_readsPair 1 = .ok (.istore 5, 2) := by decide +kernel
theorem dX0_readsPair_3 : decode cX0_readsPair 3 = .ok (.iconst 0, 1) := by decide +kernel
theorem dX0_readsPair_4 : decode cX0_readsPair 4 = .ok (.istore 6, 2) := by decide +kernel
theorem dX0_readsPair_6 : decode cX0_readsPair 6 = .ok (.iload 6, 2) := by decide +kernel
theorem dX0_readsPair_8 : decode cX0_readsPair 8 = .ok (.aload_n 0, 1) := by decide +kernel
theorem dX0_readsPair_9 : decode cX0_readsPair 9 = .ok (.getfield 9, 3) := by decide +kernel
theorem dX0_readsPair_12 : decode cX0_readsPair 12 = .ok (.if_icmp .ge 44, 3) := by decide +kernel
theorem dX0_readsPair_15 : decode cX0_readsPair 15 = .ok (.aload_n 0, 1) := by decide +kernel
theorem dX0_readsPair_16 : decode cX0_readsPair 16 = .ok (.iload_n 1, 1) := by decide +kernel
theorem dX0_readsPair_17 : decode cX0_readsPair 17 = .ok (.iload_n 2, 1) := by decide +kernel
theorem dX0_readsPair_18 : decode cX0_readsPair 18 = .ok (.iload 6, 2) := by decide +kernel
theorem dX0_readsPair_20 : decode cX0_readsPair 20 = .ok (.invokevirtual 90, 3) := by decide +kernel
theorem dX0_readsPair_23 : decode cX0_readsPair 23 = .ok (.istore 7, 2) := by decide +kernel
theorem dX0_readsPair_25 : decode cX0_readsPair 25 = .ok (.iload 7, 2) := by decide +kernel
theorem dX0_readsPair_27 : decode cX0_readsPair 27 = .ok (.iconst (-1), 1) := by decide +kernel
theorem dX0_readsPair_28 : decode cX0_readsPair 28 = .ok (.if_icmp .eq 22, 3) := by decide +kernel
theorem dX0_readsPair_31 : decode cX0_readsPair 31 = .ok (.iload 5, 2) := by decide +kernel
theorem dX0_readsPair_33 : decode cX0_readsPair 33 = .ok (.iload_n 3, 1) := by decide +kernel
theorem dX0_readsPair_34 : decode cX0_readsPair 34 = .ok (.if_icmp .ne 12, 3) := by decide +kernel
theorem dX0_readsPair_37 : decode cX0_readsPair 37 = .ok (.iload 7, 2) := by decide +kernel
theorem dX0_readsPair_39 : decode cX0_readsPair 39 = .ok (.iload 4, 2) := by decide +kernel
theorem dX0_readsPair_41 : decode cX0_readsPair 41 = .ok (.if_icmp .ne 5, 3) := by decide +kernel
theorem dX0_readsPair_44 : decode cX0_readsPair 44 = .ok (.iconst 1, 1) := by decide +kernel
theorem dX0_readsPair_45 : decode cX0_readsPair 45 = .ok (.ireturn, 1) := by decide +kernel
theorem dX0_readsPair_46 : decode cX0_readsPair 46 = .ok (.iload 7, 2) := by decide +kernel
theorem dX0_readsPair_48 : decode cX0_readsPair 48 = .ok (.istore 5, 2) := by decide +kernel
theorem dX0_readsPair_50 : decode cX0_readsPair 50 = .ok (.iinc 6 1, 3) := by decide +kernel
theorem dX0_readsPair_53 : decode cX0_readsPair 53 = .ok (.goto (-47), 3) := by decide +kernel
theorem dX0_readsPair_56 : decode cX0_readsPair 56 = .ok (.iconst 0, 1) := by decide +kernel
theorem dX0_readsPair_57 : decode cX0_readsPair 57 = .ok (.ireturn, 1) := by decide +kernel
set_option maxRecDepth 20000 in
theorem ggX0_addedTo_X0_factAt : GoodIn wsX0_addedTo wsX0_factAt := goodIn_r _ [7, 2, 8, 9, 10, 11, 12, 13, 14, 6, 15, 16, 17, 18, 19, 20, 21, 22, 23, 24, 25, 26, 27, 28, 29, 30, 31, 32, 33, 34, 35, 36, 37, 38, 39, 40, 41, 47, 48, 49, 50, 51, 52, 53, 54] (by decide +kernel) (by decide +kernel)
set_option maxRecDepth 20000 in
theorem gX0_addedTo_X0_factAt : GoodIn wsX0_addedTo (wsV RX0 96 RX0 yX0_factAt wsX0_factAt) := goodIn_app (goodIn_of _ (by decide +kernel)) ggX0_addedTo_X0_factAt
set_option maxRecDepth 20000 in
theorem ggX0_addedTo_X0_runeAt : GoodIn wsX0_addedTo wsX0_runeAt := goodIn_r _ [23, 24, 25, 26, 27, 6, 28, 2, 47, 48, 49, 50, 51, 52, 53, 54] (by decide +kernel) (by decide +kernel)
set_option maxRecDepth 20000 in
theorem gX0_addedTo_X0_runeAt : GoodIn wsX0_addedTo (wsV RX0 53 RX0 yX0_runeAt wsX0_runeAt) := goodIn_app (goodIn_of _ (by decide +kernel)) ggX0_addedTo_X0_runeAt
set_option maxRecDepth 20000 in
theorem ggX0_addedTo_X0_baseAt : GoodIn wsX0_addedTo wsX0_baseAt := goodIn_r _ [45, 46, 38, 39, 40, 6, 41, 2, 47, 48, 49, 50, 51, 52, 53, 54] (by decide +kernel) (by decide +kernel)
set_option maxRecDepth 20000 in
theorem gX0_addedTo_X0_baseAt : GoodIn wsX0_addedTo (wsV RX0 61 RX0 yX0_baseAt wsX0_baseAt) := goodIn_app (goodIn_of _ (by decide +kernel)) ggX0_addedTo_X0_baseAt
theorem dX0_addedTo_0 : decode cX0_addedTo 0 = .ok (.lload_n 1, 1) := by decide +kernel
theorem dX0_addedTo_1 : decode cX0_addedTo 1 = .ok (.lstore_n 3, 1) := by decide +kernel
theorem dX0_addedTo_2 : decode cX0_addedTo 2 = .ok (.iconst 0, 1) := by decide +kernel
theorem dX0_addedTo_3 : decode cX0_addedTo 3 = .ok (.istore 5, 2) := by decide +kernel
theorem dX0_addedTo_5 : decode cX0_addedTo 5 = .ok (.iload 5, 2) := by decide +kernel
theorem dX0_addedTo_7 : decode cX0_addedTo 7 = .ok (.bipush 7, 2) := by decide +kernel
theorem dX0_addedTo_9 : decode cX0_addedTo 9 = .ok (.if_icmp .ge 23, 3) := by decide +kernel
theorem dX0_addedTo_12 : decode cX0_addedTo 12 = .ok (.lload_n 3, 1) := by decide +kernel
theorem dX0_addedTo_13 : decode cX0_addedTo 13 = .ok (.ldc2_w 94, 3) := by decide +kernel
theorem dX0_addedTo_16 : decode cX0_addedTo 16 = .ok (.lmul, 1) := by decide +kernel
theorem dX0_addedTo_17 : decode cX0_addedTo 17 = .ok (.aload_n 0, 1) := by decide +kernel
theorem dX0_addedTo_18 : decode cX0_addedTo 18 = .ok (.iload 5, 2) := by decide +kernel
theorem dX0_addedTo_20 : decode cX0_addedTo 20 = .ok (.invokevirtual 96, 3) := by decide +kernel
theorem dX0_addedTo_23 : decode cX0_addedTo 23 = .ok (.i2l, 1) := by decide +kernel
theorem dX0_addedTo_24 : decode cX0_addedTo 24 = .ok (.ladd, 1) := by decide +kernel
theorem dX0_addedTo_25 : decode cX0_addedTo 25 = .ok (.lstore_n 3, 1) := by decide +kernel
theorem dX0_addedTo_26 : decode cX0_addedTo 26 = .ok (.iinc 5 1, 3) := by decide +kernel
theorem dX0_addedTo_29 : decode cX0_addedTo 29 = .ok (.goto (-24), 3) := by decide +kernel
theorem dX0_addedTo_32 : decode cX0_addedTo 32 = .ok (.iconst 0, 1) := by decide +kernel
theorem dX0_addedTo_33 : decode cX0_addedTo 33 = .ok (.istore 5, 2) := by decide +kernel
theorem dX0_addedTo_35 : decode cX0_addedTo 35 = .ok (.iload 5, 2) := by decide +kernel
theorem dX0_addedTo_37 : decode cX0_addedTo 37 = .ok (.aload_n 0, 1) := by decide +kernel
theorem dX0_addedTo_38 : decode cX0_addedTo 38 = .ok (.getfield 9, 3) := by decide +kernel
theorem dX0_addedTo_41 : decode cX0_addedTo 41 = .ok (.if_icmp .ge 40, 3) := by decide +kernel
theorem dX0_addedTo_44 : decode cX0_addedTo 44 = .ok (.iconst 0, 1) := by decide +kernel
theorem dX0_addedTo_45 : decode cX0_addedTo 45 = .ok (.istore 6, 2) := by decide +kernel
theorem dX0_addedTo_47 : decode cX0_addedTo 47 = .ok (.iload 6, 2) := by decide +kernel
theorem dX0_addedTo_49 : decode cX0_addedTo 49 = .ok (.iconst 3, 1) := by decide +kernel
theorem dX0_addedTo_50 : decode cX0_addedTo 50 = .ok (.if_icmp .ge 25, 3) := by decide +kernel
theorem dX0_addedTo_53 : decode cX0_addedTo 53 = .ok (.lload_n 3, 1) := by decide +kernel
theorem dX0_addedTo_54 : decode cX0_addedTo 54 = .ok (.ldc2_w 94, 3) := by decide +kernel
theorem dX0_addedTo_57 : decode cX0_addedTo 57 = .ok (.lmul, 1) := by decide +kernel
theorem dX0_addedTo_58 : decode cX0_addedTo 58 = .ok (.aload_n 0, 1) := by decide +kernel
theorem dX0_addedTo_59 : decode cX0_addedTo 59 = .ok (.iload 6, 2) := by decide +kernel
theorem dX0_addedTo_61 : decode cX0_addedTo 61 = .ok (.iload 5, 2) := by decide +kernel
theorem dX0_addedTo_63 : decode cX0_addedTo 63 = .ok (.invokevirtual 53, 3) := by decide +kernel
theorem dX0_addedTo_66 : decode cX0_addedTo 66 = .ok (.i2l, 1) := by decide +kernel
theorem dX0_addedTo_67 : decode cX0_addedTo 67 = .ok (.ladd, 1) := by decide +kernel
theorem dX0_addedTo_68 : decode cX0_addedTo 68 = .ok (.lstore_n 3, 1) := by decide +kernel
theorem dX0_addedTo_69 : decode cX0_addedTo 69 = .ok (.iinc 6 1, 3) := by decide +kernel
theorem dX0_addedTo_72 : decode cX0_addedTo 72 = .ok (.goto (-25), 3) := by decide +kernel
theorem dX0_addedTo_75 : decode cX0_addedTo 75 = .ok (.iinc 5 1, 3) := by decide +kernel
theorem dX0_addedTo_78 : decode cX0_addedTo 78 = .ok (.goto (-43), 3) := by decide +kernel
theorem dX0_addedTo_81 : decode cX0_addedTo 81 = .ok (.iconst 0, 1) := by decide +kernel
theorem dX0_addedTo_82 : decode cX0_addedTo 82 = .ok (.istore 5, 2) := by decide +kernel
theorem dX0_addedTo_84 : decode cX0_addedTo 84 = .ok (.iload 5, 2) := by decide +kernel
theorem dX0_addedTo_86 : decode cX0_addedTo 86 = .ok (.aload_n 0, 1) := by decide +kernel
theorem dX0_addedTo_87 : decode cX0_addedTo 87 = .ok (.getfield 9, 3) := by decide +kernel
theorem dX0_addedTo_90 : decode cX0_addedTo 90 = .ok (.iconst 1, 1) := by decide +kernel
theorem dX0_addedTo_91 : decode cX0_addedTo 91 = .ok (.isub, 1) := by decide +kernel
theorem dX0_addedTo_92 : decode cX0_addedTo 92 = .ok (.if_icmp .ge 23, 3) := by decide +kernel
theorem dX0_addedTo_95 : decode cX0_addedTo 95 = .ok (.lload_n 3, 1) := by decide +kernel
theorem dX0_addedTo_96 : decode cX0_addedTo 96 = .ok (.ldc2_w 94, 3) := by decide +kernel
theorem dX0_addedTo_99 : decode cX0_addedTo 99 = .ok (.lmul, 1) := by decide +kernel
theorem dX0_addedTo_100 : decode cX0_addedTo 100 = .ok (.aload_n 0, 1) := by decide +kernel
theorem dX0_addedTo_101 : decode cX0_addedTo 101 = .ok (.iload 5, 2) := by decide +kernel
theorem dX0_addedTo_103 : decode cX0_addedTo 103 = .ok (.invokevirtual 61, 3) := by decide +kernel
theorem dX0_addedTo_106 : decode cX0_addedTo 106 = .ok (.i2l, 1) := by decide +kernel
theorem dX0_addedTo_107 : decode cX0_addedTo 107 = .ok (.ladd, 1) := by decide +kernel
theorem dX0_addedTo_108 : decode cX0_addedTo 108 = .ok (.lstore_n 3, 1) := by decide +kernel
theorem dX0_addedTo_109 : decode cX0_addedTo 109 = .ok (.iinc 5 1, 3) := by decide +kernel
theorem dX0_addedTo_112 : decode cX0_addedTo 112 = .ok (.goto (-28), 3) := by decide +kernel
theorem dX0_addedTo_115 : decode cX0_addedTo 115 = .ok (.lload_n 3, 1) := by decide +kernel
theorem dX0_addedTo_116 : decode cX0_addedTo 116 = .ok (.lreturn, 1) := by decide +kernel
theorem dJ7_fill_53178_0 : decode cJ7_fill_53178 0 = .ok (.iconst 0, 1) := by decide +kernel
theorem dJ7_fill_53178_1 : decode cJ7_fill_53178 1 = .ok (.istore_n 2, 1) := by decide +kernel
theorem dJ7_fill_53178_2 : decode cJ7_fill_53178 2 = .ok (.aload_n 0, 1) := by decide +kernel
theorem dJ7_fill_53178_3 : decode cJ7_fill_53178 3 = .ok (.arraylength, 1) := by decide +kernel
theorem dJ7_fill_53178_4 : decode cJ7_fill_53178 4 = .ok (.istore_n 3, 1) := by decide +kernel
theorem dJ7_fill_53178_5 : decode cJ7_fill_53178 5 = .ok (.iload_n 2, 1) := by decide +kernel
theorem dJ7_fill_53178_6 : decode cJ7_fill_53178 6 = .ok (.iload_n 3, 1) := by decide +kernel
theorem dJ7_fill_53178_7 : decode cJ7_fill_53178 7 = .ok (.if_icmp .ge 13, 3) := by decide +kernel
theorem dJ7_fill_53178_10 : decode cJ7_fill_53178 10 = .ok (.aload_n 0, 1) := by decide +kernel
theorem dJ7_fill_53178_11 : decode cJ7_fill_53178 11 = .ok (.iload_n 2, 1) := by decide +kernel
theorem dJ7_fill_53178_12 : decode cJ7_fill_53178 12 = .ok (.iload_n 1, 1) := by decide +kernel
theorem dJ7_fill_53178_13 : decode cJ7_fill_53178 13 = .ok (.iastore, 1) := by decide +kernel
theorem dJ7_fill_53178_14 : decode cJ7_fill_53178 14 = .ok (.iinc 2 1, 3) := by decide +kernel
theorem dJ7_fill_53178_17 : decode cJ7_fill_53178 17 = .ok (.goto (-12), 3) := by decide +kernel
theorem dJ7_fill_53178_20 : decode cJ7_fill_53178 20 = .ok (.return_, 1) := by decide +kernel
