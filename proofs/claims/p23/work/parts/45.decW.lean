theorem dL_below_0 : decode cL_below 0 = .ok (.iload_n 0, 1) := by decide +kernel
theorem dL_below_1 : decode cL_below 1 = .ok (.ldc 7, 2) := by decide +kernel
theorem dL_below_3 : decode cL_below 3 = .ok (.iand, 1) := by decide +kernel
theorem dL_below_4 : decode cL_below 4 = .ok (.iload_n 1, 1) := by decide +kernel
theorem dL_below_5 : decode cL_below 5 = .ok (.irem, 1) := by decide +kernel
theorem dL_below_6 : decode cL_below 6 = .ok (.ireturn, 1) := by decide +kernel
theorem dL_cell_0 : decode cL_cell 0 = .ok (.iload_n 1, 1) := by decide +kernel
theorem dL_cell_1 : decode cL_cell 1 = .ok (.aload_n 0, 1) := by decide +kernel
theorem dL_cell_2 : decode cL_cell 2 = .ok (.arraylength, 1) := by decide +kernel
theorem dL_cell_3 : decode cL_cell 3 = .ok (.if_icmp .ge 9, 3) := by decide +kernel
theorem dL_cell_6 : decode cL_cell 6 = .ok (.aload_n 0, 1) := by decide +kernel
theorem dL_cell_7 : decode cL_cell 7 = .ok (.iload_n 1, 1) := by decide +kernel
theorem dL_cell_8 : decode cL_cell 8 = .ok (.iaload, 1) := by decide +kernel
theorem dL_cell_9 : decode cL_cell 9 = .ok (.goto 9, 3) := by decide +kernel
theorem dL_cell_12 : decode cL_cell 12 = .ok (.ldc 8, 2) := by decide +kernel
theorem dL_cell_14 : decode cL_cell 14 = .ok (.iload_n 1, 1) := by decide +kernel
theorem dL_cell_15 : decode cL_cell 15 = .ok (.iconst 3, 1) := by decide +kernel
theorem dL_cell_16 : decode cL_cell 16 = .ok (.iadd, 1) := by decide +kernel
theorem dL_cell_17 : decode cL_cell 17 = .ok (.imul, 1) := by decide +kernel
theorem dL_cell_18 : decode cL_cell 18 = .ok (.ireturn, 1) := by decide +kernel
set_option maxRecDepth 20000 in
theorem ggL_sticks_X1_init : GoodIn wsL_sticks wsX1_init := goodIn_r _ [6, 7, 8, 9, 10, 11, 12, 13, 218, 219, 220] (by decide +kernel) (by decide +kernel)
set_option maxRecDepth 20000 in
theorem gL_sticks_X1_init : GoodIn wsL_sticks (wsX1_init) := ggL_sticks_X1_init
set_option maxRecDepth 20000 in
theorem ggL_sticks_L_cell : GoodIn wsL_sticks wsL_cell := goodIn_r _ [17, 18] (by decide +kernel) (by decide +kernel)
set_option maxRecDepth 20000 in
theorem gL_sticks_L_cell : GoodIn wsL_sticks (va_wsS RL 12 yL_cell wsL_cell) := goodIn_app (goodIn_of _ (by decide +kernel)) ggL_sticks_L_cell
set_option maxRecDepth 20000 in
theorem ggL_sticks_L_below : GoodIn wsL_sticks wsL_below := goodIn_r _ [21, 22] (by decide +kernel) (by decide +kernel)
set_option maxRecDepth 20000 in
theorem gL_sticks_L_below : GoodIn wsL_sticks (va_wsS RL 18 yL_below wsL_below) := goodIn_app (goodIn_of _ (by decide +kernel)) ggL_sticks_L_below
set_option maxRecDepth 20000 in
theorem ggL_sticks_X1_make : GoodIn wsL_sticks wsX1_make := goodIn_ca (goodIn_ca (goodIn_r _ [26, 27, 28, 29, 30, 10, 31, 32, 33, 34, 35, 3, 36, 12, 37, 38, 39, 40, 41, 42, 43, 44, 45, 11, 46, 47, 48, 49, 50, 51, 52, 53, 8, 9, 54, 55, 56, 57, 58, 59, 60, 61, 62, 63, 64, 65, 66, 67, 68, 69, 70, 71, 221, 222, 223, 224, 225, 226, 227, 228, 218, 219, 220] (by decide +kernel) (by decide +kernel)) (goodIn_sub (fun _ h => List.mem_cons_of_mem _ (List.mem_append_left _ (List.mem_append_left _ (List.mem_append_right _ h)))) (by decide +kernel))) (goodIn_sub (fun _ h => List.mem_cons_of_mem _ (List.mem_append_left _ (List.mem_append_right _ h))) (by decide +kernel))
set_option maxRecDepth 20000 in
theorem gL_sticks_X1_make : GoodIn wsL_sticks (wsV RL 22 RX1 yX1_make wsX1_make) := goodIn_app (goodIn_of _ (by decide +kernel)) ggL_sticks_X1_make
set_option maxRecDepth 20000 in
theorem ggL_sticks_X1_count : GoodIn wsL_sticks wsX1_count := goodIn_ca (goodIn_r _ [75, 76, 77, 78, 79, 80, 3, 81, 12, 13, 33, 34, 35, 36, 37, 38, 39, 40, 41, 42, 43, 44, 45, 11, 82, 83, 84, 85, 86, 87, 88, 32, 89, 54, 55, 56, 57, 58, 90, 91, 92, 93, 94, 95, 96, 97, 98, 99, 100, 101, 60, 102, 103, 104, 105, 106, 107, 108, 109, 110, 111, 112, 113, 63, 114, 115, 116, 117, 118, 119, 120, 121, 122, 123, 124, 125, 126, 127, 128, 129, 218, 219, 220, 221, 222, 223, 224, 225, 226, 227, 228] (by decide +kernel) (by decide +kernel)) (goodIn_sub (fun _ h => List.mem_cons_of_mem _ (List.mem_append_right _ h)) (by decide +kernel))
set_option maxRecDepth 20000 in
theorem gL_sticks_X1_count : GoodIn wsL_sticks (wsV RL 26 RX1 yX1_count wsX1_count) := goodIn_app (goodIn_of _ (by decide +kernel)) ggL_sticks_X1_count
set_option maxRecDepth 20000 in
theorem ggL_sticks_X1_stick : GoodIn wsL_sticks wsX1_stick := goodIn_ca (goodIn_r _ [133, 76, 77, 134, 135, 136, 3, 137, 42, 43, 44, 45, 11, 86, 87, 88, 32, 89, 54, 55, 56, 57, 58, 90, 91, 92, 93, 94, 95, 96, 97, 98, 99, 100, 101, 60, 102, 103, 104, 105, 106, 107, 108, 109, 110, 111, 112, 113, 63, 114, 115, 116, 117, 218, 219, 220, 221, 222, 223, 224, 225, 226, 227, 228] (by decide +kernel) (by decide +kernel)) (goodIn_sub (fun _ h => List.mem_cons_of_mem _ (List.mem_append_right _ h)) (by decide +kernel))
set_option maxRecDepth 20000 in
theorem gL_sticks_X1_stick : GoodIn wsL_sticks (wsV RL 29 RX1 yX1_stick wsX1_stick) := goodIn_app (goodIn_of _ (by decide +kernel)) ggL_sticks_X1_stick
set_option maxRecDepth 20000 in
theorem ggL_sticks_X1_roll : GoodIn wsL_sticks wsX1_roll := goodIn_ca (goodIn_ca (goodIn_ca (goodIn_r _ [141, 27, 28, 142, 134, 135, 136, 3, 137, 76, 77, 42, 43, 44, 45, 11, 143, 144, 145, 29, 30, 41, 221, 222, 223, 224, 225, 226, 227, 228, 218, 219, 220] (by decide +kernel) (by decide +kernel)) (goodIn_sub (fun _ h => List.mem_cons_of_mem _ (List.mem_append_left _ (List.mem_append_left _ (List.mem_append_right _ h)))) (by decide +kernel))) (goodIn_sub (fun _ h => List.mem_cons_of_mem _ (List.mem_append_right _ h)) (by decide +kernel))) (goodIn_sub (fun _ h => List.mem_cons_of_mem _ (List.mem_append_left _ (List.mem_append_right _ h))) (by decide +kernel))
set_option maxRecDepth 20000 in
theorem gL_sticks_X1_roll : GoodIn wsL_sticks (wsV RL 32 RX1 yX1_roll wsX1_roll) := goodIn_app (goodIn_of _ (by decide +kernel)) ggL_sticks_X1_roll
set_option maxRecDepth 20000 in
theorem ggL_sticks_L_bend : GoodIn wsL_sticks wsL_bend := goodIn_ca (goodIn_ca (goodIn_ca (goodIn_r _ [148, 149, 150, 151, 152, 3, 153, 29, 30, 134, 135, 136, 137, 76, 77, 42, 43, 44, 45, 11, 154, 155, 156, 27, 28, 143, 144, 145, 41, 157, 158, 159, 32, 160, 54, 161, 162, 163, 164, 165, 166, 167, 168, 169, 170, 171, 172, 61, 114, 115, 116, 117, 94, 95, 96, 97, 98, 99, 100, 101, 60, 102, 103, 104, 105, 173, 33, 34, 35, 36, 12, 37, 38, 39, 40, 46, 47, 48, 49, 174, 175, 176, 177, 10, 31, 142, 178, 13, 179, 180, 50, 51, 52, 53, 8, 9, 55, 56, 57, 58, 59, 62, 63, 64, 65, 66, 67, 181, 182, 183, 184, 185, 186, 187, 188, 110, 111, 112, 113, 189, 190, 191, 192, 68, 69, 70, 71, 218, 219, 220, 221, 222, 223, 224, 225, 226, 227, 228] (by decide +kernel) (by decide +kernel)) (goodIn_sub (fun _ h => List.mem_cons_of_mem _ (List.mem_append_left _ (List.mem_append_right _ h))) (by decide +kernel))) (goodIn_sub (fun _ h => List.mem_cons_of_mem _ (List.mem_append_right _ h)) (by decide +kernel))) (goodIn_sub (fun _ h => List.mem_cons_of_mem _ (List.mem_append_left _ (List.mem_append_left _ (List.mem_append_right _ h)))) (by decide +kernel))
set_option maxRecDepth 20000 in
theorem gL_sticks_L_bend : GoodIn wsL_sticks (va_wsS RL 35 yL_bend wsL_bend) := goodIn_app (goodIn_of _ (by decide +kernel)) ggL_sticks_L_bend
set_option maxRecDepth 20000 in
theorem ggL_sticks_L_glue : GoodIn wsL_sticks wsL_glue := goodIn_ca (goodIn_ca (goodIn_ca (goodIn_r _ [195, 149, 196, 197, 198, 3, 199, 27, 28, 29, 30, 180, 134, 135, 136, 137, 76, 77, 42, 43, 44, 45, 11, 143, 144, 145, 41, 46, 47, 48, 49, 12, 200, 201, 202, 203, 10, 31, 32, 142, 178, 179, 126, 127, 128, 129, 57, 56, 50, 51, 52, 53, 8, 9, 54, 55, 58, 59, 60, 61, 62, 63, 64, 65, 66, 67, 181, 182, 183, 184, 98, 99, 100, 101, 102, 103, 104, 105, 185, 186, 187, 188, 169, 170, 171, 172, 114, 115, 116, 117, 110, 111, 112, 113, 189, 190, 191, 192, 204, 68, 69, 70, 71, 221, 222, 223, 224, 225, 226, 227, 228, 218, 219, 220] (by decide +kernel) (by decide +kernel)) (goodIn_sub (fun _ h => List.mem_cons_of_mem _ (List.mem_append_left _ (List.mem_append_left _ (List.mem_append_right _ h)))) (by decide +kernel))) (goodIn_sub (fun _ h => List.mem_cons_of_mem _ (List.mem_append_left _ (List.mem_append_right _ h))) (by decide +kernel))) (goodIn_sub (fun _ h => List.mem_cons_of_mem _ (List.mem_append_right _ h)) (by decide +kernel))
set_option maxRecDepth 20000 in
theorem gL_sticks_L_glue : GoodIn wsL_sticks (va_wsS RL 39 yL_glue wsL_glue) := goodIn_app (goodIn_of _ (by decide +kernel)) ggL_sticks_L_glue
set_option maxRecDepth 20000 in
theorem ggL_sticks_X1_carve : GoodIn wsL_sticks wsX1_carve := goodIn_ca (goodIn_ca (goodIn_ca (goodIn_r _ [208, 134, 135, 136, 3, 137, 76, 77, 42, 43, 44, 45, 11, 209, 210, 211, 212, 103, 104, 32, 105, 54, 213, 214, 215, 27, 28, 143, 144, 145, 29, 30, 41, 216, 99, 100, 101, 60, 102, 217, 186, 187, 188, 218, 219, 220, 221, 222, 223, 224, 225, 226, 227, 228] (by decide +kernel) (by decide +kernel)) (goodIn_sub (fun _ h => List.mem_cons_of_mem _ (List.mem_append_right _ h)) (by decide +kernel))) (goodIn_sub (fun _ h => List.mem_cons_of_mem _ (List.mem_append_left _ (List.mem_append_left _ (List.mem_append_right _ h)))) (by decide +kernel))) (goodIn_sub (fun _ h => List.mem_cons_of_mem _ (List.mem_append_left _ (List.mem_append_right _ h))) (by decide +kernel))
set_option maxRecDepth 20000 in
theorem gL_sticks_X1_carve : GoodIn wsL_sticks (wsV RL 43 RX1 yX1_carve wsX1_carve) := goodIn_app (goodIn_of _ (by decide +kernel)) ggL_sticks_X1_carve
theorem dL_sticks_0 : decode cL_sticks 0 = .ok (.new 9, 3) := by decide +kernel
theorem dL_sticks_3 : decode cL_sticks 3 = .ok (.dup, 1) := by decide +kernel
theorem dL_sticks_4 : decode cL_sticks 4 = .ok (.invokespecial 11, 3) := by decide +kernel
theorem dL_sticks_7 : decode cL_sticks 7 = .ok (.astore_n 1, 1) := by decide +kernel
theorem dL_sticks_8 : decode cL_sticks 8 = .ok (.iconst 1, 1) := by decide +kernel
theorem dL_sticks_9 : decode cL_sticks 9 = .ok (.aload_n 0, 1) := by decide +kernel
theorem dL_sticks_10 : decode cL_sticks 10 = .ok (.iconst 0, 1) := by decide +kernel
theorem dL_sticks_11 : decode cL_sticks 11 = .ok (.invokestatic 12, 3) := by decide +kernel
theorem dL_sticks_14 : decode cL_sticks 14 = .ok (.bipush 8, 2) := by decide +kernel
theorem dL_sticks_16 : decode cL_sticks 16 = .ok (.invokestatic 18, 3) := by decide +kernel
theorem dL_sticks_19 : decode cL_sticks 19 = .ok (.iadd, 1) := by decide +kernel
theorem dL_sticks_20 : decode cL_sticks 20 = .ok (.istore_n 2, 1) := by decide +kernel
theorem dL_sticks_21 : decode cL_sticks 21 = .ok (.iconst 0, 1) := by decide +kernel
theorem dL_sticks_22 : decode cL_sticks 22 = .ok (.istore_n 3, 1) := by decide +kernel
theorem dL_sticks_23 : decode cL_sticks 23 = .ok (.iload_n 3, 1) := by decide +kernel
theorem dL_sticks_24 : decode cL_sticks 24 = .ok (.iload_n 2, 1) := by decide +kernel
theorem dL_sticks_25 : decode cL_sticks 25 = .ok (.if_icmp .ge 30, 3) := by decide +kernel
theorem dL_sticks_28 : decode cL_sticks 28 = .ok (.aload_n 1, 1) := by decide +kernel
theorem dL_sticks_29 : decode cL_sticks 29 = .ok (.iconst 1, 1) := by decide +kernel
theorem dL_sticks_30 : decode cL_sticks 30 = .ok (.aload_n 0, 1) := by decide +kernel
theorem dL_sticks_31 : decode cL_sticks 31 = .ok (.iconst 1, 1) := by decide +kernel
theorem dL_sticks_32 : decode cL_sticks 32 = .ok (.invokestatic 12, 3) := by decide +kernel
theorem dL_sticks_35 : decode cL_sticks 35 = .ok (.iconst 2, 1) := by decide +kernel
theorem dL_sticks_36 : decode cL_sticks 36 = .ok (.iload_n 3, 1) := by decide +kernel
theorem dL_sticks_37 : decode cL_sticks 37 = .ok (.imul, 1) := by decide +kernel
theorem dL_sticks_38 : decode cL_sticks 38 = .ok (.ishr, 1) := by decide +kernel
theorem dL_sticks_39 : decode cL_sticks 39 = .ok (.bipush 12, 2) := by decide +kernel
theorem dL_sticks_41 : decode cL_sticks 41 = .ok (.invokestatic 18, 3) := by decide +kernel
theorem dL_sticks_44 : decode cL_sticks 44 = .ok (.iadd, 1) := by decide +kernel
theorem dL_sticks_45 : decode cL_sticks 45 = .ok (.invokevirtual 22, 3) := by decide +kernel
theorem dL_sticks_48 : decode cL_sticks 48 = .ok (.pop, 1) := by decide +kernel
theorem dL_sticks_49 : decode cL_sticks 49 = .ok (.iinc 3 1, 3) := by decide +kernel
theorem dL_sticks_52 : decode cL_sticks 52 = .ok (.goto (-29), 3) := by decide +kernel
theorem dL_sticks_55 : decode cL_sticks 55 = .ok (.aload_n 0, 1) := by decide +kernel
theorem dL_sticks_56 : decode cL_sticks 56 = .ok (.iconst 2, 1) := by decide +kernel
theorem dL_sticks_57 : decode cL_sticks 57 = .ok (.invokestatic 12, 3) := by decide +kernel
theorem dL_sticks_60 : decode cL_sticks 60 = .ok (.iconst 3, 1) := by decide +kernel
theorem dL_sticks_61 : decode cL_sticks 61 = .ok (.invokestatic 18, 3) := by decide +kernel
theorem dL_sticks_64 : decode cL_sticks 64 = .ok (.ifCond .le 7, 3) := by decide +kernel
theorem dL_sticks_67 : decode cL_sticks 67 = .ok (.iconst 1, 1) := by decide +kernel
theorem dL_sticks_68 : decode cL_sticks 68 = .ok (.goto 4, 3) := by decide +kernel
theorem dL_sticks_71 : decode cL_sticks 71 = .ok (.iconst 0, 1) := by decide +kernel
theorem dL_sticks_72 : decode cL_sticks 72 = .ok (.istore_n 3, 1) := by decide +kernel
theorem dL_sticks_73 : decode cL_sticks 73 = .ok (.iconst 0, 1) := by decide +kernel
theorem dL_sticks_74 : decode cL_sticks 74 = .ok (.istore 4, 2) := by decide +kernel
theorem dL_sticks_76 : decode cL_sticks 76 = .ok (.iload 4, 2) := by decide +kernel
theorem dL_sticks_78 : decode cL_sticks 78 = .ok (.bipush 60, 2) := by decide +kernel
theorem dL_sticks_80 : decode cL_sticks 80 = .ok (.if_icmp .ge 276, 3) := by decide +kernel
theorem dL_sticks_83 : decode cL_sticks 83 = .ok (.aload_n 0, 1) := by decide +kernel
theorem dL_sticks_84 : decode cL_sticks 84 = .ok (.iconst 3, 1) := by decide +kernel
theorem dL_sticks_85 : decode cL_sticks 85 = .ok (.iload 4, 2) := by decide +kernel
theorem dL_sticks_87 : decode cL_sticks 87 = .ok (.bipush 11, 2) := by decide +kernel
theorem dL_sticks_89 : decode cL_sticks 89 = .ok (.irem, 1) := by decide +kernel
theorem dL_sticks_90 : decode cL_sticks 90 = .ok (.iadd, 1) := by decide +kernel
theorem dL_sticks_91 : decode cL_sticks 91 = .ok (.invokestatic 12, 3) := by decide +kernel
theorem dL_sticks_94 : decode cL_sticks 94 = .ok (.iload 4, 2) := by decide +kernel
theorem dL_sticks_96 : decode cL_sticks 96 = .ok (.bipush 11, 2) := by decide +kernel
theorem dL_sticks_98 : decode cL_sticks 98 = .ok (.idiv, 1) := by decide +kernel
theorem dL_sticks_99 : decode cL_sticks 99 = .ok (.iconst 3, 1) := by decide +kernel
theorem dL_sticks_100 : decode cL_sticks 100 = .ok (.imul, 1) := by decide +kernel
theorem dL_sticks_101 : decode cL_sticks 101 = .ok (.ishr, 1) := by decide +kernel
theorem dL_sticks_102 : decode cL_sticks 102 = .ok (.bipush 41, 2) := by decide +kernel
theorem dL_sticks_104 : decode cL_sticks 104 = .ok (.iload 4, 2) := by decide +kernel
theorem dL_sticks_106 : decode cL_sticks 106 = .ok (.imul, 1) := by decide +kernel
theorem dL_sticks_107 : decode cL_sticks 107 = .ok (.iadd, 1) := by decide +kernel
theorem dL_sticks_108 : decode cL_sticks 108 = .ok (.istore 5, 2) := by decide +kernel
theorem dL_sticks_110 : decode cL_sticks 110 = .ok (.aload_n 1, 1) := by decide +kernel
theorem dL_sticks_111 : decode cL_sticks 111 = .ok (.iconst 1, 1) := by decide +kernel
theorem dL_sticks_112 : decode cL_sticks 112 = .ok (.invokevirtual 26, 3) := by decide +kernel
theorem dL_sticks_115 : decode cL_sticks 115 = .ok (.istore 6, 2) := by decide +kernel
theorem dL_sticks_117 : decode cL_sticks 117 = .ok (.iload 5, 2) := by decide +kernel
theorem dL_sticks_119 : decode cL_sticks 119 = .ok (.iload 6, 2) := by decide +kernel
theorem dL_sticks_121 : decode cL_sticks 121 = .ok (.invokestatic 18, 3) := by decide +kernel
theorem dL_sticks_124 : decode cL_sticks 124 = .ok (.istore 7, 2) := by decide +kernel
theorem dL_sticks_126 : decode cL_sticks 126 = .ok (.iload 5, 2) := by decide +kernel
theorem dL_sticks_128 : decode cL_sticks 128 = .ok (.iconst 3, 1) := by decide +kernel
theorem dL_sticks_129 : decode cL_sticks 129 = .ok (.ishr, 1) := by decide +kernel
theorem dL_sticks_130 : decode cL_sticks 130 = .ok (.iload 6, 2) := by decide +kernel
theorem dL_sticks_132 : decode cL_sticks 132 = .ok (.invokestatic 18, 3) := by decide +kernel
theorem dL_sticks_135 : decode cL_sticks 135 = .ok (.istore 8, 2) := by decide +kernel
theorem dL_sticks_137 : decode cL_sticks 137 = .ok (.aload_n 1, 1) := by decide +kernel
theorem dL_sticks_138 : decode cL_sticks 138 = .ok (.iload 7, 2) := by decide +kernel
theorem dL_sticks_140 : decode cL_sticks 140 = .ok (.bipush 6, 2) := by decide +kernel
theorem dL_sticks_142 : decode cL_sticks 142 = .ok (.invokevirtual 29, 3) := by decide +kernel
theorem dL_sticks_145 : decode cL_sticks 145 = .ok (.iconst 1, 1) := by decide +kernel
theorem dL_sticks_146 : decode cL_sticks 146 = .ok (.if_icmp .ne 9, 3) := by decide +kernel
theorem dL_sticks_149 : decode cL_sticks 149 = .ok (.iload 6, 2) := by decide +kernel
theorem dL_sticks_151 : decode cL_sticks 151 = .ok (.iconst 1, 1) := by decide +kernel
theorem dL_sticks_152 : decode cL_sticks 152 = .ok (.isub, 1) := by decide +kernel
theorem dL_sticks_153 : decode cL_sticks 153 = .ok (.istore 7, 2) := by decide +kernel
theorem dL_sticks_155 : decode cL_sticks 155 = .ok (.iload 5, 2) := by decide +kernel
theorem dL_sticks_157 : decode cL_sticks 157 = .ok (.bipush 6, 2) := by decide +kernel
theorem dL_sticks_159 : decode cL_sticks 159 = .ok (.ishr, 1) := by decide +kernel
theorem dL_sticks_160 : decode cL_sticks 160 = .ok (.bipush 9, 2) := by decide +kernel
theorem dL_sticks_162 : decode cL_sticks 162 = .ok (.invokestatic 18, 3) := by decide +kernel
theorem dL_sticks_165 : decode cL_sticks 165 = .ok (.tableswitch 108 0 2 #[27, 56, 77], 27) := by decide +kernel
theorem dL_sticks_192 : decode cL_sticks 192 = .ok (.aload_n 1, 1) := by decide +kernel
theorem dL_sticks_193 : decode cL_sticks 193 = .ok (.iload 7, 2) := by decide +kernel
theorem dL_sticks_195 : decode cL_sticks 195 = .ok (.bipush 6, 2) := by decide +kernel
theorem dL_sticks_197 : decode cL_sticks 197 = .ok (.invokevirtual 29, 3) := by decide +kernel
theorem dL_sticks_200 : decode cL_sticks 200 = .ok (.ifCond .ne 150, 3) := by decide +kernel
theorem dL_sticks_203 : decode cL_sticks 203 = .ok (.aload_n 1, 1) := by decide +kernel
theorem dL_sticks_204 : decode cL_sticks 204 = .ok (.iload 7, 2) := by decide +kernel
theorem dL_sticks_206 : decode cL_sticks 206 = .ok (.iload 5, 2) := by decide +kernel
theorem dL_sticks_208 : decode cL_sticks 208 = .ok (.iconst 4, 1) := by decide +kernel
theorem dL_sticks_209 : decode cL_sticks 209 = .ok (.ishr, 1) := by decide +kernel
theorem dL_sticks_210 : decode cL_sticks 210 = .ok (.iconst 3, 1) := by decide +kernel
theorem dL_sticks_211 : decode cL_sticks 211 = .ok (.invokestatic 18, 3) := by decide +kernel
theorem dL_sticks_214 : decode cL_sticks 214 = .ok (.invokevirtual 32, 3) := by decide +kernel
theorem dL_sticks_217 : decode cL_sticks 217 = .ok (.pop, 1) := by decide +kernel
theorem dL_sticks_218 : decode cL_sticks 218 = .ok (.goto 132, 3) := by decide +kernel
theorem dL_sticks_221 : decode cL_sticks 221 = .ok (.aload_n 1, 1) := by decide +kernel
theorem dL_sticks_222 : decode cL_sticks 222 = .ok (.iload 7, 2) := by decide +kernel
theorem dL_sticks_224 : decode cL_sticks 224 = .ok (.iconst 1, 1) := by decide +kernel
theorem dL_sticks_225 : decode cL_sticks 225 = .ok (.iload 5, 2) := by decide +kernel
theorem dL_sticks_227 : decode cL_sticks 227 = .ok (.iconst 4, 1) := by decide +kernel
theorem dL_sticks_228 : decode cL_sticks 228 = .ok (.ishr, 1) := by decide +kernel
theorem dL_sticks_229 : decode cL_sticks 229 = .ok (.bipush 20, 2) := by decide +kernel
theorem dL_sticks_231 : decode cL_sticks 231 = .ok (.invokestatic 18, 3) := by decide +kernel
theorem dL_sticks_234 : decode cL_sticks 234 = .ok (.iadd, 1) := by decide +kernel
theorem dL_sticks_235 : decode cL_sticks 235 = .ok (.invokestatic 35, 3) := by decide +kernel
theorem dL_sticks_238 : decode cL_sticks 238 = .ok (.pop, 1) := by decide +kernel
theorem dL_sticks_239 : decode cL_sticks 239 = .ok (.goto 111, 3) := by decide +kernel
theorem dL_sticks_242 : decode cL_sticks 242 = .ok (.aload_n 1, 1) := by decide +kernel
theorem dL_sticks_243 : decode cL_sticks 243 = .ok (.iload 7, 2) := by decide +kernel
theorem dL_sticks_245 : decode cL_sticks 245 = .ok (.iload 8, 2) := by decide +kernel
theorem dL_sticks_247 : decode cL_sticks 247 = .ok (.iload 5, 2) := by decide +kernel
theorem dL_sticks_249 : decode cL_sticks 249 = .ok (.iconst 4, 1) := by decide +kernel
theorem dL_sticks_250 : decode cL_sticks 250 = .ok (.ishr, 1) := by decide +kernel
theorem dL_sticks_251 : decode cL_sticks 251 = .ok (.iconst 3, 1) := by decide +kernel
theorem dL_sticks_252 : decode cL_sticks 252 = .ok (.invokestatic 18, 3) := by decide +kernel
theorem dL_sticks_255 : decode cL_sticks 255 = .ok (.iconst 1, 1) := by decide +kernel
theorem dL_sticks_256 : decode cL_sticks 256 = .ok (.iload 5, 2) := by decide +kernel
theorem dL_sticks_258 : decode cL_sticks 258 = .ok (.iconst 5, 1) := by decide +kernel
theorem dL_sticks_259 : decode cL_sticks 259 = .ok (.ishr, 1) := by decide +kernel
theorem dL_sticks_260 : decode cL_sticks 260 = .ok (.bipush 9, 2) := by decide +kernel
theorem dL_sticks_262 : decode cL_sticks 262 = .ok (.invokestatic 18, 3) := by decide +kernel
theorem dL_sticks_265 : decode cL_sticks 265 = .ok (.iadd, 1) := by decide +kernel
theorem dL_sticks_266 : decode cL_sticks 266 = .ok (.invokestatic 39, 3) := by decide +kernel
theorem dL_sticks_269 : decode cL_sticks 269 = .ok (.pop, 1) := by decide +kernel
theorem dL_sticks_270 : decode cL_sticks 270 = .ok (.goto 80, 3) := by decide +kernel
theorem dL_sticks_273 : decode cL_sticks 273 = .ok (.aload_n 1, 1) := by decide +kernel
theorem dL_sticks_274 : decode cL_sticks 274 = .ok (.iload 7, 2) := by decide +kernel
theorem dL_sticks_276 : decode cL_sticks 276 = .ok (.bipush 6, 2) := by decide +kernel
theorem dL_sticks_278 : decode cL_sticks 278 = .ok (.invokevirtual 29, 3) := by decide +kernel
theorem dL_sticks_281 : decode cL_sticks 281 = .ok (.ifCond .ne 69, 3) := by decide +kernel
theorem dL_sticks_284 : decode cL_sticks 284 = .ok (.aload_n 1, 1) := by decide +kernel
theorem dL_sticks_285 : decode cL_sticks 285 = .ok (.iload 7, 2) := by decide +kernel
theorem dL_sticks_287 : decode cL_sticks 287 = .ok (.iload 5, 2) := by decide +kernel
theorem dL_sticks_289 : decode cL_sticks 289 = .ok (.iconst 2, 1) := by decide +kernel
theorem dL_sticks_290 : decode cL_sticks 290 = .ok (.ishr, 1) := by decide +kernel
theorem dL_sticks_291 : decode cL_sticks 291 = .ok (.iconst 3, 1) := by decide +kernel
theorem dL_sticks_292 : decode cL_sticks 292 = .ok (.invokestatic 18, 3) := by decide +kernel
theorem dL_sticks_295 : decode cL_sticks 295 = .ok (.iload 5, 2) := by decide +kernel
theorem dL_sticks_297 : decode cL_sticks 297 = .ok (.iconst 5, 1) := by decide +kernel
theorem dL_sticks_298 : decode cL_sticks 298 = .ok (.ishr, 1) := by decide +kernel
theorem dL_sticks_299 : decode cL_sticks 299 = .ok (.aload_n 1, 1) := by decide +kernel
theorem dL_sticks_300 : decode cL_sticks 300 = .ok (.iload 7, 2) := by decide +kernel
theorem dL_sticks_302 : decode cL_sticks 302 = .ok (.iconst 0, 1) := by decide +kernel
theorem dL_sticks_303 : decode cL_sticks 303 = .ok (.invokevirtual 29, 3) := by decide +kernel
theorem dL_sticks_306 : decode cL_sticks 306 = .ok (.invokestatic 18, 3) := by decide +kernel
theorem dL_sticks_309 : decode cL_sticks 309 = .ok (.iload_n 3, 1) := by decide +kernel
theorem dL_sticks_310 : decode cL_sticks 310 = .ok (.ifCond .eq 27, 3) := by decide +kernel
theorem dL_sticks_313 : decode cL_sticks 313 = .ok (.bipush 8, 2) := by decide +kernel
theorem dL_sticks_315 : decode cL_sticks 315 = .ok (.iload 5, 2) := by decide +kernel
theorem dL_sticks_317 : decode cL_sticks 317 = .ok (.bipush 7, 2) := by decide +kernel
theorem dL_sticks_319 : decode cL_sticks 319 = .ok (.ishr, 1) := by decide +kernel
theorem dL_sticks_320 : decode cL_sticks 320 = .ok (.iconst 3, 1) := by decide +kernel
theorem dL_sticks_321 : decode cL_sticks 321 = .ok (.invokestatic 18, 3) := by decide +kernel
theorem dL_sticks_324 : decode cL_sticks 324 = .ok (.imul, 1) := by decide +kernel
theorem dL_sticks_325 : decode cL_sticks 325 = .ok (.iload 5, 2) := by decide +kernel
theorem dL_sticks_327 : decode cL_sticks 327 = .ok (.iconst 4, 1) := by decide +kernel
theorem dL_sticks_328 : decode cL_sticks 328 = .ok (.ishr, 1) := by decide +kernel
theorem dL_sticks_329 : decode cL_sticks 329 = .ok (.iconst 2, 1) := by decide +kernel
theorem dL_sticks_330 : decode cL_sticks 330 = .ok (.invokestatic 18, 3) := by decide +kernel
theorem dL_sticks_333 : decode cL_sticks 333 = .ok (.iadd, 1) := by decide +kernel
theorem dL_sticks_334 : decode cL_sticks 334 = .ok (.goto 12, 3) := by decide +kernel
theorem dL_sticks_337 : decode cL_sticks 337 = .ok (.iload 5, 2) := by decide +kernel
theorem dL_sticks_339 : decode cL_sticks 339 = .ok (.iconst 4, 1) := by decide +kernel
theorem dL_sticks_340 : decode cL_sticks 340 = .ok (.ishr, 1) := by decide +kernel
theorem dL_sticks_341 : decode cL_sticks 341 = .ok (.bipush 24, 2) := by decide +kernel
theorem dL_sticks_343 : decode cL_sticks 343 = .ok (.invokestatic 18, 3) := by decide +kernel
theorem dL_sticks_346 : decode cL_sticks 346 = .ok (.invokevirtual 43, 3) := by decide +kernel
theorem dL_sticks_349 : decode cL_sticks 349 = .ok (.pop, 1) := by decide +kernel
theorem dL_sticks_350 : decode cL_sticks 350 = .ok (.iinc 4 1, 3) := by decide +kernel
theorem dL_sticks_353 : decode cL_sticks 353 = .ok (.goto (-277), 3) := by decide +kernel
theorem dL_sticks_356 : decode cL_sticks 356 = .ok (.aload_n 1, 1) := by decide +kernel
theorem dL_sticks_357 : decode cL_sticks 357 = .ok (.areturn, 1) := by decide +kernel
set_option maxRecDepth 20000 in
theorem ggL_bend_X1_bend : GoodIn wsL_bend wsX1_bend := goodIn_ca (goodIn_ca (goodIn_ca (goodIn_r _ [6, 7, 8, 9, 10, 11, 5, 12, 13, 14, 15, 16, 17, 18, 19, 20, 21, 22, 23, 24, 25, 26, 27, 28, 29, 30, 31, 32, 33, 34, 35, 36, 37, 38, 39, 40, 41, 42, 43, 44, 45, 46, 47, 48, 49, 50, 51, 52, 53, 54, 55, 56, 57, 58, 59, 60, 61, 62, 63, 64, 65, 66, 67, 68, 69, 70, 71, 72, 73, 74, 75, 76, 77, 78, 79, 80, 81, 82, 83, 84, 85, 86, 87, 88, 89, 90, 91, 92, 93, 94, 95, 96, 97, 98, 99, 100, 101, 102, 103, 104, 105, 106, 107, 108, 109, 110, 111, 112, 113, 114, 115, 116, 117, 118, 119, 120, 121, 122, 123, 124, 125, 126, 127, 128, 129, 130, 131, 132, 133, 134, 135, 136, 137] (by decide +kernel) (by decide +kernel)) (goodIn_sub (fun _ h => List.mem_cons_of_mem _ (List.mem_append_left _ (List.mem_append_left _ (List.mem_append_right _ h)))) (by decide +kernel))) (goodIn_sub (fun _ h => List.mem_cons_of_mem _ (List.mem_append_left _ (List.mem_append_right _ h))) (by decide +kernel))) (goodIn_sub (fun _ h => List.mem_cons_of_mem _ (List.mem_append_right _ h)) (by decide +kernel))
set_option maxRecDepth 20000 in
theorem gL_bend_X1_bend : GoodIn wsL_bend (wsV RL 47 RX1 yX1_bend wsX1_bend) := goodIn_app (goodIn_of _ (by decide +kernel)) ggL_bend_X1_bend
theorem dL_bend_0 : decode cL_bend 0 = .ok (.aload_n 0, 1) := by decide +kernel
theorem dL_bend_1 : decode cL_bend 1 = .ok (.iload_n 1, 1) := by decide +kernel
theorem dL_bend_2 : decode cL_bend 2 = .ok (.iload_n 2, 1) := by decide +kernel
theorem dL_bend_3 : decode cL_bend 3 = .ok (.invokevirtual 47, 3) := by decide +kernel
theorem dL_bend_6 : decode cL_bend 6 = .ok (.ireturn, 1) := by decide +kernel
theorem dL_bend_7 : decode cL_bend 7 = .ok (.astore_n 3, 1) := by decide +kernel
theorem dL_bend_8 : decode cL_bend 8 = .ok (.bipush (-2), 2) := by decide +kernel
theorem dL_bend_10 : decode cL_bend 10 = .ok (.ireturn, 1) := by decide +kernel
set_option maxRecDepth 20000 in
theorem ggL_glue_X1_glue : GoodIn wsL_glue wsX1_glue := goodIn_ca (goodIn_ca (goodIn_ca (goodIn_r _ [6, 7, 8, 9, 10, 11, 12, 13, 14, 5, 15, 16, 17, 18, 19, 20, 21, 22, 23, 24, 25, 26, 27, 28, 29, 30, 31, 32, 33, 34, 35, 36, 37, 38, 39, 40, 41, 42, 43, 44, 45, 46, 47, 48, 49, 50, 51, 52, 53, 54, 55, 56, 57, 58, 59, 60, 61, 62, 63, 64, 65, 66, 67, 68, 69, 70, 71, 72, 73, 74, 75, 76, 77, 78, 79, 80, 81, 82, 83, 84, 85, 86, 87, 88, 89, 90, 91, 92, 93, 94, 95, 96, 97, 98, 99, 100, 101, 102, 103, 104, 105, 106, 107, 108, 109, 110, 111, 112, 113] (by decide +kernel) (by decide +kernel)) (goodIn_sub (fun _ h => List.mem_cons_of_mem _ (List.mem_append_left _ (List.mem_append_left _ (List.mem_append_right _ h)))) (by decide +kernel))) (goodIn_sub (fun _ h => List.mem_cons_of_mem _ (List.mem_append_left _ (List.mem_append_right _ h))) (by decide +kernel))) (goodIn_sub (fun _ h => List.mem_cons_of_mem _ (List.mem_append_right _ h)) (by decide +kernel))
set_option maxRecDepth 20000 in
theorem gL_glue_X1_glue : GoodIn wsL_glue (wsV RL 51 RX1 yX1_glue wsX1_glue) := goodIn_app (goodIn_of _ (by decide +kernel)) ggL_glue_X1_glue
theorem dL_glue_0 : decode cL_glue 0 = .ok (.aload_n 0, 1) := by decide +kernel
theorem dL_glue_1 : decode cL_glue 1 = .ok (.iload_n 1, 1) := by decide +kernel
theorem dL_glue_2 : decode cL_glue 2 = .ok (.iload_n 2, 1) := by decide +kernel
theorem dL_glue_3 : decode cL_glue 3 = .ok (.iload_n 3, 1) := by decide +kernel
theorem dL_glue_4 : decode cL_glue 4 = .ok (.iload 4, 2) := by decide +kernel
theorem dL_glue_6 : decode cL_glue 6 = .ok (.invokevirtual 51, 3) := by decide +kernel
theorem dL_glue_9 : decode cL_glue 9 = .ok (.ireturn, 1) := by decide +kernel
theorem dL_glue_10 : decode cL_glue 10 = .ok (.astore 5, 2) := by decide +kernel
theorem dL_glue_12 : decode cL_glue 12 = .ok (.iconst (-1), 1) := by decide +kernel
theorem dL_glue_13 : decode cL_glue 13 = .ok (.ireturn, 1) := by decide +kernel
set_option maxRecDepth 20000 in
theorem ggL_told_X1_stick : GoodIn wsL_told wsX1_stick := goodIn_ca (goodIn_r _ [6, 7, 8, 9, 10, 11, 5, 12, 13, 14, 15, 16, 17, 18, 19, 20, 21, 22, 23, 24, 25, 26, 27, 28, 29, 30, 31, 32, 33, 34, 35, 36, 37, 38, 39, 40, 41, 42, 43, 44, 45, 46, 47, 48, 49, 50, 51, 52, 53, 54, 55, 56, 57, 85, 86, 87, 88, 89, 90, 91, 92, 93, 94, 95] (by decide +kernel) (by decide +kernel)) (goodIn_sub (fun _ h => List.mem_cons_of_mem _ (List.mem_append_right _ h)) (by decide +kernel))
set_option maxRecDepth 20000 in
theorem gL_told_X1_stick : GoodIn wsL_told (wsV RL 29 RX1 yX1_stick wsX1_stick) := goodIn_app (goodIn_of _ (by decide +kernel)) ggL_told_X1_stick
set_option maxRecDepth 20000 in
theorem ggL_told_X1_rune : GoodIn wsL_told wsX1_rune := goodIn_ca (goodIn_r _ [61, 9, 10, 11, 5, 12, 7, 8, 13, 14, 15, 16, 17, 62, 63, 64, 65, 42, 43, 21, 44, 23, 66, 37, 38, 39, 40, 41, 85, 86, 87, 88, 89, 90, 91, 92, 93, 94, 95] (by decide +kernel) (by decide +kernel)) (goodIn_sub (fun _ h => List.mem_cons_of_mem _ (List.mem_append_right _ h)) (by decide +kernel))
set_option maxRecDepth 20000 in
theorem gL_told_X1_rune : GoodIn wsL_told (wsV RL 75 RX1 yX1_rune wsX1_rune) := goodIn_app (goodIn_of _ (by decide +kernel)) ggL_told_X1_rune
set_option maxRecDepth 20000 in
theorem ggL_told_X1_strength : GoodIn wsL_told wsX1_strength := goodIn_ca (goodIn_r _ [70, 7, 8, 9, 10, 11, 5, 12, 13, 14, 15, 16, 17, 71, 55, 56, 21, 57, 23, 72, 73, 74, 75, 76, 77, 78, 79, 80, 81, 82, 83, 84, 54, 32, 33, 34, 35, 36, 37, 38, 39, 40, 41, 42, 43, 44, 85, 86, 87, 88, 89, 90, 91, 92, 93, 94, 95] (by decide +kernel) (by decide +kernel)) (goodIn_sub (fun _ h => List.mem_cons_of_mem _ (List.mem_append_right _ h)) (by decide +kernel))
set_option maxRecDepth 20000 in
theorem gL_told_X1_strength : GoodIn wsL_told (wsV RL 72 RX1 yX1_strength wsX1_strength) := goodIn_app (goodIn_of _ (by decide +kernel)) ggL_told_X1_strength
theorem dL_told_0 : decode cL_told 0 = .ok (.bipush 60, 2) := by decide +kernel
theorem dL_told_2 : decode cL_told 2 = .ok (.newarray .int, 2) := by decide +kernel
theorem dL_told_4 : decode cL_told 4 = .ok (.astore_n 2, 1) := by decide +kernel
theorem dL_told_5 : decode cL_told 5 = .ok (.iconst 0, 1) := by decide +kernel
theorem dL_told_6 : decode cL_told 6 = .ok (.istore_n 3, 1) := by decide +kernel
theorem dL_told_7 : decode cL_told 7 = .ok (.iload_n 3, 1) := by decide +kernel
theorem dL_told_8 : decode cL_told 8 = .ok (.bipush 7, 2) := by decide +kernel
theorem dL_told_10 : decode cL_told 10 = .ok (.if_icmp .ge 18, 3) := by decide +kernel
theorem dL_told_13 : decode cL_told 13 = .ok (.aload_n 2, 1) := by decide +kernel
theorem dL_told_14 : decode cL_told 14 = .ok (.iload_n 3, 1) := by decide +kernel
theorem dL_told_15 : decode cL_told 15 = .ok (.aload_n 0, 1) := by decide +kernel
theorem dL_told_16 : decode cL_told 16 = .ok (.iload_n 1, 1) := by decide +kernel
theorem dL_told_17 : decode cL_told 17 = .ok (.iload_n 3, 1) := by decide +kernel
theorem dL_told_18 : decode cL_told 18 = .ok (.invokevirtual 29, 3) := by decide +kernel
theorem dL_told_21 : decode cL_told 21 = .ok (.iastore, 1) := by decide +kernel
theorem dL_told_22 : decode cL_told 22 = .ok (.iinc 3 1, 3) := by decide +kernel
theorem dL_told_25 : decode cL_told 25 = .ok (.goto (-18), 3) := by decide +kernel
theorem dL_told_28 : decode cL_told 28 = .ok (.iconst 0, 1) := by decide +kernel
theorem dL_told_29 : decode cL_told 29 = .ok (.istore_n 3, 1) := by decide +kernel
theorem dL_told_30 : decode cL_told 30 = .ok (.iload_n 3, 1) := by decide +kernel
theorem dL_told_31 : decode cL_told 31 = .ok (.iconst 3, 1) := by decide +kernel
theorem dL_told_32 : decode cL_told 32 = .ok (.aload_n 2, 1) := by decide +kernel
theorem dL_told_33 : decode cL_told 33 = .ok (.iconst 0, 1) := by decide +kernel
theorem dL_told_34 : decode cL_told 34 = .ok (.iaload, 1) := by decide +kernel
theorem dL_told_35 : decode cL_told 35 = .ok (.imul, 1) := by decide +kernel
theorem dL_told_36 : decode cL_told 36 = .ok (.if_icmp .ge 26, 3) := by decide +kernel
theorem dL_told_39 : decode cL_told 39 = .ok (.aload_n 2, 1) := by decide +kernel
theorem dL_told_40 : decode cL_told 40 = .ok (.bipush 7, 2) := by decide +kernel
theorem dL_told_42 : decode cL_told 42 = .ok (.iload_n 3, 1) := by decide +kernel
theorem dL_told_43 : decode cL_told 43 = .ok (.iadd, 1) := by decide +kernel
theorem dL_told_44 : decode cL_told 44 = .ok (.aload_n 0, 1) := by decide +kernel
theorem dL_told_45 : decode cL_told 45 = .ok (.iload_n 1, 1) := by decide +kernel
theorem dL_told_46 : decode cL_told 46 = .ok (.iload_n 3, 1) := by decide +kernel
theorem dL_told_47 : decode cL_told 47 = .ok (.iconst 3, 1) := by decide +kernel
theorem dL_told_48 : decode cL_told 48 = .ok (.irem, 1) := by decide +kernel
theorem dL_told_49 : decode cL_told 49 = .ok (.iload_n 3, 1) := by decide +kernel
theorem dL_told_50 : decode cL_told 50 = .ok (.iconst 3, 1) := by decide +kernel
theorem dL_told_51 : decode cL_told 51 = .ok (.idiv, 1) := by decide +kernel
theorem dL_told_52 : decode cL_told 52 = .ok (.invokevirtual 75, 3) := by decide +kernel
theorem dL_told_55 : decode cL_told 55 = .ok (.iastore, 1) := by decide +kernel
theorem dL_told_56 : decode cL_told 56 = .ok (.iinc 3 1, 3) := by decide +kernel
theorem dL_told_59 : decode cL_told 59 = .ok (.goto (-29), 3) := by decide +kernel
theorem dL_told_62 : decode cL_told 62 = .ok (.iconst 0, 1) := by decide +kernel
theorem dL_told_63 : decode cL_told 63 = .ok (.istore_n 3, 1) := by decide +kernel
theorem dL_told_64 : decode cL_told 64 = .ok (.iload_n 3, 1) := by decide +kernel
theorem dL_told_65 : decode cL_told 65 = .ok (.iconst 1, 1) := by decide +kernel
theorem dL_told_66 : decode cL_told 66 = .ok (.iadd, 1) := by decide +kernel
theorem dL_told_67 : decode cL_told 67 = .ok (.aload_n 2, 1) := by decide +kernel
theorem dL_told_68 : decode cL_told 68 = .ok (.iconst 0, 1) := by decide +kernel
theorem dL_told_69 : decode cL_told 69 = .ok (.iaload, 1) := by decide +kernel
theorem dL_told_70 : decode cL_told 70 = .ok (.if_icmp .ge 21, 3) := by decide +kernel
theorem dL_told_73 : decode cL_told 73 = .ok (.aload_n 2, 1) := by decide +kernel
theorem dL_told_74 : decode cL_told 74 = .ok (.bipush 43, 2) := by decide +kernel
theorem dL_told_76 : decode cL_told 76 = .ok (.iload_n 3, 1) := by decide +kernel
theorem dL_told_77 : decode cL_told 77 = .ok (.iadd, 1) := by decide +kernel
theorem dL_told_78 : decode cL_told 78 = .ok (.aload_n 0, 1) := by decide +kernel
theorem dL_told_79 : decode cL_told 79 = .ok (.iload_n 1, 1) := by decide +kernel
theorem dL_told_80 : decode cL_told 80 = .ok (.iload_n 3, 1) := by decide +kernel
theorem dL_told_81 : decode cL_told 81 = .ok (.invokevirtual 72, 3) := by decide +kernel
theorem dL_told_84 : decode cL_told 84 = .ok (.iastore, 1) := by decide +kernel
theorem dL_told_85 : decode cL_told 85 = .ok (.iinc 3 1, 3) := by decide +kernel
theorem dL_told_88 : decode cL_told 88 = .ok (.goto (-24), 3) := by decide +kernel
theorem dL_told_91 : decode cL_told 91 = .ok (.aload_n 2, 1) := by decide +kernel
theorem dL_told_92 : decode cL_told 92 = .ok (.areturn, 1) := by decide +kernel
