theorem dL_lock_0 : decode cL_lock 0 = .ok (.aload_n 0, 1) := by decide +kernel
theorem dL_lock_1 : decode cL_lock 1 = .ok (.iload_n 1, 1) := by decide +kernel
theorem dL_lock_2 : decode cL_lock 2 = .ok (.iload_n 2, 1) := by decide +kernel
theorem dL_lock_3 : decode cL_lock 3 = .ok (.invokevirtual 7, 3) := by decide +kernel
theorem dL_lock_6 : decode cL_lock 6 = .ok (.iconst 0, 1) := by decide +kernel
theorem dL_lock_7 : decode cL_lock 7 = .ok (.ireturn, 1) := by decide +kernel
theorem dL_lock_8 : decode cL_lock 8 = .ok (.astore_n 3, 1) := by decide +kernel
theorem dL_lock_9 : decode cL_lock 9 = .ok (.bipush (-72), 2) := by decide +kernel
theorem dL_lock_11 : decode cL_lock 11 = .ok (.ireturn, 1) := by decide +kernel
theorem dL_lock_12 : decode cL_lock 12 = .ok (.astore_n 3, 1) := by decide +kernel
theorem dL_lock_13 : decode cL_lock 13 = .ok (.bipush (-73), 2) := by decide +kernel
theorem dL_lock_15 : decode cL_lock 15 = .ok (.ireturn, 1) := by decide +kernel
set_option maxRecDepth 200000 in
theorem ggL_act_X2_remove : GoodIn wsL_act wsX2_remove := goodIn_ca (goodIn_r _ [8, 9, 10, 11, 7, 12, 13, 14, 15, 16, 17, 18, 19, 20, 21, 22, 23, 169, 170, 171, 172, 173, 174, 175, 176, 177, 178, 179, 180, 181, 182, 183, 184, 185] rfl (by decide +kernel)) (goodIn_sub (fun _ h => List.mem_cons_of_mem _ (List.mem_append_left _ (List.mem_append_left _ (List.mem_append_left _ (List.mem_append_right _ h))))) (by decide +kernel))
set_option maxRecDepth 20000 in
theorem gL_act_X2_remove : GoodIn wsL_act (wsV RL 17 RX2 yX2_remove wsX2_remove) := goodIn_app (goodIn_of _ (by decide +kernel)) ggL_act_X2_remove
set_option maxRecDepth 200000 in
theorem ggL_act_X2_edit : GoodIn wsL_act wsX2_edit := goodIn_ca (goodIn_ca (goodIn_ca (goodIn_r _ [27, 28, 29, 9, 10, 11, 7, 12, 13, 14, 15, 16, 17, 18, 19, 30, 31, 32, 33, 34, 35, 36, 37, 38, 39, 169, 170, 171, 172, 173, 174, 175, 176, 177, 178, 179, 180, 181, 182, 183, 184, 185, 186, 187, 188, 189, 190] rfl (by decide +kernel)) (goodIn_sub (fun _ h => List.mem_cons_of_mem _ (List.mem_append_left _ (List.mem_append_left _ (List.mem_append_right _ h)))) (by decide +kernel))) (goodIn_sub (fun _ h => List.mem_cons_of_mem _ (List.mem_append_left _ (List.mem_append_left _ (List.mem_append_left _ (List.mem_append_right _ h))))) (by decide +kernel))) (goodIn_sub (fun _ h => List.mem_cons_of_mem _ (List.mem_append_left _ (List.mem_append_right _ h))) (by decide +kernel))
set_option maxRecDepth 20000 in
theorem gL_act_X2_edit : GoodIn wsL_act (wsV RL 21 RX2 yX2_edit wsX2_edit) := goodIn_app (goodIn_of _ (by decide +kernel)) ggL_act_X2_edit
set_option maxRecDepth 200000 in
theorem ggL_act_X2_choose : GoodIn wsL_act wsX2_choose := goodIn_ca (goodIn_ca (goodIn_r _ [43, 44, 45, 46, 47, 7, 48, 13, 14, 15, 16, 17, 18, 19, 33, 34, 35, 36, 37, 38, 39, 177, 178, 179, 180, 181, 182, 183, 184, 185, 169, 170, 171, 172, 173, 174, 175, 176, 186, 187, 188, 189, 190] rfl (by decide +kernel)) (goodIn_sub (fun _ h => List.mem_cons_of_mem _ (List.mem_append_left _ (List.mem_append_left _ (List.mem_append_left _ (List.mem_append_right _ h))))) (by decide +kernel))) (goodIn_sub (fun _ h => List.mem_cons_of_mem _ (List.mem_append_left _ (List.mem_append_right _ h))) (by decide +kernel))
set_option maxRecDepth 20000 in
theorem gL_act_X2_choose : GoodIn wsL_act (wsV RL 25 RX2 yX2_choose wsX2_choose) := goodIn_app (goodIn_of _ (by decide +kernel)) ggL_act_X2_choose
set_option maxRecDepth 200000 in
theorem ggL_act_X2_chooseOnce : GoodIn wsL_act wsX2_chooseOnce := goodIn_ca (goodIn_r _ [52, 53, 45, 46, 47, 7, 48, 13, 14, 15, 16, 17, 18, 19, 177, 178, 179, 180, 181, 182, 183, 184, 185, 169, 170, 171, 172, 173, 174, 175, 176] rfl (by decide +kernel)) (goodIn_sub (fun _ h => List.mem_cons_of_mem _ (List.mem_append_left _ (List.mem_append_left _ (List.mem_append_left _ (List.mem_append_right _ h))))) (by decide +kernel))
set_option maxRecDepth 20000 in
theorem gL_act_X2_chooseOnce : GoodIn wsL_act (wsV RL 28 RX2 yX2_chooseOnce wsX2_chooseOnce) := goodIn_app (goodIn_of _ (by decide +kernel)) ggL_act_X2_chooseOnce
set_option maxRecDepth 200000 in
theorem ggL_act_X2_setPattern : GoodIn wsL_act wsX2_setPattern := goodIn_ca (goodIn_ca (goodIn_r _ [57, 28, 29, 58, 59, 30, 31, 7, 32, 33, 34, 35, 36, 37, 38, 39, 60, 61, 62, 63, 19, 64, 65, 66, 67, 177, 178, 179, 180, 181, 182, 183, 184, 185, 186, 187, 188, 189, 190, 169, 170, 171, 172, 173, 174, 175, 176] rfl (by decide +kernel)) (goodIn_sub (fun _ h => List.mem_cons_of_mem _ (List.mem_append_left _ (List.mem_append_left _ (List.mem_append_right _ h)))) (by decide +kernel))) (goodIn_sub (fun _ h => List.mem_cons_of_mem _ (List.mem_append_left _ (List.mem_append_right _ h))) (by decide +kernel))
set_option maxRecDepth 20000 in
theorem gL_act_X2_setPattern : GoodIn wsL_act (wsV RL 31 RX2 yX2_setPattern wsX2_setPattern) := goodIn_app (goodIn_of _ (by decide +kernel)) ggL_act_X2_setPattern
set_option maxRecDepth 200000 in
theorem ggL_act_X2_start : GoodIn wsL_act wsX2_start := goodIn_ca (goodIn_r _ [71, 37, 38, 72, 53, 73, 39, 74, 75, 76, 7, 77, 44, 15, 16, 17, 18, 19, 78, 79, 80, 81, 82, 83, 84, 85, 86, 64, 65, 66, 67, 58, 59, 30, 31, 32, 87, 88, 89, 90, 91, 92, 93, 94, 95, 96, 97, 98, 99, 100, 101, 102, 103, 104, 105, 106, 107, 108, 109, 110, 111, 112, 113, 114, 115, 116, 117, 118, 119, 120, 121, 122, 123, 124, 125, 126, 127, 128, 177, 178, 179, 180, 181, 182, 183, 184, 185, 169, 170, 171, 172, 173, 174, 175, 176, 186, 187, 188, 189, 190] rfl (by decide +kernel)) (goodIn_sub (fun _ h => List.mem_cons_of_mem _ (List.mem_append_left _ (List.mem_append_right _ h))) (by decide +kernel))
set_option maxRecDepth 20000 in
theorem gL_act_X2_start : GoodIn wsL_act (wsV RL 34 RX2 yX2_start wsX2_start) := goodIn_app (goodIn_of _ (by decide +kernel)) ggL_act_X2_start
set_option maxRecDepth 200000 in
theorem ggL_act_X2_good : GoodIn wsL_act wsX2_good := goodIn_ca (goodIn_r _ [132, 37, 38, 73, 15, 16, 17, 7, 18, 19, 177, 178, 179, 180, 181, 182, 183, 184, 185, 169, 170, 171, 172, 173, 174, 175, 176] rfl (by decide +kernel)) (goodIn_sub (fun _ h => List.mem_cons_of_mem _ (List.mem_append_left _ (List.mem_append_right _ h))) (by decide +kernel))
set_option maxRecDepth 20000 in
theorem gL_act_X2_good : GoodIn wsL_act (wsV RL 38 RX2 yX2_good wsX2_good) := goodIn_app (goodIn_of _ (by decide +kernel)) ggL_act_X2_good
set_option maxRecDepth 200000 in
theorem ggL_act_X2_enter : GoodIn wsL_act wsX2_enter := goodIn_ca (goodIn_ca (goodIn_r _ [136, 28, 29, 39, 30, 31, 7, 32, 137, 125, 138, 139, 140, 38, 141, 128, 142, 143, 144, 145, 146, 147, 148, 177, 178, 179, 180, 181, 182, 183, 184, 185, 186, 187, 188, 189, 190] rfl (by decide +kernel)) (goodIn_sub (fun _ h => List.mem_cons_of_mem _ (List.mem_append_left _ (List.mem_append_left _ (List.mem_append_right _ h)))) (by decide +kernel))) (goodIn_sub (fun _ h => List.mem_cons_of_mem _ (List.mem_append_right _ h)) (by decide +kernel))
set_option maxRecDepth 20000 in
theorem gL_act_X2_enter : GoodIn wsL_act (wsV RL 41 RX2 yX2_enter wsX2_enter) := goodIn_app (goodIn_of _ (by decide +kernel)) ggL_act_X2_enter
set_option maxRecDepth 200000 in
theorem ggL_act_X2_at : GoodIn wsL_act wsX2_at := goodIn_ca (goodIn_r _ [152, 13, 14, 104, 105, 106, 7, 107, 19, 108, 109, 110, 111, 87, 79, 88, 89, 90, 91, 92, 93, 78, 80, 81, 82, 94, 95, 96, 97, 98, 99, 100, 101, 102, 103, 169, 170, 171, 172, 173, 174, 175, 176, 177, 178, 179, 180, 181, 182, 183, 184, 185] rfl (by decide +kernel)) (goodIn_sub (fun _ h => List.mem_cons_of_mem _ (List.mem_append_left _ (List.mem_append_left _ (List.mem_append_left _ (List.mem_append_right _ h))))) (by decide +kernel))
set_option maxRecDepth 20000 in
theorem gL_act_X2_at : GoodIn wsL_act (wsV RL 45 RX2 yX2_at wsX2_at) := goodIn_app (goodIn_of _ (by decide +kernel)) ggL_act_X2_at
set_option maxRecDepth 200000 in
theorem ggL_act_X2_placeOf : GoodIn wsL_act wsX2_placeOf := goodIn_ca (goodIn_r _ [156, 9, 10, 11, 7, 12, 13, 14, 15, 16, 17, 18, 19, 108, 109, 110, 111, 87, 79, 88, 89, 90, 91, 92, 93, 78, 80, 81, 82, 94, 95, 96, 97, 98, 99, 100, 101, 102, 103, 177, 178, 179, 180, 181, 182, 183, 184, 185, 169, 170, 171, 172, 173, 174, 175, 176] rfl (by decide +kernel)) (goodIn_sub (fun _ h => List.mem_cons_of_mem _ (List.mem_append_left _ (List.mem_append_left _ (List.mem_append_left _ (List.mem_append_right _ h))))) (by decide +kernel))
set_option maxRecDepth 20000 in
theorem gL_act_X2_placeOf : GoodIn wsL_act (wsV RL 48 RX2 yX2_placeOf wsX2_placeOf) := goodIn_app (goodIn_of _ (by decide +kernel)) ggL_act_X2_placeOf
set_option maxRecDepth 200000 in
theorem ggL_act_X2_tries : GoodIn wsL_act wsX2_tries := goodIn_ca (goodIn_r _ [160, 9, 10, 11, 7, 12, 13, 14, 15, 16, 17, 18, 19, 169, 170, 171, 172, 173, 174, 175, 176, 177, 178, 179, 180, 181, 182, 183, 184, 185] rfl (by decide +kernel)) (goodIn_sub (fun _ h => List.mem_cons_of_mem _ (List.mem_append_left _ (List.mem_append_left _ (List.mem_append_left _ (List.mem_append_right _ h))))) (by decide +kernel))
set_option maxRecDepth 20000 in
theorem gL_act_X2_tries : GoodIn wsL_act (wsV RL 51 RX2 yX2_tries wsX2_tries) := goodIn_app (goodIn_of _ (by decide +kernel)) ggL_act_X2_tries
set_option maxRecDepth 200000 in
theorem ggL_act_X2_compare : GoodIn wsL_act wsX2_compare := goodIn_ca (goodIn_r _ [164, 9, 10, 11, 7, 12, 13, 14, 15, 16, 17, 18, 19, 95, 79, 96, 97, 98, 99, 100, 101, 102, 103, 177, 178, 179, 180, 181, 182, 183, 184, 185, 169, 170, 171, 172, 173, 174, 175, 176] rfl (by decide +kernel)) (goodIn_sub (fun _ h => List.mem_cons_of_mem _ (List.mem_append_left _ (List.mem_append_left _ (List.mem_append_left _ (List.mem_append_right _ h))))) (by decide +kernel))
set_option maxRecDepth 20000 in
theorem gL_act_X2_compare : GoodIn wsL_act (wsV RL 54 RX2 yX2_compare wsX2_compare) := goodIn_app (goodIn_of _ (by decide +kernel)) ggL_act_X2_compare
set_option maxRecDepth 200000 in
theorem ggL_act_X2_foretold : GoodIn wsL_act wsX2_foretold := goodIn_ca (goodIn_r _ [168, 9, 10, 11, 7, 12, 13, 14, 15, 16, 17, 18, 19, 112, 113, 114, 115, 39, 116, 117, 118, 119, 120, 177, 178, 179, 180, 181, 182, 183, 184, 185, 169, 170, 171, 172, 173, 174, 175, 176, 186, 187, 188, 189, 190] rfl (by decide +kernel)) (goodIn_sub (fun _ h => List.mem_cons_of_mem _ (List.mem_append_left _ (List.mem_append_left _ (List.mem_append_left _ (List.mem_append_right _ h))))) (by decide +kernel))
set_option maxRecDepth 20000 in
theorem gL_act_X2_foretold : GoodIn wsL_act (wsV RL 57 RX2 yX2_foretold wsX2_foretold) := goodIn_app (goodIn_of _ (by decide +kernel)) ggL_act_X2_foretold
theorem dL_act_0 : decode cL_act 0 = .ok (.iload_n 1, 1) := by decide +kernel
theorem dL_act_1 : decode cL_act 1 = .ok (.ifCond .ne 11, 3) := by decide +kernel
theorem dL_act_4 : decode cL_act 4 = .ok (.aload_n 0, 1) := by decide +kernel
theorem dL_act_5 : decode cL_act 5 = .ok (.iload_n 2, 1) := by decide +kernel
theorem dL_act_6 : decode cL_act 6 = .ok (.invokevirtual 17, 3) := by decide +kernel
theorem dL_act_9 : decode cL_act 9 = .ok (.goto 166, 3) := by decide +kernel
theorem dL_act_12 : decode cL_act 12 = .ok (.iload_n 1, 1) := by decide +kernel
theorem dL_act_13 : decode cL_act 13 = .ok (.iconst 1, 1) := by decide +kernel
theorem dL_act_14 : decode cL_act 14 = .ok (.if_icmp .ne 12, 3) := by decide +kernel
theorem dL_act_17 : decode cL_act 17 = .ok (.aload_n 0, 1) := by decide +kernel
theorem dL_act_18 : decode cL_act 18 = .ok (.iload_n 2, 1) := by decide +kernel
theorem dL_act_19 : decode cL_act 19 = .ok (.iload_n 3, 1) := by decide +kernel
theorem dL_act_20 : decode cL_act 20 = .ok (.invokevirtual 21, 3) := by decide +kernel
theorem dL_act_23 : decode cL_act 23 = .ok (.goto 152, 3) := by decide +kernel
theorem dL_act_26 : decode cL_act 26 = .ok (.iload_n 1, 1) := by decide +kernel
theorem dL_act_27 : decode cL_act 27 = .ok (.iconst 2, 1) := by decide +kernel
theorem dL_act_28 : decode cL_act 28 = .ok (.if_icmp .ne 11, 3) := by decide +kernel
theorem dL_act_31 : decode cL_act 31 = .ok (.aload_n 0, 1) := by decide +kernel
theorem dL_act_32 : decode cL_act 32 = .ok (.iload_n 2, 1) := by decide +kernel
theorem dL_act_33 : decode cL_act 33 = .ok (.invokevirtual 25, 3) := by decide +kernel
theorem dL_act_36 : decode cL_act 36 = .ok (.goto 139, 3) := by decide +kernel
theorem dL_act_39 : decode cL_act 39 = .ok (.iload_n 1, 1) := by decide +kernel
theorem dL_act_40 : decode cL_act 40 = .ok (.iconst 3, 1) := by decide +kernel
theorem dL_act_41 : decode cL_act 41 = .ok (.if_icmp .ne 11, 3) := by decide +kernel
theorem dL_act_44 : decode cL_act 44 = .ok (.aload_n 0, 1) := by decide +kernel
theorem dL_act_45 : decode cL_act 45 = .ok (.iload_n 2, 1) := by decide +kernel
theorem dL_act_46 : decode cL_act 46 = .ok (.invokevirtual 28, 3) := by decide +kernel
theorem dL_act_49 : decode cL_act 49 = .ok (.goto 126, 3) := by decide +kernel
theorem dL_act_52 : decode cL_act 52 = .ok (.iload_n 1, 1) := by decide +kernel
theorem dL_act_53 : decode cL_act 53 = .ok (.iconst 4, 1) := by decide +kernel
theorem dL_act_54 : decode cL_act 54 = .ok (.if_icmp .ne 12, 3) := by decide +kernel
theorem dL_act_57 : decode cL_act 57 = .ok (.aload_n 0, 1) := by decide +kernel
theorem dL_act_58 : decode cL_act 58 = .ok (.iload_n 2, 1) := by decide +kernel
theorem dL_act_59 : decode cL_act 59 = .ok (.iload_n 3, 1) := by decide +kernel
theorem dL_act_60 : decode cL_act 60 = .ok (.invokevirtual 31, 3) := by decide +kernel
theorem dL_act_63 : decode cL_act 63 = .ok (.goto 112, 3) := by decide +kernel
theorem dL_act_66 : decode cL_act 66 = .ok (.iload_n 1, 1) := by decide +kernel
theorem dL_act_67 : decode cL_act 67 = .ok (.iconst 5, 1) := by decide +kernel
theorem dL_act_68 : decode cL_act 68 = .ok (.if_icmp .ne 10, 3) := by decide +kernel
theorem dL_act_71 : decode cL_act 71 = .ok (.aload_n 0, 1) := by decide +kernel
theorem dL_act_72 : decode cL_act 72 = .ok (.invokevirtual 34, 3) := by decide +kernel
theorem dL_act_75 : decode cL_act 75 = .ok (.goto 100, 3) := by decide +kernel
theorem dL_act_78 : decode cL_act 78 = .ok (.iload_n 1, 1) := by decide +kernel
theorem dL_act_79 : decode cL_act 79 = .ok (.bipush 6, 2) := by decide +kernel
theorem dL_act_81 : decode cL_act 81 = .ok (.if_icmp .ne 10, 3) := by decide +kernel
theorem dL_act_84 : decode cL_act 84 = .ok (.aload_n 0, 1) := by decide +kernel
theorem dL_act_85 : decode cL_act 85 = .ok (.invokevirtual 38, 3) := by decide +kernel
theorem dL_act_88 : decode cL_act 88 = .ok (.goto 87, 3) := by decide +kernel
theorem dL_act_91 : decode cL_act 91 = .ok (.iload_n 1, 1) := by decide +kernel
theorem dL_act_92 : decode cL_act 92 = .ok (.bipush 7, 2) := by decide +kernel
theorem dL_act_94 : decode cL_act 94 = .ok (.if_icmp .ne 19, 3) := by decide +kernel
theorem dL_act_97 : decode cL_act 97 = .ok (.aload_n 0, 1) := by decide +kernel
theorem dL_act_98 : decode cL_act 98 = .ok (.iload_n 2, 1) := by decide +kernel
theorem dL_act_99 : decode cL_act 99 = .ok (.invokevirtual 41, 3) := by decide +kernel
theorem dL_act_102 : decode cL_act 102 = .ok (.ifCond .eq 7, 3) := by decide +kernel
theorem dL_act_105 : decode cL_act 105 = .ok (.iconst 1, 1) := by decide +kernel
theorem dL_act_106 : decode cL_act 106 = .ok (.goto 69, 3) := by decide +kernel
theorem dL_act_109 : decode cL_act 109 = .ok (.iconst 0, 1) := by decide +kernel
theorem dL_act_110 : decode cL_act 110 = .ok (.goto 65, 3) := by decide +kernel
theorem dL_act_113 : decode cL_act 113 = .ok (.iload_n 1, 1) := by decide +kernel
theorem dL_act_114 : decode cL_act 114 = .ok (.bipush 8, 2) := by decide +kernel
theorem dL_act_116 : decode cL_act 116 = .ok (.if_icmp .ne 11, 3) := by decide +kernel
theorem dL_act_119 : decode cL_act 119 = .ok (.aload_n 0, 1) := by decide +kernel
theorem dL_act_120 : decode cL_act 120 = .ok (.iload_n 2, 1) := by decide +kernel
theorem dL_act_121 : decode cL_act 121 = .ok (.invokevirtual 45, 3) := by decide +kernel
theorem dL_act_124 : decode cL_act 124 = .ok (.goto 51, 3) := by decide +kernel
theorem dL_act_127 : decode cL_act 127 = .ok (.iload_n 1, 1) := by decide +kernel
theorem dL_act_128 : decode cL_act 128 = .ok (.bipush 9, 2) := by decide +kernel
theorem dL_act_130 : decode cL_act 130 = .ok (.if_icmp .ne 11, 3) := by decide +kernel
theorem dL_act_133 : decode cL_act 133 = .ok (.aload_n 0, 1) := by decide +kernel
theorem dL_act_134 : decode cL_act 134 = .ok (.iload_n 2, 1) := by decide +kernel
theorem dL_act_135 : decode cL_act 135 = .ok (.invokevirtual 48, 3) := by decide +kernel
theorem dL_act_138 : decode cL_act 138 = .ok (.goto 37, 3) := by decide +kernel
theorem dL_act_141 : decode cL_act 141 = .ok (.iload_n 1, 1) := by decide +kernel
theorem dL_act_142 : decode cL_act 142 = .ok (.bipush 10, 2) := by decide +kernel
theorem dL_act_144 : decode cL_act 144 = .ok (.if_icmp .ne 11, 3) := by decide +kernel
theorem dL_act_147 : decode cL_act 147 = .ok (.aload_n 0, 1) := by decide +kernel
theorem dL_act_148 : decode cL_act 148 = .ok (.iload_n 2, 1) := by decide +kernel
theorem dL_act_149 : decode cL_act 149 = .ok (.invokevirtual 51, 3) := by decide +kernel
theorem dL_act_152 : decode cL_act 152 = .ok (.goto 23, 3) := by decide +kernel
theorem dL_act_155 : decode cL_act 155 = .ok (.iload_n 1, 1) := by decide +kernel
theorem dL_act_156 : decode cL_act 156 = .ok (.bipush 11, 2) := by decide +kernel
theorem dL_act_158 : decode cL_act 158 = .ok (.if_icmp .ne 12, 3) := by decide +kernel
theorem dL_act_161 : decode cL_act 161 = .ok (.aload_n 0, 1) := by decide +kernel
theorem dL_act_162 : decode cL_act 162 = .ok (.iload_n 2, 1) := by decide +kernel
theorem dL_act_163 : decode cL_act 163 = .ok (.iload_n 3, 1) := by decide +kernel
theorem dL_act_164 : decode cL_act 164 = .ok (.invokevirtual 54, 3) := by decide +kernel
theorem dL_act_167 : decode cL_act 167 = .ok (.goto 8, 3) := by decide +kernel
theorem dL_act_170 : decode cL_act 170 = .ok (.aload_n 0, 1) := by decide +kernel
theorem dL_act_171 : decode cL_act 171 = .ok (.iload_n 2, 1) := by decide +kernel
theorem dL_act_172 : decode cL_act 172 = .ok (.invokevirtual 57, 3) := by decide +kernel
theorem dL_act_175 : decode cL_act 175 = .ok (.ireturn, 1) := by decide +kernel
theorem dL_act_176 : decode cL_act 176 = .ok (.astore 4, 2) := by decide +kernel
theorem dL_act_178 : decode cL_act 178 = .ok (.bipush (-71), 2) := by decide +kernel
theorem dL_act_180 : decode cL_act 180 = .ok (.ireturn, 1) := by decide +kernel
theorem dL_act_181 : decode cL_act 181 = .ok (.astore 4, 2) := by decide +kernel
theorem dL_act_183 : decode cL_act 183 = .ok (.bipush (-72), 2) := by decide +kernel
theorem dL_act_185 : decode cL_act 185 = .ok (.ireturn, 1) := by decide +kernel
theorem dL_act_186 : decode cL_act 186 = .ok (.astore 4, 2) := by decide +kernel
theorem dL_act_188 : decode cL_act 188 = .ok (.bipush (-73), 2) := by decide +kernel
theorem dL_act_190 : decode cL_act 190 = .ok (.ireturn, 1) := by decide +kernel
set_option maxRecDepth 200000 in
theorem ggL_add_X2_add : GoodIn wsL_add wsX2_add := goodIn_ca (goodIn_ca (goodIn_r _ [7, 8, 9, 10, 11, 12, 13, 14, 15, 6, 16, 17, 18, 19, 20, 21, 22, 23, 24, 25, 26, 27, 28, 29, 30, 31, 32, 33, 34, 35, 36, 37, 38, 39, 40, 41, 42, 43, 44, 45, 46, 47, 48, 49, 50] rfl (by decide +kernel)) (goodIn_sub (fun _ h => List.mem_cons_of_mem _ (List.mem_append_left _ (List.mem_append_right _ h))) (by decide +kernel))) (goodIn_sub (fun _ h => List.mem_cons_of_mem _ (List.mem_append_right _ h)) (by decide +kernel))
set_option maxRecDepth 20000 in
theorem gL_add_X2_add : GoodIn wsL_add (wsV RL 62 RX2 yX2_add wsX2_add) := goodIn_app (goodIn_of _ (by decide +kernel)) ggL_add_X2_add
theorem dL_add_0 : decode cL_add 0 = .ok (.aload_n 0, 1) := by decide +kernel
theorem dL_add_1 : decode cL_add 1 = .ok (.iload_n 1, 1) := by decide +kernel
theorem dL_add_2 : decode cL_add 2 = .ok (.iload_n 2, 1) := by decide +kernel
theorem dL_add_3 : decode cL_add 3 = .ok (.iload_n 3, 1) := by decide +kernel
theorem dL_add_4 : decode cL_add 4 = .ok (.iload 4, 2) := by decide +kernel
theorem dL_add_6 : decode cL_add 6 = .ok (.iload 5, 2) := by decide +kernel
theorem dL_add_8 : decode cL_add 8 = .ok (.invokevirtual 62, 3) := by decide +kernel
theorem dL_add_11 : decode cL_add 11 = .ok (.ireturn, 1) := by decide +kernel
theorem dL_add_12 : decode cL_add 12 = .ok (.astore 6, 2) := by decide +kernel
theorem dL_add_14 : decode cL_add 14 = .ok (.bipush (-72), 2) := by decide +kernel
theorem dL_add_16 : decode cL_add 16 = .ok (.ireturn, 1) := by decide +kernel
theorem dL_add_17 : decode cL_add 17 = .ok (.astore 6, 2) := by decide +kernel
theorem dL_add_19 : decode cL_add 19 = .ok (.bipush (-73), 2) := by decide +kernel
theorem dL_add_21 : decode cL_add 21 = .ok (.ireturn, 1) := by decide +kernel
set_option maxRecDepth 200000 in
theorem ggL_refuses_X2_entries : GoodIn wsL_refuses wsX2_entries := goodIn_r _ [7, 8, 9, 10, 6, 11, 12, 223, 224, 225, 226, 227, 228, 229, 230, 231, 232, 233, 234, 235, 236, 237, 238, 239] rfl (by decide +kernel)
set_option maxRecDepth 20000 in
theorem gL_refuses_X2_entries : GoodIn wsL_refuses (wsV RL 66 RX2 yX2_entries wsX2_entries) := goodIn_app (goodIn_of _ (by decide +kernel)) ggL_refuses_X2_entries
set_option maxRecDepth 200000 in
theorem ggL_refuses_X2_next : GoodIn wsL_refuses wsX2_next := goodIn_r _ [16, 17, 18, 19, 6, 20, 21, 22, 23, 24, 25, 26, 12, 27, 28, 29, 30, 31, 32, 33, 34, 35, 36, 37, 38, 39, 40, 41, 42, 43, 44, 45, 46, 47, 48, 49, 50, 51, 52, 53, 54, 55, 56, 57, 58, 59, 60, 61, 62, 63, 64, 65, 66, 67, 68, 69, 232, 233, 234, 235, 236, 237, 238, 239, 223, 224, 225, 226, 227, 228, 229, 230, 231] rfl (by decide +kernel)
set_option maxRecDepth 20000 in
theorem gL_refuses_X2_next : GoodIn wsL_refuses (wsV RL 69 RX2 yX2_next wsX2_next) := goodIn_app (goodIn_of _ (by decide +kernel)) ggL_refuses_X2_next
set_option maxRecDepth 200000 in
theorem ggL_refuses_X2_register : GoodIn wsL_refuses wsX2_register := goodIn_r _ [73, 74, 223, 224, 225, 226, 227, 228, 229, 230, 231] rfl (by decide +kernel)
set_option maxRecDepth 20000 in
theorem gL_refuses_X2_register : GoodIn wsL_refuses (wsV RL 72 RX2 yX2_register wsX2_register) := goodIn_app (goodIn_of _ (by decide +kernel)) ggL_refuses_X2_register
set_option maxRecDepth 200000 in
theorem ggL_refuses_X2_isLocked : GoodIn wsL_refuses wsX2_isLocked := goodIn_r _ [78, 79, 223, 224, 225, 226, 227, 228, 229, 230, 231, 240, 241, 242, 243, 244] rfl (by decide +kernel)
set_option maxRecDepth 20000 in
theorem gL_refuses_X2_isLocked : GoodIn wsL_refuses (wsV RL 75 RX2 yX2_isLocked wsX2_isLocked) := goodIn_app (goodIn_of _ (by decide +kernel)) ggL_refuses_X2_isLocked
set_option maxRecDepth 200000 in
theorem ggL_refuses_L_add : GoodIn wsL_refuses wsL_add := goodIn_ca (goodIn_ca (goodIn_r _ [83, 84, 85, 86, 87, 88, 6, 89, 90, 91, 92, 93, 94, 95, 42, 43, 44, 96, 97, 98, 99, 12, 100, 28, 101, 102, 103, 50, 48, 49, 56, 57, 104, 31, 223, 224, 225, 226, 227, 228, 229, 230, 231, 232, 233, 234, 235, 236, 237, 238, 239] rfl (by decide +kernel)) (goodIn_sub (fun _ h => List.mem_cons_of_mem _ (List.mem_append_left _ (List.mem_append_left _ (List.mem_append_left _ (List.mem_append_right _ h))))) (by decide +kernel))) (goodIn_sub (fun _ h => List.mem_cons_of_mem _ (List.mem_append_left _ (List.mem_append_left _ (List.mem_append_right _ h)))) (by decide +kernel))
set_option maxRecDepth 20000 in
theorem gL_refuses_L_add : GoodIn wsL_refuses (va_wsS RL 80 yL_add wsL_add) := goodIn_app (goodIn_of _ (by decide +kernel)) ggL_refuses_L_add
set_option maxRecDepth 200000 in
theorem ggL_refuses_L_act : GoodIn wsL_refuses wsL_act := goodIn_ca (goodIn_ca (goodIn_ca (goodIn_ca (goodIn_r _ [107, 108, 84, 85, 109, 110, 111, 6, 112, 113, 114, 115, 116, 117, 118, 23, 24, 25, 26, 12, 8, 9, 10, 11, 119, 120, 121, 122, 90, 91, 42, 43, 44, 123, 124, 125, 126, 92, 93, 79, 127, 128, 129, 130, 22, 131, 132, 133, 134, 135, 136, 137, 138, 21, 139, 140, 141, 142, 40, 41, 143, 144, 145, 146, 36, 37, 38, 39, 147, 148, 149, 150, 74, 151, 17, 18, 19, 20, 27, 28, 29, 30, 31, 32, 33, 34, 35, 45, 46, 47, 48, 49, 50, 51, 52, 53, 54, 55, 56, 57, 58, 59, 60, 61, 62, 63, 64, 65, 66, 67, 68, 69, 152, 153, 154, 155, 156, 157, 158, 159, 160, 161, 162, 163, 164, 165, 166, 167, 168, 169, 170, 171, 172, 173, 174, 175, 176, 177, 178, 179, 180, 181, 182, 183, 184, 185, 186, 187, 188, 189, 190, 191, 192, 193, 194, 195, 196, 197, 198, 199, 200, 201, 202, 203, 204, 205, 206, 207, 208, 232, 233, 234, 235, 236, 237, 238, 239, 223, 224, 225, 226, 227, 228, 229, 230, 231, 240, 241, 242, 243, 244] rfl (by decide +kernel)) (goodIn_sub (fun _ h => List.mem_cons_of_mem _ (List.mem_append_left _ (List.mem_append_right _ h))) (by decide +kernel))) (goodIn_sub (fun _ h => List.mem_cons_of_mem _ (List.mem_append_left _ (List.mem_append_left _ (List.mem_append_left _ (List.mem_append_right _ h))))) (by decide +kernel))) (goodIn_sub (fun _ h => List.mem_cons_of_mem _ (List.mem_append_left _ (List.mem_append_left _ (List.mem_append_right _ h)))) (by decide +kernel))) (goodIn_sub (fun _ h => List.mem_cons_of_mem _ (List.mem_append_right _ h)) (by decide +kernel))
set_option maxRecDepth 20000 in
theorem gL_refuses_L_act : GoodIn wsL_refuses (va_wsS RL 86 yL_act wsL_act) := goodIn_app (goodIn_of _ (by decide +kernel)) ggL_refuses_L_act
set_option maxRecDepth 200000 in
theorem ggL_refuses_L_lock : GoodIn wsL_refuses wsL_lock := goodIn_ca (goodIn_ca (goodIn_r _ [211, 84, 85, 212, 213, 214, 6, 215, 90, 91, 79, 42, 43, 44, 216, 217, 218, 123, 124, 125, 126, 92, 93, 219, 165, 220, 221, 181, 188, 187, 222, 164, 166, 167, 168, 223, 224, 225, 226, 227, 228, 229, 230, 231, 240, 241, 242, 243, 244] rfl (by decide +kernel)) (goodIn_sub (fun _ h => List.mem_cons_of_mem _ (List.mem_append_left _ (List.mem_append_left _ (List.mem_append_left _ (List.mem_append_right _ h))))) (by decide +kernel))) (goodIn_sub (fun _ h => List.mem_cons_of_mem _ (List.mem_append_left _ (List.mem_append_left _ (List.mem_append_right _ h)))) (by decide +kernel))
set_option maxRecDepth 20000 in
theorem gL_refuses_L_lock : GoodIn wsL_refuses (va_wsS RL 90 yL_lock wsL_lock) := goodIn_app (goodIn_of _ (by decide +kernel)) ggL_refuses_L_lock
theorem dL_refuses_0 : decode cL_refuses 0 = .ok (.aload_n 0, 1) := by decide +kernel
theorem dL_refuses_1 : decode cL_refuses 1 = .ok (.invokevirtual 66, 3) := by decide +kernel
theorem dL_refuses_4 : decode cL_refuses 4 = .ok (.istore_n 3, 1) := by decide +kernel
theorem dL_refuses_5 : decode cL_refuses 5 = .ok (.aload_n 0, 1) := by decide +kernel
theorem dL_refuses_6 : decode cL_refuses 6 = .ok (.invokevirtual 69, 3) := by decide +kernel
theorem dL_refuses_9 : decode cL_refuses 9 = .ok (.istore 4, 2) := by decide +kernel
theorem dL_refuses_11 : decode cL_refuses 11 = .ok (.aload_n 0, 1) := by decide +kernel
theorem dL_refuses_12 : decode cL_refuses 12 = .ok (.invokevirtual 72, 3) := by decide +kernel
theorem dL_refuses_15 : decode cL_refuses 15 = .ok (.istore 5, 2) := by decide +kernel
theorem dL_refuses_17 : decode cL_refuses 17 = .ok (.aload_n 0, 1) := by decide +kernel
theorem dL_refuses_18 : decode cL_refuses 18 = .ok (.invokevirtual 75, 3) := by decide +kernel
theorem dL_refuses_21 : decode cL_refuses 21 = .ok (.istore 6, 2) := by decide +kernel
theorem dL_refuses_23 : decode cL_refuses 23 = .ok (.ldc 79, 2) := by decide +kernel
theorem dL_refuses_25 : decode cL_refuses 25 = .ok (.istore 7, 2) := by decide +kernel
theorem dL_refuses_27 : decode cL_refuses 27 = .ok (.iconst 0, 1) := by decide +kernel
theorem dL_refuses_28 : decode cL_refuses 28 = .ok (.istore 8, 2) := by decide +kernel
theorem dL_refuses_30 : decode cL_refuses 30 = .ok (.iload 8, 2) := by decide +kernel
theorem dL_refuses_32 : decode cL_refuses 32 = .ok (.iconst 4, 1) := by decide +kernel
theorem dL_refuses_33 : decode cL_refuses 33 = .ok (.if_icmp .ge 580, 3) := by decide +kernel
theorem dL_refuses_36 : decode cL_refuses 36 = .ok (.iload 8, 2) := by decide +kernel
theorem dL_refuses_38 : decode cL_refuses 38 = .ok (.ifCond .ne 8, 3) := by decide +kernel
theorem dL_refuses_41 : decode cL_refuses 41 = .ok (.bipush (-2), 2) := by decide +kernel
theorem dL_refuses_43 : decode cL_refuses 43 = .ok (.goto 29, 3) := by decide +kernel
theorem dL_refuses_46 : decode cL_refuses 46 = .ok (.iload 8, 2) := by decide +kernel
theorem dL_refuses_48 : decode cL_refuses 48 = .ok (.iconst 1, 1) := by decide +kernel
theorem dL_refuses_49 : decode cL_refuses 49 = .ok (.if_icmp .ne 7, 3) := by decide +kernel
theorem dL_refuses_52 : decode cL_refuses 52 = .ok (.iload_n 2, 1) := by decide +kernel
theorem dL_refuses_53 : decode cL_refuses 53 = .ok (.goto 19, 3) := by decide +kernel
theorem dL_refuses_56 : decode cL_refuses 56 = .ok (.iload 8, 2) := by decide +kernel
theorem dL_refuses_58 : decode cL_refuses 58 = .ok (.iconst 2, 1) := by decide +kernel
theorem dL_refuses_59 : decode cL_refuses 59 = .ok (.if_icmp .ne 8, 3) := by decide +kernel
theorem dL_refuses_62 : decode cL_refuses 62 = .ok (.iload 7, 2) := by decide +kernel
theorem dL_refuses_64 : decode cL_refuses 64 = .ok (.goto 8, 3) := by decide +kernel
theorem dL_refuses_67 : decode cL_refuses 67 = .ok (.iload 7, 2) := by decide +kernel
theorem dL_refuses_69 : decode cL_refuses 69 = .ok (.ineg, 1) := by decide +kernel
theorem dL_refuses_70 : decode cL_refuses 70 = .ok (.iconst 1, 1) := by decide +kernel
theorem dL_refuses_71 : decode cL_refuses 71 = .ok (.isub, 1) := by decide +kernel
theorem dL_refuses_72 : decode cL_refuses 72 = .ok (.istore 9, 2) := by decide +kernel
theorem dL_refuses_74 : decode cL_refuses 74 = .ok (.iload 8, 2) := by decide +kernel
theorem dL_refuses_76 : decode cL_refuses 76 = .ok (.iconst 2, 1) := by decide +kernel
theorem dL_refuses_77 : decode cL_refuses 77 = .ok (.if_icmp .ge 7, 3) := by decide +kernel
theorem dL_refuses_80 : decode cL_refuses 80 = .ok (.iconst (-1), 1) := by decide +kernel
theorem dL_refuses_81 : decode cL_refuses 81 = .ok (.goto 5, 3) := by decide +kernel
theorem dL_refuses_84 : decode cL_refuses 84 = .ok (.iload 9, 2) := by decide +kernel
theorem dL_refuses_86 : decode cL_refuses 86 = .ok (.istore 10, 2) := by decide +kernel
theorem dL_refuses_88 : decode cL_refuses 88 = .ok (.iload 8, 2) := by decide +kernel
theorem dL_refuses_90 : decode cL_refuses 90 = .ok (.ifCond .ne 7, 3) := by decide +kernel
theorem dL_refuses_93 : decode cL_refuses 93 = .ok (.iconst (-1), 1) := by decide +kernel
theorem dL_refuses_94 : decode cL_refuses 94 = .ok (.goto 16, 3) := by decide +kernel
theorem dL_refuses_97 : decode cL_refuses 97 = .ok (.iload 8, 2) := by decide +kernel
theorem dL_refuses_99 : decode cL_refuses 99 = .ok (.iconst 1, 1) := by decide +kernel
theorem dL_refuses_100 : decode cL_refuses 100 = .ok (.if_icmp .ne 8, 3) := by decide +kernel
theorem dL_refuses_103 : decode cL_refuses 103 = .ok (.bipush 100, 2) := by decide +kernel
theorem dL_refuses_105 : decode cL_refuses 105 = .ok (.goto 5, 3) := by decide +kernel
theorem dL_refuses_108 : decode cL_refuses 108 = .ok (.iload 9, 2) := by decide +kernel
theorem dL_refuses_110 : decode cL_refuses 110 = .ok (.istore 11, 2) := by decide +kernel
theorem dL_refuses_112 : decode cL_refuses 112 = .ok (.iload 8, 2) := by decide +kernel
theorem dL_refuses_114 : decode cL_refuses 114 = .ok (.ifCond .ne 7, 3) := by decide +kernel
theorem dL_refuses_117 : decode cL_refuses 117 = .ok (.iconst (-1), 1) := by decide +kernel
theorem dL_refuses_118 : decode cL_refuses 118 = .ok (.goto 15, 3) := by decide +kernel
theorem dL_refuses_121 : decode cL_refuses 121 = .ok (.iload 8, 2) := by decide +kernel
theorem dL_refuses_123 : decode cL_refuses 123 = .ok (.iconst 1, 1) := by decide +kernel
theorem dL_refuses_124 : decode cL_refuses 124 = .ok (.if_icmp .ne 7, 3) := by decide +kernel
theorem dL_refuses_127 : decode cL_refuses 127 = .ok (.iconst 3, 1) := by decide +kernel
theorem dL_refuses_128 : decode cL_refuses 128 = .ok (.goto 5, 3) := by decide +kernel
theorem dL_refuses_131 : decode cL_refuses 131 = .ok (.iload 9, 2) := by decide +kernel
theorem dL_refuses_133 : decode cL_refuses 133 = .ok (.istore 12, 2) := by decide +kernel
theorem dL_refuses_135 : decode cL_refuses 135 = .ok (.aload_n 0, 1) := by decide +kernel
theorem dL_refuses_136 : decode cL_refuses 136 = .ok (.iload 12, 2) := by decide +kernel
theorem dL_refuses_138 : decode cL_refuses 138 = .ok (.iconst 5, 1) := by decide +kernel
theorem dL_refuses_139 : decode cL_refuses 139 = .ok (.iconst 5, 1) := by decide +kernel
theorem dL_refuses_140 : decode cL_refuses 140 = .ok (.iconst 0, 1) := by decide +kernel
theorem dL_refuses_141 : decode cL_refuses 141 = .ok (.iconst 0, 1) := by decide +kernel
theorem dL_refuses_142 : decode cL_refuses 142 = .ok (.invokestatic 80, 3) := by decide +kernel
theorem dL_refuses_145 : decode cL_refuses 145 = .ok (.bipush (-72), 2) := by decide +kernel
theorem dL_refuses_147 : decode cL_refuses 147 = .ok (.if_icmp .ne 257, 3) := by decide +kernel
theorem dL_refuses_150 : decode cL_refuses 150 = .ok (.aload_n 0, 1) := by decide +kernel
theorem dL_refuses_151 : decode cL_refuses 151 = .ok (.iconst 0, 1) := by decide +kernel
theorem dL_refuses_152 : decode cL_refuses 152 = .ok (.iload 11, 2) := by decide +kernel
theorem dL_refuses_154 : decode cL_refuses 154 = .ok (.iconst 5, 1) := by decide +kernel
theorem dL_refuses_155 : decode cL_refuses 155 = .ok (.iconst 0, 1) := by decide +kernel
theorem dL_refuses_156 : decode cL_refuses 156 = .ok (.iconst 0, 1) := by decide +kernel
theorem dL_refuses_157 : decode cL_refuses 157 = .ok (.invokestatic 80, 3) := by decide +kernel
theorem dL_refuses_160 : decode cL_refuses 160 = .ok (.bipush (-72), 2) := by decide +kernel
theorem dL_refuses_162 : decode cL_refuses 162 = .ok (.if_icmp .ne 242, 3) := by decide +kernel
theorem dL_refuses_165 : decode cL_refuses 165 = .ok (.aload_n 0, 1) := by decide +kernel
theorem dL_refuses_166 : decode cL_refuses 166 = .ok (.iconst 0, 1) := by decide +kernel
theorem dL_refuses_167 : decode cL_refuses 167 = .ok (.iconst 5, 1) := by decide +kernel
theorem dL_refuses_168 : decode cL_refuses 168 = .ok (.iload 8, 2) := by decide +kernel
theorem dL_refuses_170 : decode cL_refuses 170 = .ok (.ifCond .ne 7, 3) := by decide +kernel
theorem dL_refuses_173 : decode cL_refuses 173 = .ok (.iconst (-1), 1) := by decide +kernel
theorem dL_refuses_174 : decode cL_refuses 174 = .ok (.goto 17, 3) := by decide +kernel
theorem dL_refuses_177 : decode cL_refuses 177 = .ok (.iload 8, 2) := by decide +kernel
theorem dL_refuses_179 : decode cL_refuses 179 = .ok (.iconst 1, 1) := by decide +kernel
theorem dL_refuses_180 : decode cL_refuses 180 = .ok (.if_icmp .ne 8, 3) := by decide +kernel
theorem dL_refuses_183 : decode cL_refuses 183 = .ok (.ldc 85, 2) := by decide +kernel
theorem dL_refuses_185 : decode cL_refuses 185 = .ok (.goto 6, 3) := by decide +kernel
theorem dL_refuses_188 : decode cL_refuses 188 = .ok (.iload 7, 2) := by decide +kernel
theorem dL_refuses_190 : decode cL_refuses 190 = .ok (.ineg, 1) := by decide +kernel
theorem dL_refuses_191 : decode cL_refuses 191 = .ok (.iconst 0, 1) := by decide +kernel
theorem dL_refuses_192 : decode cL_refuses 192 = .ok (.iconst 0, 1) := by decide +kernel
theorem dL_refuses_193 : decode cL_refuses 193 = .ok (.invokestatic 80, 3) := by decide +kernel
theorem dL_refuses_196 : decode cL_refuses 196 = .ok (.bipush (-72), 2) := by decide +kernel
theorem dL_refuses_198 : decode cL_refuses 198 = .ok (.if_icmp .ne 206, 3) := by decide +kernel
theorem dL_refuses_201 : decode cL_refuses 201 = .ok (.aload_n 0, 1) := by decide +kernel
theorem dL_refuses_202 : decode cL_refuses 202 = .ok (.iconst 0, 1) := by decide +kernel
theorem dL_refuses_203 : decode cL_refuses 203 = .ok (.iconst 5, 1) := by decide +kernel
theorem dL_refuses_204 : decode cL_refuses 204 = .ok (.iconst 5, 1) := by decide +kernel
theorem dL_refuses_205 : decode cL_refuses 205 = .ok (.iload 12, 2) := by decide +kernel
theorem dL_refuses_207 : decode cL_refuses 207 = .ok (.iconst 0, 1) := by decide +kernel
theorem dL_refuses_208 : decode cL_refuses 208 = .ok (.invokestatic 80, 3) := by decide +kernel
theorem dL_refuses_211 : decode cL_refuses 211 = .ok (.bipush (-72), 2) := by decide +kernel
theorem dL_refuses_213 : decode cL_refuses 213 = .ok (.if_icmp .ne 191, 3) := by decide +kernel
theorem dL_refuses_216 : decode cL_refuses 216 = .ok (.aload_n 0, 1) := by decide +kernel
theorem dL_refuses_217 : decode cL_refuses 217 = .ok (.iconst 0, 1) := by decide +kernel
theorem dL_refuses_218 : decode cL_refuses 218 = .ok (.iconst 5, 1) := by decide +kernel
theorem dL_refuses_219 : decode cL_refuses 219 = .ok (.iconst 5, 1) := by decide +kernel
theorem dL_refuses_220 : decode cL_refuses 220 = .ok (.iconst 0, 1) := by decide +kernel
theorem dL_refuses_221 : decode cL_refuses 221 = .ok (.iload 8, 2) := by decide +kernel
theorem dL_refuses_223 : decode cL_refuses 223 = .ok (.ifCond .ne 8, 3) := by decide +kernel
theorem dL_refuses_226 : decode cL_refuses 226 = .ok (.bipush (-2), 2) := by decide +kernel
theorem dL_refuses_228 : decode cL_refuses 228 = .ok (.goto 16, 3) := by decide +kernel
theorem dL_refuses_231 : decode cL_refuses 231 = .ok (.iload 8, 2) := by decide +kernel
theorem dL_refuses_233 : decode cL_refuses 233 = .ok (.iconst 1, 1) := by decide +kernel
theorem dL_refuses_234 : decode cL_refuses 234 = .ok (.if_icmp .ne 8, 3) := by decide +kernel
theorem dL_refuses_237 : decode cL_refuses 237 = .ok (.bipush 10, 2) := by decide +kernel
theorem dL_refuses_239 : decode cL_refuses 239 = .ok (.goto 5, 3) := by decide +kernel
theorem dL_refuses_242 : decode cL_refuses 242 = .ok (.iload 9, 2) := by decide +kernel
theorem dL_refuses_244 : decode cL_refuses 244 = .ok (.invokestatic 80, 3) := by decide +kernel
theorem dL_refuses_247 : decode cL_refuses 247 = .ok (.bipush (-72), 2) := by decide +kernel
theorem dL_refuses_249 : decode cL_refuses 249 = .ok (.if_icmp .ne 155, 3) := by decide +kernel
theorem dL_refuses_252 : decode cL_refuses 252 = .ok (.aload_n 0, 1) := by decide +kernel
theorem dL_refuses_253 : decode cL_refuses 253 = .ok (.iconst 1, 1) := by decide +kernel
theorem dL_refuses_254 : decode cL_refuses 254 = .ok (.iload 9, 2) := by decide +kernel
theorem dL_refuses_256 : decode cL_refuses 256 = .ok (.iconst (-1), 1) := by decide +kernel
theorem dL_refuses_257 : decode cL_refuses 257 = .ok (.invokestatic 86, 3) := by decide +kernel
theorem dL_refuses_260 : decode cL_refuses 260 = .ok (.bipush (-71), 2) := by decide +kernel
theorem dL_refuses_262 : decode cL_refuses 262 = .ok (.if_icmp .ne 142, 3) := by decide +kernel
theorem dL_refuses_265 : decode cL_refuses 265 = .ok (.aload_n 0, 1) := by decide +kernel
theorem dL_refuses_266 : decode cL_refuses 266 = .ok (.iconst 1, 1) := by decide +kernel
theorem dL_refuses_267 : decode cL_refuses 267 = .ok (.iload_n 1, 1) := by decide +kernel
theorem dL_refuses_268 : decode cL_refuses 268 = .ok (.iload 11, 2) := by decide +kernel
theorem dL_refuses_270 : decode cL_refuses 270 = .ok (.invokestatic 86, 3) := by decide +kernel
theorem dL_refuses_273 : decode cL_refuses 273 = .ok (.bipush (-72), 2) := by decide +kernel
theorem dL_refuses_275 : decode cL_refuses 275 = .ok (.if_icmp .ne 129, 3) := by decide +kernel
theorem dL_refuses_278 : decode cL_refuses 278 = .ok (.aload_n 0, 1) := by decide +kernel
theorem dL_refuses_279 : decode cL_refuses 279 = .ok (.iconst 4, 1) := by decide +kernel
theorem dL_refuses_280 : decode cL_refuses 280 = .ok (.iload 11, 2) := by decide +kernel
theorem dL_refuses_282 : decode cL_refuses 282 = .ok (.bipush 99, 2) := by decide +kernel
theorem dL_refuses_284 : decode cL_refuses 284 = .ok (.invokestatic 86, 3) := by decide +kernel
theorem dL_refuses_287 : decode cL_refuses 287 = .ok (.bipush (-72), 2) := by decide +kernel
theorem dL_refuses_289 : decode cL_refuses 289 = .ok (.if_icmp .ne 115, 3) := by decide +kernel
theorem dL_refuses_292 : decode cL_refuses 292 = .ok (.aload_n 0, 1) := by decide +kernel
theorem dL_refuses_293 : decode cL_refuses 293 = .ok (.iconst 4, 1) := by decide +kernel
theorem dL_refuses_294 : decode cL_refuses 294 = .ok (.iconst 5, 1) := by decide +kernel
theorem dL_refuses_295 : decode cL_refuses 295 = .ok (.iload 8, 2) := by decide +kernel
theorem dL_refuses_297 : decode cL_refuses 297 = .ok (.ifCond .ne 7, 3) := by decide +kernel
theorem dL_refuses_300 : decode cL_refuses 300 = .ok (.iconst 4, 1) := by decide +kernel
theorem dL_refuses_301 : decode cL_refuses 301 = .ok (.goto 5, 3) := by decide +kernel
theorem dL_refuses_304 : decode cL_refuses 304 = .ok (.iload 11, 2) := by decide +kernel
theorem dL_refuses_306 : decode cL_refuses 306 = .ok (.invokestatic 86, 3) := by decide +kernel
theorem dL_refuses_309 : decode cL_refuses 309 = .ok (.bipush (-72), 2) := by decide +kernel
theorem dL_refuses_311 : decode cL_refuses 311 = .ok (.if_icmp .ne 93, 3) := by decide +kernel
theorem dL_refuses_314 : decode cL_refuses 314 = .ok (.aload_n 0, 1) := by decide +kernel
theorem dL_refuses_315 : decode cL_refuses 315 = .ok (.bipush 7, 2) := by decide +kernel
theorem dL_refuses_317 : decode cL_refuses 317 = .ok (.iload 8, 2) := by decide +kernel
theorem dL_refuses_319 : decode cL_refuses 319 = .ok (.ifCond .ne 7, 3) := by decide +kernel
theorem dL_refuses_322 : decode cL_refuses 322 = .ok (.iconst (-1), 1) := by decide +kernel
theorem dL_refuses_323 : decode cL_refuses 323 = .ok (.goto 16, 3) := by decide +kernel
theorem dL_refuses_326 : decode cL_refuses 326 = .ok (.iload 8, 2) := by decide +kernel
theorem dL_refuses_328 : decode cL_refuses 328 = .ok (.iconst 1, 1) := by decide +kernel
theorem dL_refuses_329 : decode cL_refuses 329 = .ok (.if_icmp .ne 8, 3) := by decide +kernel
theorem dL_refuses_332 : decode cL_refuses 332 = .ok (.bipush 10, 2) := by decide +kernel
theorem dL_refuses_334 : decode cL_refuses 334 = .ok (.goto 5, 3) := by decide +kernel
theorem dL_refuses_337 : decode cL_refuses 337 = .ok (.iload 9, 2) := by decide +kernel
theorem dL_refuses_339 : decode cL_refuses 339 = .ok (.iconst 0, 1) := by decide +kernel
theorem dL_refuses_340 : decode cL_refuses 340 = .ok (.invokestatic 86, 3) := by decide +kernel
theorem dL_refuses_343 : decode cL_refuses 343 = .ok (.bipush (-72), 2) := by decide +kernel
theorem dL_refuses_345 : decode cL_refuses 345 = .ok (.if_icmp .ne 59, 3) := by decide +kernel
theorem dL_refuses_348 : decode cL_refuses 348 = .ok (.aload_n 0, 1) := by decide +kernel
theorem dL_refuses_349 : decode cL_refuses 349 = .ok (.bipush 8, 2) := by decide +kernel
theorem dL_refuses_351 : decode cL_refuses 351 = .ok (.iload 8, 2) := by decide +kernel
theorem dL_refuses_353 : decode cL_refuses 353 = .ok (.iconst 1, 1) := by decide +kernel
theorem dL_refuses_354 : decode cL_refuses 354 = .ok (.if_icmp .ne 7, 3) := by decide +kernel
theorem dL_refuses_357 : decode cL_refuses 357 = .ok (.iload_n 3, 1) := by decide +kernel
theorem dL_refuses_358 : decode cL_refuses 358 = .ok (.goto 5, 3) := by decide +kernel
theorem dL_refuses_361 : decode cL_refuses 361 = .ok (.iload 9, 2) := by decide +kernel
theorem dL_refuses_363 : decode cL_refuses 363 = .ok (.iconst 0, 1) := by decide +kernel
theorem dL_refuses_364 : decode cL_refuses 364 = .ok (.invokestatic 86, 3) := by decide +kernel
theorem dL_refuses_367 : decode cL_refuses 367 = .ok (.bipush (-71), 2) := by decide +kernel
theorem dL_refuses_369 : decode cL_refuses 369 = .ok (.if_icmp .ne 35, 3) := by decide +kernel
theorem dL_refuses_372 : decode cL_refuses 372 = .ok (.aload_n 0, 1) := by decide +kernel
theorem dL_refuses_373 : decode cL_refuses 373 = .ok (.bipush 11, 2) := by decide +kernel
theorem dL_refuses_375 : decode cL_refuses 375 = .ok (.iload 9, 2) := by decide +kernel
theorem dL_refuses_377 : decode cL_refuses 377 = .ok (.iload_n 1, 1) := by decide +kernel
theorem dL_refuses_378 : decode cL_refuses 378 = .ok (.invokestatic 86, 3) := by decide +kernel
theorem dL_refuses_381 : decode cL_refuses 381 = .ok (.bipush (-71), 2) := by decide +kernel
theorem dL_refuses_383 : decode cL_refuses 383 = .ok (.if_icmp .ne 21, 3) := by decide +kernel
theorem dL_refuses_386 : decode cL_refuses 386 = .ok (.aload_n 0, 1) := by decide +kernel
theorem dL_refuses_387 : decode cL_refuses 387 = .ok (.bipush 11, 2) := by decide +kernel
theorem dL_refuses_389 : decode cL_refuses 389 = .ok (.iload_n 1, 1) := by decide +kernel
theorem dL_refuses_390 : decode cL_refuses 390 = .ok (.iload 9, 2) := by decide +kernel
theorem dL_refuses_392 : decode cL_refuses 392 = .ok (.invokestatic 86, 3) := by decide +kernel
theorem dL_refuses_395 : decode cL_refuses 395 = .ok (.bipush (-71), 2) := by decide +kernel
theorem dL_refuses_397 : decode cL_refuses 397 = .ok (.if_icmp .ne 7, 3) := by decide +kernel
theorem dL_refuses_400 : decode cL_refuses 400 = .ok (.iconst 1, 1) := by decide +kernel
theorem dL_refuses_401 : decode cL_refuses 401 = .ok (.goto 4, 3) := by decide +kernel
theorem dL_refuses_404 : decode cL_refuses 404 = .ok (.iconst 0, 1) := by decide +kernel
theorem dL_refuses_405 : decode cL_refuses 405 = .ok (.istore 13, 2) := by decide +kernel
theorem dL_refuses_407 : decode cL_refuses 407 = .ok (.iload 13, 2) := by decide +kernel
theorem dL_refuses_409 : decode cL_refuses 409 = .ok (.ifCond .eq 124, 3) := by decide +kernel
theorem dL_refuses_412 : decode cL_refuses 412 = .ok (.aload_n 0, 1) := by decide +kernel
theorem dL_refuses_413 : decode cL_refuses 413 = .ok (.iconst 5, 1) := by decide +kernel
theorem dL_refuses_414 : decode cL_refuses 414 = .ok (.iload 8, 2) := by decide +kernel
theorem dL_refuses_416 : decode cL_refuses 416 = .ok (.ifCond .ne 7, 3) := by decide +kernel
theorem dL_refuses_419 : decode cL_refuses 419 = .ok (.iconst 0, 1) := by decide +kernel
theorem dL_refuses_420 : decode cL_refuses 420 = .ok (.goto 16, 3) := by decide +kernel
theorem dL_refuses_423 : decode cL_refuses 423 = .ok (.iload 8, 2) := by decide +kernel
theorem dL_refuses_425 : decode cL_refuses 425 = .ok (.iconst 1, 1) := by decide +kernel
theorem dL_refuses_426 : decode cL_refuses 426 = .ok (.if_icmp .ne 8, 3) := by decide +kernel
theorem dL_refuses_429 : decode cL_refuses 429 = .ok (.bipush 7, 2) := by decide +kernel
theorem dL_refuses_431 : decode cL_refuses 431 = .ok (.goto 5, 3) := by decide +kernel
theorem dL_refuses_434 : decode cL_refuses 434 = .ok (.iload 9, 2) := by decide +kernel
theorem dL_refuses_436 : decode cL_refuses 436 = .ok (.invokestatic 90, 3) := by decide +kernel
theorem dL_refuses_439 : decode cL_refuses 439 = .ok (.bipush (-72), 2) := by decide +kernel
theorem dL_refuses_441 : decode cL_refuses 441 = .ok (.if_icmp .ne 92, 3) := by decide +kernel
theorem dL_refuses_444 : decode cL_refuses 444 = .ok (.aload_n 0, 1) := by decide +kernel
theorem dL_refuses_445 : decode cL_refuses 445 = .ok (.iload 8, 2) := by decide +kernel
theorem dL_refuses_447 : decode cL_refuses 447 = .ok (.ifCond .ne 7, 3) := by decide +kernel
theorem dL_refuses_450 : decode cL_refuses 450 = .ok (.iconst (-1), 1) := by decide +kernel
theorem dL_refuses_451 : decode cL_refuses 451 = .ok (.goto 17, 3) := by decide +kernel
theorem dL_refuses_454 : decode cL_refuses 454 = .ok (.iload 8, 2) := by decide +kernel
theorem dL_refuses_456 : decode cL_refuses 456 = .ok (.iconst 1, 1) := by decide +kernel
theorem dL_refuses_457 : decode cL_refuses 457 = .ok (.if_icmp .ne 9, 3) := by decide +kernel
theorem dL_refuses_460 : decode cL_refuses 460 = .ok (.sipush 1000, 3) := by decide +kernel
theorem dL_refuses_463 : decode cL_refuses 463 = .ok (.goto 5, 3) := by decide +kernel
theorem dL_refuses_466 : decode cL_refuses 466 = .ok (.iload 9, 2) := by decide +kernel
theorem dL_refuses_468 : decode cL_refuses 468 = .ok (.iconst 3, 1) := by decide +kernel
theorem dL_refuses_469 : decode cL_refuses 469 = .ok (.invokestatic 90, 3) := by decide +kernel
theorem dL_refuses_472 : decode cL_refuses 472 = .ok (.bipush (-72), 2) := by decide +kernel
theorem dL_refuses_474 : decode cL_refuses 474 = .ok (.if_icmp .ne 59, 3) := by decide +kernel
theorem dL_refuses_477 : decode cL_refuses 477 = .ok (.aload_n 0, 1) := by decide +kernel
theorem dL_refuses_478 : decode cL_refuses 478 = .ok (.iconst 2, 1) := by decide +kernel
theorem dL_refuses_479 : decode cL_refuses 479 = .ok (.iload 9, 2) := by decide +kernel
theorem dL_refuses_481 : decode cL_refuses 481 = .ok (.iconst 0, 1) := by decide +kernel
theorem dL_refuses_482 : decode cL_refuses 482 = .ok (.invokestatic 86, 3) := by decide +kernel
theorem dL_refuses_485 : decode cL_refuses 485 = .ok (.bipush (-71), 2) := by decide +kernel
theorem dL_refuses_487 : decode cL_refuses 487 = .ok (.if_icmp .ne 46, 3) := by decide +kernel
theorem dL_refuses_490 : decode cL_refuses 490 = .ok (.aload_n 0, 1) := by decide +kernel
theorem dL_refuses_491 : decode cL_refuses 491 = .ok (.iconst 3, 1) := by decide +kernel
theorem dL_refuses_492 : decode cL_refuses 492 = .ok (.iload 9, 2) := by decide +kernel
theorem dL_refuses_494 : decode cL_refuses 494 = .ok (.iconst 0, 1) := by decide +kernel
theorem dL_refuses_495 : decode cL_refuses 495 = .ok (.invokestatic 86, 3) := by decide +kernel
theorem dL_refuses_498 : decode cL_refuses 498 = .ok (.bipush (-71), 2) := by decide +kernel
theorem dL_refuses_500 : decode cL_refuses 500 = .ok (.if_icmp .ne 33, 3) := by decide +kernel
theorem dL_refuses_503 : decode cL_refuses 503 = .ok (.aload_n 0, 1) := by decide +kernel
theorem dL_refuses_504 : decode cL_refuses 504 = .ok (.iconst 0, 1) := by decide +kernel
theorem dL_refuses_505 : decode cL_refuses 505 = .ok (.iload 9, 2) := by decide +kernel
theorem dL_refuses_507 : decode cL_refuses 507 = .ok (.iconst 0, 1) := by decide +kernel
theorem dL_refuses_508 : decode cL_refuses 508 = .ok (.invokestatic 86, 3) := by decide +kernel
theorem dL_refuses_511 : decode cL_refuses 511 = .ok (.bipush (-71), 2) := by decide +kernel
theorem dL_refuses_513 : decode cL_refuses 513 = .ok (.if_icmp .ne 20, 3) := by decide +kernel
theorem dL_refuses_516 : decode cL_refuses 516 = .ok (.aload_n 0, 1) := by decide +kernel
theorem dL_refuses_517 : decode cL_refuses 517 = .ok (.iconst 0, 1) := by decide +kernel
theorem dL_refuses_518 : decode cL_refuses 518 = .ok (.iload 10, 2) := by decide +kernel
theorem dL_refuses_520 : decode cL_refuses 520 = .ok (.iconst 0, 1) := by decide +kernel
theorem dL_refuses_521 : decode cL_refuses 521 = .ok (.invokestatic 86, 3) := by decide +kernel
theorem dL_refuses_524 : decode cL_refuses 524 = .ok (.bipush (-71), 2) := by decide +kernel
theorem dL_refuses_526 : decode cL_refuses 526 = .ok (.if_icmp .ne 7, 3) := by decide +kernel
theorem dL_refuses_529 : decode cL_refuses 529 = .ok (.iconst 1, 1) := by decide +kernel
theorem dL_refuses_530 : decode cL_refuses 530 = .ok (.goto 4, 3) := by decide +kernel
theorem dL_refuses_533 : decode cL_refuses 533 = .ok (.iconst 0, 1) := by decide +kernel
theorem dL_refuses_534 : decode cL_refuses 534 = .ok (.istore 13, 2) := by decide +kernel
theorem dL_refuses_536 : decode cL_refuses 536 = .ok (.bipush 9, 2) := by decide +kernel
theorem dL_refuses_538 : decode cL_refuses 538 = .ok (.istore 14, 2) := by decide +kernel
theorem dL_refuses_540 : decode cL_refuses 540 = .ok (.iload 14, 2) := by decide +kernel
theorem dL_refuses_542 : decode cL_refuses 542 = .ok (.bipush 13, 2) := by decide +kernel
theorem dL_refuses_544 : decode cL_refuses 544 = .ok (.if_icmp .ge 56, 3) := by decide +kernel
theorem dL_refuses_547 : decode cL_refuses 547 = .ok (.iload 13, 2) := by decide +kernel
theorem dL_refuses_549 : decode cL_refuses 549 = .ok (.ifCond .eq 42, 3) := by decide +kernel
theorem dL_refuses_552 : decode cL_refuses 552 = .ok (.iload 14, 2) := by decide +kernel
theorem dL_refuses_554 : decode cL_refuses 554 = .ok (.bipush 11, 2) := by decide +kernel
theorem dL_refuses_556 : decode cL_refuses 556 = .ok (.if_icmp .eq 31, 3) := by decide +kernel
theorem dL_refuses_559 : decode cL_refuses 559 = .ok (.aload_n 0, 1) := by decide +kernel
theorem dL_refuses_560 : decode cL_refuses 560 = .ok (.iload 14, 2) := by decide +kernel
theorem dL_refuses_562 : decode cL_refuses 562 = .ok (.iload 9, 2) := by decide +kernel
theorem dL_refuses_564 : decode cL_refuses 564 = .ok (.iconst 0, 1) := by decide +kernel
theorem dL_refuses_565 : decode cL_refuses 565 = .ok (.invokestatic 86, 3) := by decide +kernel
theorem dL_refuses_568 : decode cL_refuses 568 = .ok (.bipush (-71), 2) := by decide +kernel
theorem dL_refuses_570 : decode cL_refuses 570 = .ok (.if_icmp .ne 21, 3) := by decide +kernel
theorem dL_refuses_573 : decode cL_refuses 573 = .ok (.aload_n 0, 1) := by decide +kernel
theorem dL_refuses_574 : decode cL_refuses 574 = .ok (.iload 14, 2) := by decide +kernel
theorem dL_refuses_576 : decode cL_refuses 576 = .ok (.iload 10, 2) := by decide +kernel
theorem dL_refuses_578 : decode cL_refuses 578 = .ok (.iconst 0, 1) := by decide +kernel
theorem dL_refuses_579 : decode cL_refuses 579 = .ok (.invokestatic 86, 3) := by decide +kernel
theorem dL_refuses_582 : decode cL_refuses 582 = .ok (.bipush (-71), 2) := by decide +kernel
theorem dL_refuses_584 : decode cL_refuses 584 = .ok (.if_icmp .ne 7, 3) := by decide +kernel
theorem dL_refuses_587 : decode cL_refuses 587 = .ok (.iconst 1, 1) := by decide +kernel
theorem dL_refuses_588 : decode cL_refuses 588 = .ok (.goto 4, 3) := by decide +kernel
theorem dL_refuses_591 : decode cL_refuses 591 = .ok (.iconst 0, 1) := by decide +kernel
theorem dL_refuses_592 : decode cL_refuses 592 = .ok (.istore 13, 2) := by decide +kernel
theorem dL_refuses_594 : decode cL_refuses 594 = .ok (.iinc 14 1, 3) := by decide +kernel
theorem dL_refuses_597 : decode cL_refuses 597 = .ok (.goto (-57), 3) := by decide +kernel
theorem dL_refuses_600 : decode cL_refuses 600 = .ok (.iload 13, 2) := by decide +kernel
theorem dL_refuses_602 : decode cL_refuses 602 = .ok (.ifCond .ne 5, 3) := by decide +kernel
theorem dL_refuses_605 : decode cL_refuses 605 = .ok (.iconst 0, 1) := by decide +kernel
theorem dL_refuses_606 : decode cL_refuses 606 = .ok (.ireturn, 1) := by decide +kernel
theorem dL_refuses_607 : decode cL_refuses 607 = .ok (.iinc 8 1, 3) := by decide +kernel
theorem dL_refuses_610 : decode cL_refuses 610 = .ok (.goto (-580), 3) := by decide +kernel
theorem dL_refuses_613 : decode cL_refuses 613 = .ok (.iload 6, 2) := by decide +kernel
theorem dL_refuses_615 : decode cL_refuses 615 = .ok (.ifCond .eq 71, 3) := by decide +kernel
theorem dL_refuses_618 : decode cL_refuses 618 = .ok (.aload_n 0, 1) := by decide +kernel
theorem dL_refuses_619 : decode cL_refuses 619 = .ok (.iconst 1, 1) := by decide +kernel
theorem dL_refuses_620 : decode cL_refuses 620 = .ok (.iload_n 1, 1) := by decide +kernel
theorem dL_refuses_621 : decode cL_refuses 621 = .ok (.iconst 5, 1) := by decide +kernel
theorem dL_refuses_622 : decode cL_refuses 622 = .ok (.invokestatic 86, 3) := by decide +kernel
theorem dL_refuses_625 : decode cL_refuses 625 = .ok (.bipush (-73), 2) := by decide +kernel
theorem dL_refuses_627 : decode cL_refuses 627 = .ok (.if_icmp .ne 55, 3) := by decide +kernel
theorem dL_refuses_630 : decode cL_refuses 630 = .ok (.aload_n 0, 1) := by decide +kernel
theorem dL_refuses_631 : decode cL_refuses 631 = .ok (.iconst 2, 1) := by decide +kernel
theorem dL_refuses_632 : decode cL_refuses 632 = .ok (.iload_n 1, 1) := by decide +kernel
theorem dL_refuses_633 : decode cL_refuses 633 = .ok (.iconst 0, 1) := by decide +kernel
theorem dL_refuses_634 : decode cL_refuses 634 = .ok (.invokestatic 86, 3) := by decide +kernel
theorem dL_refuses_637 : decode cL_refuses 637 = .ok (.bipush (-73), 2) := by decide +kernel
theorem dL_refuses_639 : decode cL_refuses 639 = .ok (.if_icmp .ne 43, 3) := by decide +kernel
theorem dL_refuses_642 : decode cL_refuses 642 = .ok (.aload_n 0, 1) := by decide +kernel
theorem dL_refuses_643 : decode cL_refuses 643 = .ok (.iconst 2, 1) := by decide +kernel
theorem dL_refuses_644 : decode cL_refuses 644 = .ok (.iconst (-1), 1) := by decide +kernel
theorem dL_refuses_645 : decode cL_refuses 645 = .ok (.iconst 0, 1) := by decide +kernel
theorem dL_refuses_646 : decode cL_refuses 646 = .ok (.invokestatic 86, 3) := by decide +kernel
theorem dL_refuses_649 : decode cL_refuses 649 = .ok (.bipush (-73), 2) := by decide +kernel
theorem dL_refuses_651 : decode cL_refuses 651 = .ok (.if_icmp .ne 31, 3) := by decide +kernel
theorem dL_refuses_654 : decode cL_refuses 654 = .ok (.aload_n 0, 1) := by decide +kernel
theorem dL_refuses_655 : decode cL_refuses 655 = .ok (.iconst 4, 1) := by decide +kernel
theorem dL_refuses_656 : decode cL_refuses 656 = .ok (.iconst 5, 1) := by decide +kernel
theorem dL_refuses_657 : decode cL_refuses 657 = .ok (.bipush 6, 2) := by decide +kernel
theorem dL_refuses_659 : decode cL_refuses 659 = .ok (.invokestatic 86, 3) := by decide +kernel
theorem dL_refuses_662 : decode cL_refuses 662 = .ok (.bipush (-73), 2) := by decide +kernel
theorem dL_refuses_664 : decode cL_refuses 664 = .ok (.if_icmp .ne 18, 3) := by decide +kernel
theorem dL_refuses_667 : decode cL_refuses 667 = .ok (.aload_n 0, 1) := by decide +kernel
theorem dL_refuses_668 : decode cL_refuses 668 = .ok (.iconst 5, 1) := by decide +kernel
theorem dL_refuses_669 : decode cL_refuses 669 = .ok (.iconst 1, 1) := by decide +kernel
theorem dL_refuses_670 : decode cL_refuses 670 = .ok (.invokestatic 90, 3) := by decide +kernel
theorem dL_refuses_673 : decode cL_refuses 673 = .ok (.bipush (-73), 2) := by decide +kernel
theorem dL_refuses_675 : decode cL_refuses 675 = .ok (.if_icmp .ne 7, 3) := by decide +kernel
theorem dL_refuses_678 : decode cL_refuses 678 = .ok (.iconst 1, 1) := by decide +kernel
theorem dL_refuses_679 : decode cL_refuses 679 = .ok (.goto 25, 3) := by decide +kernel
theorem dL_refuses_682 : decode cL_refuses 682 = .ok (.iconst 0, 1) := by decide +kernel
theorem dL_refuses_683 : decode cL_refuses 683 = .ok (.goto 21, 3) := by decide +kernel
theorem dL_refuses_686 : decode cL_refuses 686 = .ok (.aload_n 0, 1) := by decide +kernel
theorem dL_refuses_687 : decode cL_refuses 687 = .ok (.bipush 7, 2) := by decide +kernel
theorem dL_refuses_689 : decode cL_refuses 689 = .ok (.iconst 5, 1) := by decide +kernel
theorem dL_refuses_690 : decode cL_refuses 690 = .ok (.iconst 0, 1) := by decide +kernel
theorem dL_refuses_691 : decode cL_refuses 691 = .ok (.invokestatic 86, 3) := by decide +kernel
theorem dL_refuses_694 : decode cL_refuses 694 = .ok (.bipush (-73), 2) := by decide +kernel
theorem dL_refuses_696 : decode cL_refuses 696 = .ok (.if_icmp .ne 7, 3) := by decide +kernel
theorem dL_refuses_699 : decode cL_refuses 699 = .ok (.iconst 1, 1) := by decide +kernel
theorem dL_refuses_700 : decode cL_refuses 700 = .ok (.goto 4, 3) := by decide +kernel
theorem dL_refuses_703 : decode cL_refuses 703 = .ok (.iconst 0, 1) := by decide +kernel
theorem dL_refuses_704 : decode cL_refuses 704 = .ok (.istore 8, 2) := by decide +kernel
theorem dL_refuses_706 : decode cL_refuses 706 = .ok (.iload 8, 2) := by decide +kernel
theorem dL_refuses_708 : decode cL_refuses 708 = .ok (.ifCond .eq 42, 3) := by decide +kernel
theorem dL_refuses_711 : decode cL_refuses 711 = .ok (.aload_n 0, 1) := by decide +kernel
theorem dL_refuses_712 : decode cL_refuses 712 = .ok (.invokevirtual 66, 3) := by decide +kernel
theorem dL_refuses_715 : decode cL_refuses 715 = .ok (.iload_n 3, 1) := by decide +kernel
theorem dL_refuses_716 : decode cL_refuses 716 = .ok (.if_icmp .ne 34, 3) := by decide +kernel
theorem dL_refuses_719 : decode cL_refuses 719 = .ok (.aload_n 0, 1) := by decide +kernel
theorem dL_refuses_720 : decode cL_refuses 720 = .ok (.invokevirtual 69, 3) := by decide +kernel
theorem dL_refuses_723 : decode cL_refuses 723 = .ok (.iload 4, 2) := by decide +kernel
theorem dL_refuses_725 : decode cL_refuses 725 = .ok (.if_icmp .ne 25, 3) := by decide +kernel
theorem dL_refuses_728 : decode cL_refuses 728 = .ok (.aload_n 0, 1) := by decide +kernel
theorem dL_refuses_729 : decode cL_refuses 729 = .ok (.invokevirtual 72, 3) := by decide +kernel
theorem dL_refuses_732 : decode cL_refuses 732 = .ok (.iload 5, 2) := by decide +kernel
theorem dL_refuses_734 : decode cL_refuses 734 = .ok (.if_icmp .ne 16, 3) := by decide +kernel
theorem dL_refuses_737 : decode cL_refuses 737 = .ok (.aload_n 0, 1) := by decide +kernel
theorem dL_refuses_738 : decode cL_refuses 738 = .ok (.invokevirtual 75, 3) := by decide +kernel
theorem dL_refuses_741 : decode cL_refuses 741 = .ok (.iload 6, 2) := by decide +kernel
theorem dL_refuses_743 : decode cL_refuses 743 = .ok (.if_icmp .ne 7, 3) := by decide +kernel
theorem dL_refuses_746 : decode cL_refuses 746 = .ok (.iconst 1, 1) := by decide +kernel
theorem dL_refuses_747 : decode cL_refuses 747 = .ok (.goto 4, 3) := by decide +kernel
theorem dL_refuses_750 : decode cL_refuses 750 = .ok (.iconst 0, 1) := by decide +kernel
theorem dL_refuses_751 : decode cL_refuses 751 = .ok (.ireturn, 1) := by decide +kernel
set_option maxRecDepth 200000 in
theorem ggL_order_X2_at : GoodIn wsL_order wsX2_at := goodIn_ca (goodIn_r _ [5, 6, 7, 8, 9, 10, 4, 11, 12, 13, 14, 15, 16, 17, 18, 19, 20, 21, 22, 23, 24, 25, 26, 27, 28, 29, 30, 31, 32, 33, 34, 35, 36, 37, 38, 51, 52, 53, 54, 55, 56, 57, 58, 59, 60, 61, 62, 63, 64, 65, 66, 67] rfl (by decide +kernel)) (goodIn_sub (fun _ h => List.mem_cons_of_mem _ (List.mem_append_right _ h)) (by decide +kernel))
set_option maxRecDepth 20000 in
theorem gL_order_X2_at : GoodIn wsL_order (wsV RL 45 RX2 yX2_at wsX2_at) := goodIn_app (goodIn_of _ (by decide +kernel)) ggL_order_X2_at
set_option maxRecDepth 200000 in
theorem ggL_order_X2_placeOf : GoodIn wsL_order wsX2_placeOf := goodIn_ca (goodIn_r _ [42, 43, 44, 45, 4, 46, 6, 7, 47, 48, 49, 50, 12, 13, 14, 15, 16, 17, 18, 19, 20, 21, 22, 23, 24, 25, 26, 27, 28, 29, 30, 31, 32, 33, 34, 35, 36, 37, 38, 59, 60, 61, 62, 63, 64, 65, 66, 67, 51, 52, 53, 54, 55, 56, 57, 58] rfl (by decide +kernel)) (goodIn_sub (fun _ h => List.mem_cons_of_mem _ (List.mem_append_right _ h)) (by decide +kernel))
set_option maxRecDepth 20000 in
theorem gL_order_X2_placeOf : GoodIn wsL_order (wsV RL 48 RX2 yX2_placeOf wsX2_placeOf) := goodIn_app (goodIn_of _ (by decide +kernel)) ggL_order_X2_placeOf
theorem dL_order_0 : decode cL_order 0 = .ok (.aload_n 0, 1) := by decide +kernel
theorem dL_order_1 : decode cL_order 1 = .ok (.iconst 0, 1) := by decide +kernel
theorem dL_order_2 : decode cL_order 2 = .ok (.invokevirtual 45, 3) := by decide +kernel
theorem dL_order_5 : decode cL_order 5 = .ok (.iload_n 1, 1) := by decide +kernel
theorem dL_order_6 : decode cL_order 6 = .ok (.if_icmp .ne 71, 3) := by decide +kernel
theorem dL_order_9 : decode cL_order 9 = .ok (.aload_n 0, 1) := by decide +kernel
theorem dL_order_10 : decode cL_order 10 = .ok (.iconst 1, 1) := by decide +kernel
theorem dL_order_11 : decode cL_order 11 = .ok (.invokevirtual 45, 3) := by decide +kernel
theorem dL_order_14 : decode cL_order 14 = .ok (.iload_n 2, 1) := by decide +kernel
theorem dL_order_15 : decode cL_order 15 = .ok (.if_icmp .ne 62, 3) := by decide +kernel
theorem dL_order_18 : decode cL_order 18 = .ok (.aload_n 0, 1) := by decide +kernel
theorem dL_order_19 : decode cL_order 19 = .ok (.iconst 2, 1) := by decide +kernel
theorem dL_order_20 : decode cL_order 20 = .ok (.invokevirtual 45, 3) := by decide +kernel
theorem dL_order_23 : decode cL_order 23 = .ok (.iload_n 3, 1) := by decide +kernel
theorem dL_order_24 : decode cL_order 24 = .ok (.if_icmp .ne 53, 3) := by decide +kernel
theorem dL_order_27 : decode cL_order 27 = .ok (.aload_n 0, 1) := by decide +kernel
theorem dL_order_28 : decode cL_order 28 = .ok (.iconst 3, 1) := by decide +kernel
theorem dL_order_29 : decode cL_order 29 = .ok (.invokevirtual 45, 3) := by decide +kernel
theorem dL_order_32 : decode cL_order 32 = .ok (.iload 4, 2) := by decide +kernel
theorem dL_order_34 : decode cL_order 34 = .ok (.if_icmp .ne 43, 3) := by decide +kernel
theorem dL_order_37 : decode cL_order 37 = .ok (.aload_n 0, 1) := by decide +kernel
theorem dL_order_38 : decode cL_order 38 = .ok (.iload_n 1, 1) := by decide +kernel
theorem dL_order_39 : decode cL_order 39 = .ok (.invokevirtual 48, 3) := by decide +kernel
theorem dL_order_42 : decode cL_order 42 = .ok (.ifCond .ne 35, 3) := by decide +kernel
theorem dL_order_45 : decode cL_order 45 = .ok (.aload_n 0, 1) := by decide +kernel
theorem dL_order_46 : decode cL_order 46 = .ok (.iload_n 2, 1) := by decide +kernel
theorem dL_order_47 : decode cL_order 47 = .ok (.invokevirtual 48, 3) := by decide +kernel
theorem dL_order_50 : decode cL_order 50 = .ok (.iconst 1, 1) := by decide +kernel
theorem dL_order_51 : decode cL_order 51 = .ok (.if_icmp .ne 26, 3) := by decide +kernel
theorem dL_order_54 : decode cL_order 54 = .ok (.aload_n 0, 1) := by decide +kernel
theorem dL_order_55 : decode cL_order 55 = .ok (.iload_n 3, 1) := by decide +kernel
theorem dL_order_56 : decode cL_order 56 = .ok (.invokevirtual 48, 3) := by decide +kernel
theorem dL_order_59 : decode cL_order 59 = .ok (.iconst 2, 1) := by decide +kernel
theorem dL_order_60 : decode cL_order 60 = .ok (.if_icmp .ne 17, 3) := by decide +kernel
theorem dL_order_63 : decode cL_order 63 = .ok (.aload_n 0, 1) := by decide +kernel
theorem dL_order_64 : decode cL_order 64 = .ok (.iload 4, 2) := by decide +kernel
theorem dL_order_66 : decode cL_order 66 = .ok (.invokevirtual 48, 3) := by decide +kernel
theorem dL_order_69 : decode cL_order 69 = .ok (.iconst 3, 1) := by decide +kernel
theorem dL_order_70 : decode cL_order 70 = .ok (.if_icmp .ne 7, 3) := by decide +kernel
theorem dL_order_73 : decode cL_order 73 = .ok (.iconst 1, 1) := by decide +kernel
theorem dL_order_74 : decode cL_order 74 = .ok (.goto 4, 3) := by decide +kernel
theorem dL_order_77 : decode cL_order 77 = .ok (.iconst 0, 1) := by decide +kernel
theorem dL_order_78 : decode cL_order 78 = .ok (.ireturn, 1) := by decide +kernel
set_option maxRecDepth 200000 in
theorem ggL_starts_X2_init : GoodIn wsL_starts wsX2_init := goodIn_r _ [10, 11, 12, 13, 14, 15, 16, 17, 18, 19, 20, 21, 22, 23, 24, 25, 26, 27, 28, 29, 30, 31, 32, 33, 34, 35, 36, 37, 38, 39, 40, 41, 42, 43, 44, 45, 46, 47, 48, 256, 257, 258, 259, 260, 261, 262, 263, 264, 265, 266, 267, 268, 269, 270, 271, 272, 273, 274, 275, 276, 277] rfl (by decide +kernel)
set_option maxRecDepth 20000 in
theorem gL_starts_X2_init : GoodIn wsL_starts (wsX2_init) := ggL_starts_X2_init
set_option maxRecDepth 200000 in
theorem ggL_starts_X2_entries : GoodIn wsL_starts wsX2_entries := goodIn_r _ [52, 53, 54, 55, 3, 56, 15, 256, 257, 258, 259, 260, 261, 262, 263, 264, 270, 271, 272, 273, 274, 275, 276, 277] rfl (by decide +kernel)
set_option maxRecDepth 20000 in
theorem gL_starts_X2_entries : GoodIn wsL_starts (wsV RL 66 RX2 yX2_entries wsX2_entries) := goodIn_app (goodIn_of _ (by decide +kernel)) ggL_starts_X2_entries
set_option maxRecDepth 200000 in
theorem ggL_starts_X2_next : GoodIn wsL_starts wsX2_next := goodIn_r _ [60, 61, 62, 63, 3, 64, 22, 21, 65, 66, 67, 68, 15, 69, 28, 70, 71, 48, 72, 73, 74, 75, 76, 77, 78, 79, 23, 24, 80, 81, 82, 83, 84, 85, 43, 44, 42, 86, 87, 88, 89, 90, 45, 46, 91, 92, 93, 94, 95, 96, 97, 98, 99, 100, 101, 102, 270, 271, 272, 273, 274, 275, 276, 277, 256, 257, 258, 259, 260, 261, 262, 263, 264] rfl (by decide +kernel)
set_option maxRecDepth 20000 in
theorem gL_starts_X2_next : GoodIn wsL_starts (wsV RL 69 RX2 yX2_next wsX2_next) := goodIn_app (goodIn_of _ (by decide +kernel)) ggL_starts_X2_next
set_option maxRecDepth 200000 in
theorem ggL_starts_X2_running : GoodIn wsL_starts wsX2_running := goodIn_r _ [106, 25, 256, 257, 258, 259, 260, 261, 262, 263, 264] rfl (by decide +kernel)
set_option maxRecDepth 20000 in
theorem gL_starts_X2_running : GoodIn wsL_starts (wsV RL 94 RX2 yX2_running wsX2_running) := goodIn_app (goodIn_of _ (by decide +kernel)) ggL_starts_X2_running
set_option maxRecDepth 200000 in
theorem ggL_starts_X2_register : GoodIn wsL_starts wsX2_register := goodIn_r _ [110, 26, 256, 257, 258, 259, 260, 261, 262, 263, 264] rfl (by decide +kernel)
set_option maxRecDepth 20000 in
theorem gL_starts_X2_register : GoodIn wsL_starts (wsV RL 72 RX2 yX2_register wsX2_register) := goodIn_app (goodIn_of _ (by decide +kernel)) ggL_starts_X2_register
set_option maxRecDepth 200000 in
theorem ggL_starts_X2_isLocked : GoodIn wsL_starts wsX2_isLocked := goodIn_r _ [114, 19, 256, 257, 258, 259, 260, 261, 262, 263, 264, 265, 266, 267, 268, 269] rfl (by decide +kernel)
set_option maxRecDepth 20000 in
theorem gL_starts_X2_isLocked : GoodIn wsL_starts (wsV RL 75 RX2 yX2_isLocked wsX2_isLocked) := goodIn_app (goodIn_of _ (by decide +kernel)) ggL_starts_X2_isLocked
set_option maxRecDepth 200000 in
theorem ggL_starts_L_act : GoodIn wsL_starts wsL_act := goodIn_ca (goodIn_ca (goodIn_ca (goodIn_ca (goodIn_r _ [118, 119, 120, 121, 122, 123, 124, 3, 125, 126, 127, 128, 129, 130, 131, 65, 66, 67, 68, 15, 53, 54, 55, 56, 132, 133, 134, 135, 136, 137, 80, 81, 82, 138, 139, 140, 141, 142, 143, 19, 144, 145, 146, 147, 21, 148, 149, 150, 151, 152, 153, 154, 155, 22, 156, 157, 158, 159, 23, 24, 160, 161, 162, 163, 76, 77, 78, 79, 164, 165, 166, 167, 26, 25, 61, 62, 63, 64, 69, 28, 70, 71, 48, 72, 73, 74, 75, 83, 84, 85, 43, 44, 42, 86, 87, 88, 89, 90, 45, 46, 91, 92, 93, 94, 95, 96, 97, 98, 99, 100, 101, 102, 168, 169, 170, 171, 172, 173, 174, 175, 176, 177, 178, 179, 180, 18, 181, 182, 37, 183, 184, 185, 186, 187, 188, 189, 190, 191, 192, 193, 194, 34, 33, 195, 196, 197, 198, 36, 35, 199, 200, 201, 202, 203, 204, 205, 206, 207, 208, 209, 210, 211, 212, 213, 214, 215, 216, 217, 218, 270, 271, 272, 273, 274, 275, 276, 277, 256, 257, 258, 259, 260, 261, 262, 263, 264, 265, 266, 267, 268, 269] rfl (by decide +kernel)) (goodIn_sub (fun _ h => List.mem_cons_of_mem _ (List.mem_append_left _ (List.mem_append_left _ (List.mem_append_left _ (List.mem_append_right _ h))))) (by decide +kernel))) (goodIn_sub (fun _ h => List.mem_cons_of_mem _ (List.mem_append_left _ (List.mem_append_left _ (List.mem_append_right _ h)))) (by decide +kernel))) (goodIn_sub (fun _ h => List.mem_cons_of_mem _ (List.mem_append_left _ (List.mem_append_right _ h))) (by decide +kernel))) (goodIn_sub (fun _ h => List.mem_cons_of_mem _ (List.mem_append_right _ h)) (by decide +kernel))
set_option maxRecDepth 20000 in
theorem gL_starts_L_act : GoodIn wsL_starts (va_wsS RL 86 yL_act wsL_act) := goodIn_app (goodIn_of _ (by decide +kernel)) ggL_starts_L_act
set_option maxRecDepth 200000 in
theorem ggL_starts_X2_choose : GoodIn wsL_starts wsX2_choose := goodIn_ca (goodIn_ca (goodIn_r _ [147, 21, 148, 149, 150, 3, 151, 130, 131, 65, 66, 67, 68, 15, 138, 139, 140, 141, 142, 143, 19, 256, 257, 258, 259, 260, 261, 262, 263, 264, 270, 271, 272, 273, 274, 275, 276, 277, 265, 266, 267, 268, 269] rfl (by decide +kernel)) (goodIn_sub (fun _ h => List.mem_cons_of_mem _ (List.mem_append_left _ (List.mem_append_left _ (List.mem_append_left _ (List.mem_append_right _ h))))) (by decide +kernel))) (goodIn_sub (fun _ h => List.mem_cons_of_mem _ (List.mem_append_left _ (List.mem_append_right _ h))) (by decide +kernel))
set_option maxRecDepth 20000 in
theorem gL_starts_X2_choose : GoodIn wsL_starts (wsV RL 25 RX2 yX2_choose wsX2_choose) := goodIn_app (goodIn_of _ (by decide +kernel)) ggL_starts_X2_choose
set_option maxRecDepth 200000 in
theorem ggL_starts_X2_chooseOnce : GoodIn wsL_starts wsX2_chooseOnce := goodIn_ca (goodIn_r _ [155, 22, 148, 149, 150, 3, 151, 130, 131, 65, 66, 67, 68, 15, 256, 257, 258, 259, 260, 261, 262, 263, 264, 270, 271, 272, 273, 274, 275, 276, 277] rfl (by decide +kernel)) (goodIn_sub (fun _ h => List.mem_cons_of_mem _ (List.mem_append_left _ (List.mem_append_left _ (List.mem_append_left _ (List.mem_append_right _ h))))) (by decide +kernel))
set_option maxRecDepth 20000 in
theorem gL_starts_X2_chooseOnce : GoodIn wsL_starts (wsV RL 28 RX2 yX2_chooseOnce wsX2_chooseOnce) := goodIn_app (goodIn_of _ (by decide +kernel)) ggL_starts_X2_chooseOnce
set_option maxRecDepth 200000 in
theorem ggL_starts_X2_setPattern : GoodIn wsL_starts wsX2_setPattern := goodIn_ca (goodIn_ca (goodIn_r _ [159, 136, 137, 23, 24, 80, 81, 3, 82, 138, 139, 140, 141, 142, 143, 19, 160, 161, 162, 163, 15, 76, 77, 78, 79, 256, 257, 258, 259, 260, 261, 262, 263, 264, 265, 266, 267, 268, 269, 270, 271, 272, 273, 274, 275, 276, 277] rfl (by decide +kernel)) (goodIn_sub (fun _ h => List.mem_cons_of_mem _ (List.mem_append_left _ (List.mem_append_left _ (List.mem_append_right _ h)))) (by decide +kernel))) (goodIn_sub (fun _ h => List.mem_cons_of_mem _ (List.mem_append_left _ (List.mem_append_right _ h))) (by decide +kernel))
set_option maxRecDepth 20000 in
theorem gL_starts_X2_setPattern : GoodIn wsL_starts (wsV RL 31 RX2 yX2_setPattern wsX2_setPattern) := goodIn_app (goodIn_of _ (by decide +kernel)) ggL_starts_X2_setPattern
set_option maxRecDepth 200000 in
theorem ggL_starts_X2_add : GoodIn wsL_starts wsX2_add := goodIn_ca (goodIn_ca (goodIn_r _ [222, 136, 137, 142, 143, 223, 20, 80, 81, 3, 82, 224, 225, 226, 227, 15, 228, 28, 229, 230, 41, 42, 43, 44, 45, 46, 47, 48, 256, 257, 258, 259, 260, 261, 262, 263, 264, 270, 271, 272, 273, 274, 275, 276, 277] rfl (by decide +kernel)) (goodIn_sub (fun _ h => List.mem_cons_of_mem _ (List.mem_append_left _ (List.mem_append_left _ (List.mem_append_right _ h)))) (by decide +kernel))) (goodIn_sub (fun _ h => List.mem_cons_of_mem _ (List.mem_append_left _ (List.mem_append_right _ h))) (by decide +kernel))
set_option maxRecDepth 20000 in
theorem gL_starts_X2_add : GoodIn wsL_starts (wsV RL 62 RX2 yX2_add wsX2_add) := goodIn_app (goodIn_of _ (by decide +kernel)) ggL_starts_X2_add
set_option maxRecDepth 200000 in
theorem ggL_starts_L_order : GoodIn wsL_starts wsL_order := goodIn_ca (goodIn_r _ [233, 199, 200, 201, 3, 202, 130, 131, 95, 96, 97, 98, 15, 99, 100, 101, 102, 83, 28, 84, 85, 43, 44, 42, 86, 69, 70, 71, 48, 87, 88, 89, 90, 45, 46, 91, 92, 93, 94, 203, 204, 205, 206, 126, 127, 128, 129, 65, 66, 67, 68, 270, 271, 272, 273, 274, 275, 276, 277, 256, 257, 258, 259, 260, 261, 262, 263, 264] rfl (by decide +kernel)) (goodIn_sub (fun _ h => List.mem_cons_of_mem _ (List.mem_append_left _ (List.mem_append_left _ (List.mem_append_left _ (List.mem_append_right _ h))))) (by decide +kernel))
set_option maxRecDepth 20000 in
theorem gL_starts_L_order : GoodIn wsL_starts (va_wsS RL 100 yL_order wsL_order) := goodIn_app (goodIn_of _ (by decide +kernel)) ggL_starts_L_order
set_option maxRecDepth 200000 in
theorem ggL_starts_X2_at : GoodIn wsL_starts wsX2_at := goodIn_ca (goodIn_r _ [202, 130, 131, 95, 96, 97, 3, 98, 15, 99, 100, 101, 102, 83, 28, 84, 85, 43, 44, 42, 86, 69, 70, 71, 48, 87, 88, 89, 90, 45, 46, 91, 92, 93, 94, 270, 271, 272, 273, 274, 275, 276, 277, 256, 257, 258, 259, 260, 261, 262, 263, 264] rfl (by decide +kernel)) (goodIn_sub (fun _ h => List.mem_cons_of_mem _ (List.mem_append_left _ (List.mem_append_left _ (List.mem_append_left _ (List.mem_append_right _ h))))) (by decide +kernel))
set_option maxRecDepth 20000 in
theorem gL_starts_X2_at : GoodIn wsL_starts (wsV RL 45 RX2 yX2_at wsX2_at) := goodIn_app (goodIn_of _ (by decide +kernel)) ggL_starts_X2_at
set_option maxRecDepth 200000 in
theorem ggL_starts_X2_placeOf : GoodIn wsL_starts wsX2_placeOf := goodIn_ca (goodIn_r _ [206, 126, 127, 128, 3, 129, 130, 131, 65, 66, 67, 68, 15, 99, 100, 101, 102, 83, 28, 84, 85, 43, 44, 42, 86, 69, 70, 71, 48, 87, 88, 89, 90, 45, 46, 91, 92, 93, 94, 256, 257, 258, 259, 260, 261, 262, 263, 264, 270, 271, 272, 273, 274, 275, 276, 277] rfl (by decide +kernel)) (goodIn_sub (fun _ h => List.mem_cons_of_mem _ (List.mem_append_left _ (List.mem_append_left _ (List.mem_append_left _ (List.mem_append_right _ h))))) (by decide +kernel))
set_option maxRecDepth 20000 in
theorem gL_starts_X2_placeOf : GoodIn wsL_starts (wsV RL 48 RX2 yX2_placeOf wsX2_placeOf) := goodIn_app (goodIn_of _ (by decide +kernel)) ggL_starts_X2_placeOf
set_option maxRecDepth 200000 in
theorem ggL_starts_X2_compare : GoodIn wsL_starts wsX2_compare := goodIn_ca (goodIn_r _ [214, 126, 127, 128, 3, 129, 130, 131, 65, 66, 67, 68, 15, 88, 28, 89, 90, 45, 46, 91, 92, 93, 94, 256, 257, 258, 259, 260, 261, 262, 263, 264, 270, 271, 272, 273, 274, 275, 276, 277] rfl (by decide +kernel)) (goodIn_sub (fun _ h => List.mem_cons_of_mem _ (List.mem_append_left _ (List.mem_append_left _ (List.mem_append_left _ (List.mem_append_right _ h))))) (by decide +kernel))
set_option maxRecDepth 20000 in
theorem gL_starts_X2_compare : GoodIn wsL_starts (wsV RL 54 RX2 yX2_compare wsX2_compare) := goodIn_app (goodIn_of _ (by decide +kernel)) ggL_starts_X2_compare
set_option maxRecDepth 200000 in
theorem ggL_starts_X2_foretold : GoodIn wsL_starts wsX2_foretold := goodIn_ca (goodIn_r _ [218, 126, 127, 128, 3, 129, 130, 131, 65, 66, 67, 68, 15, 168, 169, 170, 171, 19, 172, 173, 174, 175, 176, 256, 257, 258, 259, 260, 261, 262, 263, 264, 270, 271, 272, 273, 274, 275, 276, 277, 265, 266, 267, 268, 269] rfl (by decide +kernel)) (goodIn_sub (fun _ h => List.mem_cons_of_mem _ (List.mem_append_left _ (List.mem_append_left _ (List.mem_append_left _ (List.mem_append_right _ h))))) (by decide +kernel))
set_option maxRecDepth 20000 in
theorem gL_starts_X2_foretold : GoodIn wsL_starts (wsV RL 57 RX2 yX2_foretold wsX2_foretold) := goodIn_app (goodIn_of _ (by decide +kernel)) ggL_starts_X2_foretold
set_option maxRecDepth 200000 in
theorem ggL_starts_L_refuses : GoodIn wsL_starts wsL_refuses := goodIn_ca (goodIn_ca (goodIn_ca (goodIn_ca (goodIn_r _ [236, 237, 238, 49, 50, 51, 3, 52, 53, 54, 55, 56, 15, 57, 58, 59, 60, 61, 62, 63, 64, 22, 21, 65, 66, 67, 68, 69, 28, 70, 71, 48, 72, 73, 74, 75, 76, 77, 78, 79, 23, 24, 80, 81, 82, 83, 84, 85, 43, 44, 42, 86, 87, 88, 89, 90, 45, 46, 91, 92, 93, 94, 95, 96, 97, 98, 99, 100, 101, 102, 107, 108, 109, 110, 26, 111, 112, 113, 114, 19, 239, 240, 117, 241, 120, 121, 219, 220, 221, 222, 136, 137, 142, 143, 223, 20, 224, 225, 226, 227, 228, 229, 230, 41, 47, 115, 116, 118, 119, 122, 123, 124, 125, 126, 127, 128, 129, 130, 131, 132, 133, 134, 135, 138, 139, 140, 141, 144, 145, 146, 147, 148, 149, 150, 151, 152, 153, 154, 155, 156, 157, 158, 159, 160, 161, 162, 163, 164, 165, 166, 167, 25, 168, 169, 170, 171, 172, 173, 174, 175, 176, 177, 178, 179, 180, 18, 181, 182, 37, 183, 184, 185, 186, 187, 188, 189, 190, 191, 192, 193, 194, 34, 33, 195, 196, 197, 198, 36, 35, 199, 200, 201, 202, 203, 204, 205, 206, 207, 208, 209, 210, 211, 212, 213, 214, 215, 216, 217, 218, 242, 243, 244, 245, 246, 247, 248, 249, 250, 251, 252, 253, 254, 255, 256, 257, 258, 259, 260, 261, 262, 263, 264, 270, 271, 272, 273, 274, 275, 276, 277, 265, 266, 267, 268, 269] rfl (by decide +kernel)) (goodIn_sub (fun _ h => List.mem_cons_of_mem _ (List.mem_append_left _ (List.mem_append_left _ (List.mem_append_right _ h)))) (by decide +kernel))) (goodIn_sub (fun _ h => List.mem_cons_of_mem _ (List.mem_append_left _ (List.mem_append_right _ h))) (by decide +kernel))) (goodIn_sub (fun _ h => List.mem_cons_of_mem _ (List.mem_append_left _ (List.mem_append_left _ (List.mem_append_left _ (List.mem_append_right _ h))))) (by decide +kernel))) (goodIn_sub (fun _ h => List.mem_cons_of_mem _ (List.mem_append_right _ h)) (by decide +kernel))
set_option maxRecDepth 20000 in
theorem gL_starts_L_refuses : GoodIn wsL_starts (va_wsS RL 105 yL_refuses wsL_refuses) := goodIn_app (goodIn_of _ (by decide +kernel)) ggL_starts_L_refuses
set_option maxRecDepth 200000 in
theorem ggL_starts_X2_start : GoodIn wsL_starts wsX2_start := goodIn_ca (goodIn_r _ [167, 142, 143, 26, 22, 25, 19, 61, 62, 63, 3, 64, 21, 65, 66, 67, 68, 15, 69, 28, 70, 71, 48, 72, 73, 74, 75, 76, 77, 78, 79, 23, 24, 80, 81, 82, 83, 84, 85, 43, 44, 42, 86, 87, 88, 89, 90, 45, 46, 91, 92, 93, 94, 95, 96, 97, 98, 99, 100, 101, 102, 168, 169, 170, 171, 172, 173, 174, 175, 176, 177, 178, 179, 180, 18, 181, 182, 37, 256, 257, 258, 259, 260, 261, 262, 263, 264, 270, 271, 272, 273, 274, 275, 276, 277, 265, 266, 267, 268, 269] rfl (by decide +kernel)) (goodIn_sub (fun _ h => List.mem_cons_of_mem _ (List.mem_append_left _ (List.mem_append_right _ h))) (by decide +kernel))
set_option maxRecDepth 20000 in
theorem gL_starts_X2_start : GoodIn wsL_starts (wsV RL 34 RX2 yX2_start wsX2_start) := goodIn_app (goodIn_of _ (by decide +kernel)) ggL_starts_X2_start
set_option maxRecDepth 200000 in
theorem ggL_starts_X2_tries : GoodIn wsL_starts wsX2_tries := goodIn_ca (goodIn_r _ [210, 126, 127, 128, 3, 129, 130, 131, 65, 66, 67, 68, 15, 270, 271, 272, 273, 274, 275, 276, 277, 256, 257, 258, 259, 260, 261, 262, 263, 264] rfl (by decide +kernel)) (goodIn_sub (fun _ h => List.mem_cons_of_mem _ (List.mem_append_left _ (List.mem_append_left _ (List.mem_append_left _ (List.mem_append_right _ h))))) (by decide +kernel))
set_option maxRecDepth 20000 in
theorem gL_starts_X2_tries : GoodIn wsL_starts (wsV RL 51 RX2 yX2_tries wsX2_tries) := goodIn_app (goodIn_of _ (by decide +kernel)) ggL_starts_X2_tries
set_option maxRecDepth 200000 in
theorem ggL_starts_X2_good : GoodIn wsL_starts wsX2_good := goodIn_ca (goodIn_r _ [186, 142, 143, 25, 65, 66, 67, 3, 68, 15, 256, 257, 258, 259, 260, 261, 262, 263, 264, 270, 271, 272, 273, 274, 275, 276, 277] rfl (by decide +kernel)) (goodIn_sub (fun _ h => List.mem_cons_of_mem _ (List.mem_append_left _ (List.mem_append_right _ h))) (by decide +kernel))
set_option maxRecDepth 20000 in
theorem gL_starts_X2_good : GoodIn wsL_starts (wsV RL 38 RX2 yX2_good wsX2_good) := goodIn_app (goodIn_of _ (by decide +kernel)) ggL_starts_X2_good
set_option maxRecDepth 200000 in
theorem ggL_starts_X2_remove : GoodIn wsL_starts wsX2_remove := goodIn_ca (goodIn_r _ [125, 126, 127, 128, 3, 129, 130, 131, 65, 66, 67, 68, 15, 53, 54, 55, 56, 270, 271, 272, 273, 274, 275, 276, 277, 256, 257, 258, 259, 260, 261, 262, 263, 264] rfl (by decide +kernel)) (goodIn_sub (fun _ h => List.mem_cons_of_mem _ (List.mem_append_left _ (List.mem_append_left _ (List.mem_append_left _ (List.mem_append_right _ h))))) (by decide +kernel))
set_option maxRecDepth 20000 in
theorem gL_starts_X2_remove : GoodIn wsL_starts (wsV RL 17 RX2 yX2_remove wsX2_remove) := goodIn_app (goodIn_of _ (by decide +kernel)) ggL_starts_X2_remove
