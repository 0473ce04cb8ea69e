theorem dX3_init_0 : decode cX3_init 0 = .ok (.aload_n 0, 1) := by decide +kernel
theorem dX3_init_1 : decode cX3_init 1 = .ok (.invokespecial 1, 3) := by decide +kernel
theorem dX3_init_4 : decode cX3_init 4 = .ok (.aload_n 0, 1) := by decide +kernel
theorem dX3_init_5 : decode cX3_init 5 = .ok (.bipush 60, 2) := by decide +kernel
theorem dX3_init_7 : decode cX3_init 7 = .ok (.newarray .boolean, 2) := by decide +kernel
theorem dX3_init_9 : decode cX3_init 9 = .ok (.putfield 7, 3) := by decide +kernel
theorem dX3_init_12 : decode cX3_init 12 = .ok (.aload_n 0, 1) := by decide +kernel
theorem dX3_init_13 : decode cX3_init 13 = .ok (.bipush 60, 2) := by decide +kernel
theorem dX3_init_15 : decode cX3_init 15 = .ok (.newarray .int, 2) := by decide +kernel
theorem dX3_init_17 : decode cX3_init 17 = .ok (.putfield 13, 3) := by decide +kernel
theorem dX3_init_20 : decode cX3_init 20 = .ok (.aload_n 0, 1) := by decide +kernel
theorem dX3_init_21 : decode cX3_init 21 = .ok (.bipush 60, 2) := by decide +kernel
theorem dX3_init_23 : decode cX3_init 23 = .ok (.newarray .int, 2) := by decide +kernel
theorem dX3_init_25 : decode cX3_init 25 = .ok (.putfield 17, 3) := by decide +kernel
theorem dX3_init_28 : decode cX3_init 28 = .ok (.aload_n 0, 1) := by decide +kernel
theorem dX3_init_29 : decode cX3_init 29 = .ok (.bipush 60, 2) := by decide +kernel
theorem dX3_init_31 : decode cX3_init 31 = .ok (.newarray .int, 2) := by decide +kernel
theorem dX3_init_33 : decode cX3_init 33 = .ok (.putfield 20, 3) := by decide +kernel
theorem dX3_init_36 : decode cX3_init 36 = .ok (.aload_n 0, 1) := by decide +kernel
theorem dX3_init_37 : decode cX3_init 37 = .ok (.bipush 60, 2) := by decide +kernel
theorem dX3_init_39 : decode cX3_init 39 = .ok (.newarray .int, 2) := by decide +kernel
theorem dX3_init_41 : decode cX3_init 41 = .ok (.putfield 23, 3) := by decide +kernel
theorem dX3_init_44 : decode cX3_init 44 = .ok (.aload_n 0, 1) := by decide +kernel
theorem dX3_init_45 : decode cX3_init 45 = .ok (.bipush 60, 2) := by decide +kernel
theorem dX3_init_47 : decode cX3_init 47 = .ok (.newarray .int, 2) := by decide +kernel
theorem dX3_init_49 : decode cX3_init 49 = .ok (.putfield 26, 3) := by decide +kernel
theorem dX3_init_52 : decode cX3_init 52 = .ok (.aload_n 0, 1) := by decide +kernel
theorem dX3_init_53 : decode cX3_init 53 = .ok (.bipush 60, 2) := by decide +kernel
theorem dX3_init_55 : decode cX3_init 55 = .ok (.newarray .int, 2) := by decide +kernel
theorem dX3_init_57 : decode cX3_init 57 = .ok (.putfield 29, 3) := by decide +kernel
theorem dX3_init_60 : decode cX3_init 60 = .ok (.aload_n 0, 1) := by decide +kernel
theorem dX3_init_61 : decode cX3_init 61 = .ok (.iconst (-1), 1) := by decide +kernel
theorem dX3_init_62 : decode cX3_init 62 = .ok (.putfield 32, 3) := by decide +kernel
theorem dX3_init_65 : decode cX3_init 65 = .ok (.aload_n 0, 1) := by decide +kernel
theorem dX3_init_66 : decode cX3_init 66 = .ok (.iconst (-1), 1) := by decide +kernel
theorem dX3_init_67 : decode cX3_init 67 = .ok (.putfield 36, 3) := by decide +kernel
theorem dX3_init_70 : decode cX3_init 70 = .ok (.aload_n 0, 1) := by decide +kernel
theorem dX3_init_71 : decode cX3_init 71 = .ok (.bipush 99, 2) := by decide +kernel
theorem dX3_init_73 : decode cX3_init 73 = .ok (.putfield 39, 3) := by decide +kernel
theorem dX3_init_76 : decode cX3_init 76 = .ok (.aload_n 0, 1) := by decide +kernel
theorem dX3_init_77 : decode cX3_init 77 = .ok (.iconst (-1), 1) := by decide +kernel
theorem dX3_init_78 : decode cX3_init 78 = .ok (.putfield 42, 3) := by decide +kernel
theorem dX3_init_81 : decode cX3_init 81 = .ok (.return_, 1) := by decide +kernel
theorem dX3_thrown_0 : decode cX3_thrown 0 = .ok (.aload_n 0, 1) := by decide +kernel
theorem dX3_thrown_1 : decode cX3_thrown 1 = .ok (.getfield 45, 3) := by decide +kernel
theorem dX3_thrown_4 : decode cX3_thrown 4 = .ok (.ireturn, 1) := by decide +kernel
theorem dX3_isIn_0 : decode cX3_isIn 0 = .ok (.iload_n 0, 1) := by decide +kernel
theorem dX3_isIn_1 : decode cX3_isIn 1 = .ok (.iload_n 1, 1) := by decide +kernel
theorem dX3_isIn_2 : decode cX3_isIn 2 = .ok (.if_icmp .lt 12, 3) := by decide +kernel
theorem dX3_isIn_5 : decode cX3_isIn 5 = .ok (.iload_n 0, 1) := by decide +kernel
theorem dX3_isIn_6 : decode cX3_isIn 6 = .ok (.iload_n 2, 1) := by decide +kernel
theorem dX3_isIn_7 : decode cX3_isIn 7 = .ok (.if_icmp .gt 7, 3) := by decide +kernel
theorem dX3_isIn_10 : decode cX3_isIn 10 = .ok (.iconst 1, 1) := by decide +kernel
theorem dX3_isIn_11 : decode cX3_isIn 11 = .ok (.goto 4, 3) := by decide +kernel
theorem dX3_isIn_14 : decode cX3_isIn 14 = .ok (.iconst 0, 1) := by decide +kernel
theorem dX3_isIn_15 : decode cX3_isIn 15 = .ok (.ireturn, 1) := by decide +kernel
set_option maxRecDepth 20000 in
theorem ggX3_isThere_X3_isIn : GoodIn wsX3_isThere wsX3_isIn := goodIn_r _ [6] (by decide +kernel) (by decide +kernel)
set_option maxRecDepth 20000 in
theorem gX3_isThere_X3_isIn : GoodIn wsX3_isThere (va_wsS RX3 51 yX3_isIn wsX3_isIn) := goodIn_app (goodIn_of _ (by decide +kernel)) ggX3_isThere_X3_isIn
theorem dX3_isThere_0 : decode cX3_isThere 0 = .ok (.iload_n 1, 1) := by decide +kernel
theorem dX3_isThere_1 : decode cX3_isThere 1 = .ok (.iconst 0, 1) := by decide +kernel
theorem dX3_isThere_2 : decode cX3_isThere 2 = .ok (.aload_n 0, 1) := by decide +kernel
theorem dX3_isThere_3 : decode cX3_isThere 3 = .ok (.getfield 48, 3) := by decide +kernel
theorem dX3_isThere_6 : decode cX3_isThere 6 = .ok (.iconst 1, 1) := by decide +kernel
theorem dX3_isThere_7 : decode cX3_isThere 7 = .ok (.isub, 1) := by decide +kernel
theorem dX3_isThere_8 : decode cX3_isThere 8 = .ok (.invokestatic 51, 3) := by decide +kernel
theorem dX3_isThere_11 : decode cX3_isThere 11 = .ok (.ifCond .eq 16, 3) := by decide +kernel
theorem dX3_isThere_14 : decode cX3_isThere 14 = .ok (.aload_n 0, 1) := by decide +kernel
theorem dX3_isThere_15 : decode cX3_isThere 15 = .ok (.getfield 7, 3) := by decide +kernel
theorem dX3_isThere_18 : decode cX3_isThere 18 = .ok (.iload_n 1, 1) := by decide +kernel
theorem dX3_isThere_19 : decode cX3_isThere 19 = .ok (.baload, 1) := by decide +kernel
theorem dX3_isThere_20 : decode cX3_isThere 20 = .ok (.ifCond .eq 7, 3) := by decide +kernel
theorem dX3_isThere_23 : decode cX3_isThere 23 = .ok (.iconst 1, 1) := by decide +kernel
theorem dX3_isThere_24 : decode cX3_isThere 24 = .ok (.goto 4, 3) := by decide +kernel
theorem dX3_isThere_27 : decode cX3_isThere 27 = .ok (.iconst 0, 1) := by decide +kernel
theorem dX3_isThere_28 : decode cX3_isThere 28 = .ok (.ireturn, 1) := by decide +kernel
theorem dX3_count_0 : decode cX3_count 0 = .ok (.iconst 0, 1) := by decide +kernel
theorem dX3_count_1 : decode cX3_count 1 = .ok (.istore_n 1, 1) := by decide +kernel
theorem dX3_count_2 : decode cX3_count 2 = .ok (.iconst 0, 1) := by decide +kernel
theorem dX3_count_3 : decode cX3_count 3 = .ok (.istore_n 2, 1) := by decide +kernel
theorem dX3_count_4 : decode cX3_count 4 = .ok (.iload_n 2, 1) := by decide +kernel
theorem dX3_count_5 : decode cX3_count 5 = .ok (.aload_n 0, 1) := by decide +kernel
theorem dX3_count_6 : decode cX3_count 6 = .ok (.getfield 48, 3) := by decide +kernel
theorem dX3_count_9 : decode cX3_count 9 = .ok (.if_icmp .ge 26, 3) := by decide +kernel
theorem dX3_count_12 : decode cX3_count 12 = .ok (.iload_n 1, 1) := by decide +kernel
theorem dX3_count_13 : decode cX3_count 13 = .ok (.aload_n 0, 1) := by decide +kernel
theorem dX3_count_14 : decode cX3_count 14 = .ok (.getfield 7, 3) := by decide +kernel
theorem dX3_count_17 : decode cX3_count 17 = .ok (.iload_n 2, 1) := by decide +kernel
theorem dX3_count_18 : decode cX3_count 18 = .ok (.baload, 1) := by decide +kernel
theorem dX3_count_19 : decode cX3_count 19 = .ok (.ifCond .eq 7, 3) := by decide +kernel
theorem dX3_count_22 : decode cX3_count 22 = .ok (.iconst 1, 1) := by decide +kernel
theorem dX3_count_23 : decode cX3_count 23 = .ok (.goto 4, 3) := by decide +kernel
theorem dX3_count_26 : decode cX3_count 26 = .ok (.iconst 0, 1) := by decide +kernel
theorem dX3_count_27 : decode cX3_count 27 = .ok (.iadd, 1) := by decide +kernel
theorem dX3_count_28 : decode cX3_count 28 = .ok (.istore_n 1, 1) := by decide +kernel
theorem dX3_count_29 : decode cX3_count 29 = .ok (.iinc 2 1, 3) := by decide +kernel
theorem dX3_count_32 : decode cX3_count 32 = .ok (.goto (-28), 3) := by decide +kernel
theorem dX3_count_35 : decode cX3_count 35 = .ok (.iload_n 1, 1) := by decide +kernel
theorem dX3_count_36 : decode cX3_count 36 = .ok (.ireturn, 1) := by decide +kernel
set_option maxRecDepth 20000 in
theorem ggX3_add_X3_isIn : GoodIn wsX3_add wsX3_isIn := goodIn_r _ [13] (by decide +kernel) (by decide +kernel)
set_option maxRecDepth 20000 in
theorem gX3_add_X3_isIn : GoodIn wsX3_add (va_wsS RX3 51 yX3_isIn wsX3_isIn) := goodIn_app (goodIn_of _ (by decide +kernel)) ggX3_add_X3_isIn
set_option maxRecDepth 20000 in
theorem ggX3_add_X3_count : GoodIn wsX3_add wsX3_count := goodIn_r _ [17, 2, 4, 18, 19, 20, 21, 22, 23, 24, 25, 26, 27, 28, 29, 30, 31, 32, 33, 34, 35, 36, 37] (by decide +kernel) (by decide +kernel)
set_option maxRecDepth 20000 in
theorem gX3_add_X3_count : GoodIn wsX3_add (wsV RX3 56 RX3 yX3_count wsX3_count) := goodIn_app (goodIn_of _ (by decide +kernel)) ggX3_add_X3_count
theorem dX3_add_0 : decode cX3_add 0 = .ok (.iload_n 1, 1) := by decide +kernel
theorem dX3_add_1 : decode cX3_add 1 = .ok (.iconst 0, 1) := by decide +kernel
theorem dX3_add_2 : decode cX3_add 2 = .ok (.iconst 2, 1) := by decide +kernel
theorem dX3_add_3 : decode cX3_add 3 = .ok (.invokestatic 51, 3) := by decide +kernel
theorem dX3_add_6 : decode cX3_add 6 = .ok (.ifCond .eq 48, 3) := by decide +kernel
theorem dX3_add_9 : decode cX3_add 9 = .ok (.iload_n 2, 1) := by decide +kernel
theorem dX3_add_10 : decode cX3_add 10 = .ok (.iconst 0, 1) := by decide +kernel
theorem dX3_add_11 : decode cX3_add 11 = .ok (.bipush 99, 2) := by decide +kernel
theorem dX3_add_13 : decode cX3_add 13 = .ok (.invokestatic 51, 3) := by decide +kernel
theorem dX3_add_16 : decode cX3_add 16 = .ok (.ifCond .eq 38, 3) := by decide +kernel
theorem dX3_add_19 : decode cX3_add 19 = .ok (.iload_n 3, 1) := by decide +kernel
theorem dX3_add_20 : decode cX3_add 20 = .ok (.iconst 0, 1) := by decide +kernel
theorem dX3_add_21 : decode cX3_add 21 = .ok (.ldc 55, 2) := by decide +kernel
theorem dX3_add_23 : decode cX3_add 23 = .ok (.invokestatic 51, 3) := by decide +kernel
theorem dX3_add_26 : decode cX3_add 26 = .ok (.ifCond .eq 28, 3) := by decide +kernel
theorem dX3_add_29 : decode cX3_add 29 = .ok (.iload 4, 2) := by decide +kernel
theorem dX3_add_31 : decode cX3_add 31 = .ok (.iconst 0, 1) := by decide +kernel
theorem dX3_add_32 : decode cX3_add 32 = .ok (.iconst 2, 1) := by decide +kernel
theorem dX3_add_33 : decode cX3_add 33 = .ok (.invokestatic 51, 3) := by decide +kernel
theorem dX3_add_36 : decode cX3_add 36 = .ok (.ifCond .eq 18, 3) := by decide +kernel
theorem dX3_add_39 : decode cX3_add 39 = .ok (.iload 5, 2) := by decide +kernel
theorem dX3_add_41 : decode cX3_add 41 = .ok (.iconst (-1), 1) := by decide +kernel
theorem dX3_add_42 : decode cX3_add 42 = .ok (.bipush 9, 2) := by decide +kernel
theorem dX3_add_44 : decode cX3_add 44 = .ok (.invokestatic 51, 3) := by decide +kernel
theorem dX3_add_47 : decode cX3_add 47 = .ok (.ifCond .eq 7, 3) := by decide +kernel
theorem dX3_add_50 : decode cX3_add 50 = .ok (.iconst 1, 1) := by decide +kernel
theorem dX3_add_51 : decode cX3_add 51 = .ok (.goto 4, 3) := by decide +kernel
theorem dX3_add_54 : decode cX3_add 54 = .ok (.iconst 0, 1) := by decide +kernel
theorem dX3_add_55 : decode cX3_add 55 = .ok (.istore 6, 2) := by decide +kernel
theorem dX3_add_57 : decode cX3_add 57 = .ok (.aload_n 0, 1) := by decide +kernel
theorem dX3_add_58 : decode cX3_add 58 = .ok (.iload 6, 2) := by decide +kernel
theorem dX3_add_60 : decode cX3_add 60 = .ok (.ifCond .ne 7, 3) := by decide +kernel
theorem dX3_add_63 : decode cX3_add 63 = .ok (.iconst 1, 1) := by decide +kernel
theorem dX3_add_64 : decode cX3_add 64 = .ok (.goto 26, 3) := by decide +kernel
theorem dX3_add_67 : decode cX3_add 67 = .ok (.aload_n 0, 1) := by decide +kernel
theorem dX3_add_68 : decode cX3_add 68 = .ok (.invokevirtual 56, 3) := by decide +kernel
theorem dX3_add_71 : decode cX3_add 71 = .ok (.bipush 16, 2) := by decide +kernel
theorem dX3_add_73 : decode cX3_add 73 = .ok (.if_icmp .eq 12, 3) := by decide +kernel
theorem dX3_add_76 : decode cX3_add 76 = .ok (.aload_n 0, 1) := by decide +kernel
theorem dX3_add_77 : decode cX3_add 77 = .ok (.getfield 48, 3) := by decide +kernel
theorem dX3_add_80 : decode cX3_add 80 = .ok (.bipush 60, 2) := by decide +kernel
theorem dX3_add_82 : decode cX3_add 82 = .ok (.if_icmp .ne 7, 3) := by decide +kernel
theorem dX3_add_85 : decode cX3_add 85 = .ok (.iconst 2, 1) := by decide +kernel
theorem dX3_add_86 : decode cX3_add 86 = .ok (.goto 4, 3) := by decide +kernel
theorem dX3_add_89 : decode cX3_add 89 = .ok (.iconst 0, 1) := by decide +kernel
theorem dX3_add_90 : decode cX3_add 90 = .ok (.putfield 45, 3) := by decide +kernel
theorem dX3_add_93 : decode cX3_add 93 = .ok (.aload_n 0, 1) := by decide +kernel
theorem dX3_add_94 : decode cX3_add 94 = .ok (.getfield 45, 3) := by decide +kernel
theorem dX3_add_97 : decode cX3_add 97 = .ok (.ifCond .le 5, 3) := by decide +kernel
theorem dX3_add_100 : decode cX3_add 100 = .ok (.iconst 0, 1) := by decide +kernel
theorem dX3_add_101 : decode cX3_add 101 = .ok (.ireturn, 1) := by decide +kernel
theorem dX3_add_102 : decode cX3_add 102 = .ok (.aload_n 0, 1) := by decide +kernel
theorem dX3_add_103 : decode cX3_add 103 = .ok (.getfield 7, 3) := by decide +kernel
theorem dX3_add_106 : decode cX3_add 106 = .ok (.aload_n 0, 1) := by decide +kernel
theorem dX3_add_107 : decode cX3_add 107 = .ok (.getfield 48, 3) := by decide +kernel
theorem dX3_add_110 : decode cX3_add 110 = .ok (.iconst 1, 1) := by decide +kernel
theorem dX3_add_111 : decode cX3_add 111 = .ok (.bastore, 1) := by decide +kernel
theorem dX3_add_112 : decode cX3_add 112 = .ok (.aload_n 0, 1) := by decide +kernel
theorem dX3_add_113 : decode cX3_add 113 = .ok (.getfield 13, 3) := by decide +kernel
theorem dX3_add_116 : decode cX3_add 116 = .ok (.aload_n 0, 1) := by decide +kernel
theorem dX3_add_117 : decode cX3_add 117 = .ok (.getfield 48, 3) := by decide +kernel
theorem dX3_add_120 : decode cX3_add 120 = .ok (.iload_n 1, 1) := by decide +kernel
theorem dX3_add_121 : decode cX3_add 121 = .ok (.iastore, 1) := by decide +kernel
theorem dX3_add_122 : decode cX3_add 122 = .ok (.aload_n 0, 1) := by decide +kernel
theorem dX3_add_123 : decode cX3_add 123 = .ok (.getfield 17, 3) := by decide +kernel
theorem dX3_add_126 : decode cX3_add 126 = .ok (.aload_n 0, 1) := by decide +kernel
theorem dX3_add_127 : decode cX3_add 127 = .ok (.getfield 48, 3) := by decide +kernel
theorem dX3_add_130 : decode cX3_add 130 = .ok (.iload_n 2, 1) := by decide +kernel
theorem dX3_add_131 : decode cX3_add 131 = .ok (.iastore, 1) := by decide +kernel
theorem dX3_add_132 : decode cX3_add 132 = .ok (.aload_n 0, 1) := by decide +kernel
theorem dX3_add_133 : decode cX3_add 133 = .ok (.getfield 20, 3) := by decide +kernel
theorem dX3_add_136 : decode cX3_add 136 = .ok (.aload_n 0, 1) := by decide +kernel
theorem dX3_add_137 : decode cX3_add 137 = .ok (.getfield 48, 3) := by decide +kernel
theorem dX3_add_140 : decode cX3_add 140 = .ok (.iload_n 3, 1) := by decide +kernel
theorem dX3_add_141 : decode cX3_add 141 = .ok (.iastore, 1) := by decide +kernel
theorem dX3_add_142 : decode cX3_add 142 = .ok (.aload_n 0, 1) := by decide +kernel
theorem dX3_add_143 : decode cX3_add 143 = .ok (.getfield 23, 3) := by decide +kernel
theorem dX3_add_146 : decode cX3_add 146 = .ok (.aload_n 0, 1) := by decide +kernel
theorem dX3_add_147 : decode cX3_add 147 = .ok (.getfield 48, 3) := by decide +kernel
theorem dX3_add_150 : decode cX3_add 150 = .ok (.iload 4, 2) := by decide +kernel
theorem dX3_add_152 : decode cX3_add 152 = .ok (.iastore, 1) := by decide +kernel
theorem dX3_add_153 : decode cX3_add 153 = .ok (.aload_n 0, 1) := by decide +kernel
theorem dX3_add_154 : decode cX3_add 154 = .ok (.getfield 26, 3) := by decide +kernel
theorem dX3_add_157 : decode cX3_add 157 = .ok (.aload_n 0, 1) := by decide +kernel
theorem dX3_add_158 : decode cX3_add 158 = .ok (.getfield 48, 3) := by decide +kernel
theorem dX3_add_161 : decode cX3_add 161 = .ok (.iload 5, 2) := by decide +kernel
theorem dX3_add_163 : decode cX3_add 163 = .ok (.iastore, 1) := by decide +kernel
theorem dX3_add_164 : decode cX3_add 164 = .ok (.aload_n 0, 1) := by decide +kernel
theorem dX3_add_165 : decode cX3_add 165 = .ok (.dup, 1) := by decide +kernel
theorem dX3_add_166 : decode cX3_add 166 = .ok (.getfield 48, 3) := by decide +kernel
theorem dX3_add_169 : decode cX3_add 169 = .ok (.iconst 1, 1) := by decide +kernel
theorem dX3_add_170 : decode cX3_add 170 = .ok (.iadd, 1) := by decide +kernel
theorem dX3_add_171 : decode cX3_add 171 = .ok (.putfield 48, 3) := by decide +kernel
theorem dX3_add_174 : decode cX3_add 174 = .ok (.aload_n 0, 1) := by decide +kernel
theorem dX3_add_175 : decode cX3_add 175 = .ok (.getfield 48, 3) := by decide +kernel
theorem dX3_add_178 : decode cX3_add 178 = .ok (.iconst 1, 1) := by decide +kernel
theorem dX3_add_179 : decode cX3_add 179 = .ok (.isub, 1) := by decide +kernel
theorem dX3_add_180 : decode cX3_add 180 = .ok (.ireturn, 1) := by decide +kernel
set_option maxRecDepth 20000 in
theorem ggX3_remove_X3_isThere : GoodIn wsX3_remove wsX3_isThere := goodIn_r _ [7, 8, 2, 9, 10, 6, 11, 16, 17, 18, 19, 20, 21, 22, 23, 24, 25, 26, 27, 28, 29, 30, 31, 32, 33, 34, 35] (by decide +kernel) (by decide +kernel)
set_option maxRecDepth 20000 in
theorem gX3_remove_X3_isThere : GoodIn wsX3_remove (wsV RX3 60 RX3 yX3_isThere wsX3_isThere) := goodIn_app (goodIn_of _ (by decide +kernel)) ggX3_remove_X3_isThere
set_option maxRecDepth 20000 in
theorem ggX3_remove_X3_count : GoodIn wsX3_remove wsX3_count := goodIn_r _ [15, 8, 2, 16, 17, 18, 19, 20, 21, 22, 23, 24, 25, 26, 27, 28, 29, 30, 31, 32, 33, 34, 35] (by decide +kernel) (by decide +kernel)
set_option maxRecDepth 20000 in
theorem gX3_remove_X3_count : GoodIn wsX3_remove (wsV RX3 56 RX3 yX3_count wsX3_count) := goodIn_app (goodIn_of _ (by decide +kernel)) ggX3_remove_X3_count
theorem dX3_remove_0 : decode cX3_remove 0 = .ok (.aload_n 0, 1) := by decide +kernel
theorem dX3_remove_1 : decode cX3_remove 1 = .ok (.aload_n 0, 1) := by decide +kernel
theorem dX3_remove_2 : decode cX3_remove 2 = .ok (.iload_n 1, 1) := by decide +kernel
theorem dX3_remove_3 : decode cX3_remove 3 = .ok (.invokevirtual 60, 3) := by decide +kernel
theorem dX3_remove_6 : decode cX3_remove 6 = .ok (.ifCond .eq 7, 3) := by decide +kernel
theorem dX3_remove_9 : decode cX3_remove 9 = .ok (.iconst 0, 1) := by decide +kernel
theorem dX3_remove_10 : decode cX3_remove 10 = .ok (.goto 4, 3) := by decide +kernel
theorem dX3_remove_13 : decode cX3_remove 13 = .ok (.iconst 1, 1) := by decide +kernel
theorem dX3_remove_14 : decode cX3_remove 14 = .ok (.putfield 45, 3) := by decide +kernel
theorem dX3_remove_17 : decode cX3_remove 17 = .ok (.aload_n 0, 1) := by decide +kernel
theorem dX3_remove_18 : decode cX3_remove 18 = .ok (.getfield 45, 3) := by decide +kernel
theorem dX3_remove_21 : decode cX3_remove 21 = .ok (.ifCond .le 5, 3) := by decide +kernel
theorem dX3_remove_24 : decode cX3_remove 24 = .ok (.iconst 0, 1) := by decide +kernel
theorem dX3_remove_25 : decode cX3_remove 25 = .ok (.ireturn, 1) := by decide +kernel
theorem dX3_remove_26 : decode cX3_remove 26 = .ok (.aload_n 0, 1) := by decide +kernel
theorem dX3_remove_27 : decode cX3_remove 27 = .ok (.getfield 7, 3) := by decide +kernel
theorem dX3_remove_30 : decode cX3_remove 30 = .ok (.iload_n 1, 1) := by decide +kernel
theorem dX3_remove_31 : decode cX3_remove 31 = .ok (.iconst 0, 1) := by decide +kernel
theorem dX3_remove_32 : decode cX3_remove 32 = .ok (.bastore, 1) := by decide +kernel
theorem dX3_remove_33 : decode cX3_remove 33 = .ok (.aload_n 0, 1) := by decide +kernel
theorem dX3_remove_34 : decode cX3_remove 34 = .ok (.invokevirtual 56, 3) := by decide +kernel
theorem dX3_remove_37 : decode cX3_remove 37 = .ok (.ireturn, 1) := by decide +kernel
set_option maxRecDepth 20000 in
theorem ggX3_edit_X3_isThere : GoodIn wsX3_edit wsX3_isThere := goodIn_r _ [8, 9, 10, 11, 12, 7, 13, 14, 15, 16, 17, 18, 19, 20, 21, 22, 23, 24, 25, 26, 27, 28, 29, 30, 31, 32, 33] (by decide +kernel) (by decide +kernel)
set_option maxRecDepth 20000 in
theorem gX3_edit_X3_isThere : GoodIn wsX3_edit (wsV RX3 60 RX3 yX3_isThere wsX3_isThere) := goodIn_app (goodIn_of _ (by decide +kernel)) ggX3_edit_X3_isThere
set_option maxRecDepth 20000 in
theorem ggX3_edit_X3_isIn : GoodIn wsX3_edit wsX3_isIn := goodIn_r _ [13] (by decide +kernel) (by decide +kernel)
set_option maxRecDepth 20000 in
theorem gX3_edit_X3_isIn : GoodIn wsX3_edit (va_wsS RX3 51 yX3_isIn wsX3_isIn) := goodIn_app (goodIn_of _ (by decide +kernel)) ggX3_edit_X3_isIn
theorem dX3_edit_0 : decode cX3_edit 0 = .ok (.aload_n 0, 1) := by decide +kernel
theorem dX3_edit_1 : decode cX3_edit 1 = .ok (.aload_n 0, 1) := by decide +kernel
theorem dX3_edit_2 : decode cX3_edit 2 = .ok (.iload_n 1, 1) := by decide +kernel
theorem dX3_edit_3 : decode cX3_edit 3 = .ok (.invokevirtual 60, 3) := by decide +kernel
theorem dX3_edit_6 : decode cX3_edit 6 = .ok (.ifCond .ne 7, 3) := by decide +kernel
theorem dX3_edit_9 : decode cX3_edit 9 = .ok (.iconst 1, 1) := by decide +kernel
theorem dX3_edit_10 : decode cX3_edit 10 = .ok (.goto 29, 3) := by decide +kernel
theorem dX3_edit_13 : decode cX3_edit 13 = .ok (.iload_n 2, 1) := by decide +kernel
theorem dX3_edit_14 : decode cX3_edit 14 = .ok (.iconst 0, 1) := by decide +kernel
theorem dX3_edit_15 : decode cX3_edit 15 = .ok (.bipush 99, 2) := by decide +kernel
theorem dX3_edit_17 : decode cX3_edit 17 = .ok (.invokestatic 51, 3) := by decide +kernel
theorem dX3_edit_20 : decode cX3_edit 20 = .ok (.ifCond .ne 7, 3) := by decide +kernel
theorem dX3_edit_23 : decode cX3_edit 23 = .ok (.iconst 2, 1) := by decide +kernel
theorem dX3_edit_24 : decode cX3_edit 24 = .ok (.goto 15, 3) := by decide +kernel
theorem dX3_edit_27 : decode cX3_edit 27 = .ok (.aload_n 0, 1) := by decide +kernel
theorem dX3_edit_28 : decode cX3_edit 28 = .ok (.getfield 64, 3) := by decide +kernel
theorem dX3_edit_31 : decode cX3_edit 31 = .ok (.ifCond .eq 7, 3) := by decide +kernel
theorem dX3_edit_34 : decode cX3_edit 34 = .ok (.iconst 3, 1) := by decide +kernel
theorem dX3_edit_35 : decode cX3_edit 35 = .ok (.goto 4, 3) := by decide +kernel
theorem dX3_edit_38 : decode cX3_edit 38 = .ok (.iconst 0, 1) := by decide +kernel
theorem dX3_edit_39 : decode cX3_edit 39 = .ok (.putfield 45, 3) := by decide +kernel
theorem dX3_edit_42 : decode cX3_edit 42 = .ok (.aload_n 0, 1) := by decide +kernel
theorem dX3_edit_43 : decode cX3_edit 43 = .ok (.getfield 45, 3) := by decide +kernel
theorem dX3_edit_46 : decode cX3_edit 46 = .ok (.ifCond .le 5, 3) := by decide +kernel
theorem dX3_edit_49 : decode cX3_edit 49 = .ok (.iconst 0, 1) := by decide +kernel
theorem dX3_edit_50 : decode cX3_edit 50 = .ok (.ireturn, 1) := by decide +kernel
theorem dX3_edit_51 : decode cX3_edit 51 = .ok (.aload_n 0, 1) := by decide +kernel
theorem dX3_edit_52 : decode cX3_edit 52 = .ok (.getfield 29, 3) := by decide +kernel
theorem dX3_edit_55 : decode cX3_edit 55 = .ok (.iload_n 1, 1) := by decide +kernel
theorem dX3_edit_56 : decode cX3_edit 56 = .ok (.iaload, 1) := by decide +kernel
theorem dX3_edit_57 : decode cX3_edit 57 = .ok (.istore_n 3, 1) := by decide +kernel
theorem dX3_edit_58 : decode cX3_edit 58 = .ok (.aload_n 0, 1) := by decide +kernel
theorem dX3_edit_59 : decode cX3_edit 59 = .ok (.getfield 29, 3) := by decide +kernel
theorem dX3_edit_62 : decode cX3_edit 62 = .ok (.iload_n 1, 1) := by decide +kernel
theorem dX3_edit_63 : decode cX3_edit 63 = .ok (.iload_n 2, 1) := by decide +kernel
theorem dX3_edit_64 : decode cX3_edit 64 = .ok (.iastore, 1) := by decide +kernel
theorem dX3_edit_65 : decode cX3_edit 65 = .ok (.iload_n 3, 1) := by decide +kernel
theorem dX3_edit_66 : decode cX3_edit 66 = .ok (.ireturn, 1) := by decide +kernel
set_option maxRecDepth 20000 in
theorem ggX3_choose_X3_isThere : GoodIn wsX3_choose wsX3_isThere := goodIn_r _ [8, 9, 10, 11, 12, 7, 13, 14, 15, 16, 17, 18, 19, 20, 21, 22, 23, 24, 25, 26, 27, 28, 29, 30, 31, 32, 33] (by decide +kernel) (by decide +kernel)
set_option maxRecDepth 20000 in
theorem gX3_choose_X3_isThere : GoodIn wsX3_choose (wsV RX3 60 RX3 yX3_isThere wsX3_isThere) := goodIn_app (goodIn_of _ (by decide +kernel)) ggX3_choose_X3_isThere
theorem dX3_choose_0 : decode cX3_choose 0 = .ok (.aload_n 0, 1) := by decide +kernel
theorem dX3_choose_1 : decode cX3_choose 1 = .ok (.iload_n 1, 1) := by decide +kernel
theorem dX3_choose_2 : decode cX3_choose 2 = .ok (.iconst (-1), 1) := by decide +kernel
theorem dX3_choose_3 : decode cX3_choose 3 = .ok (.if_icmp .eq 15, 3) := by decide +kernel
theorem dX3_choose_6 : decode cX3_choose 6 = .ok (.aload_n 0, 1) := by decide +kernel
theorem dX3_choose_7 : decode cX3_choose 7 = .ok (.iload_n 1, 1) := by decide +kernel
theorem dX3_choose_8 : decode cX3_choose 8 = .ok (.invokevirtual 60, 3) := by decide +kernel
theorem dX3_choose_11 : decode cX3_choose 11 = .ok (.ifCond .ne 7, 3) := by decide +kernel
theorem dX3_choose_14 : decode cX3_choose 14 = .ok (.iconst 1, 1) := by decide +kernel
theorem dX3_choose_15 : decode cX3_choose 15 = .ok (.goto 15, 3) := by decide +kernel
theorem dX3_choose_18 : decode cX3_choose 18 = .ok (.aload_n 0, 1) := by decide +kernel
theorem dX3_choose_19 : decode cX3_choose 19 = .ok (.getfield 64, 3) := by decide +kernel
theorem dX3_choose_22 : decode cX3_choose 22 = .ok (.ifCond .eq 7, 3) := by decide +kernel
theorem dX3_choose_25 : decode cX3_choose 25 = .ok (.iconst 2, 1) := by decide +kernel
theorem dX3_choose_26 : decode cX3_choose 26 = .ok (.goto 4, 3) := by decide +kernel
theorem dX3_choose_29 : decode cX3_choose 29 = .ok (.iconst 0, 1) := by decide +kernel
theorem dX3_choose_30 : decode cX3_choose 30 = .ok (.putfield 45, 3) := by decide +kernel
theorem dX3_choose_33 : decode cX3_choose 33 = .ok (.aload_n 0, 1) := by decide +kernel
theorem dX3_choose_34 : decode cX3_choose 34 = .ok (.getfield 45, 3) := by decide +kernel
theorem dX3_choose_37 : decode cX3_choose 37 = .ok (.ifCond .le 5, 3) := by decide +kernel
theorem dX3_choose_40 : decode cX3_choose 40 = .ok (.iconst 0, 1) := by decide +kernel
theorem dX3_choose_41 : decode cX3_choose 41 = .ok (.ireturn, 1) := by decide +kernel
theorem dX3_choose_42 : decode cX3_choose 42 = .ok (.aload_n 0, 1) := by decide +kernel
theorem dX3_choose_43 : decode cX3_choose 43 = .ok (.getfield 32, 3) := by decide +kernel
theorem dX3_choose_46 : decode cX3_choose 46 = .ok (.istore_n 2, 1) := by decide +kernel
theorem dX3_choose_47 : decode cX3_choose 47 = .ok (.aload_n 0, 1) := by decide +kernel
theorem dX3_choose_48 : decode cX3_choose 48 = .ok (.iload_n 1, 1) := by decide +kernel
theorem dX3_choose_49 : decode cX3_choose 49 = .ok (.putfield 32, 3) := by decide +kernel
theorem dX3_choose_52 : decode cX3_choose 52 = .ok (.iload_n 2, 1) := by decide +kernel
theorem dX3_choose_53 : decode cX3_choose 53 = .ok (.ireturn, 1) := by decide +kernel
set_option maxRecDepth 20000 in
theorem ggX3_chooseOnce_X3_isThere : GoodIn wsX3_chooseOnce wsX3_isThere := goodIn_r _ [7, 8, 9, 10, 11, 6, 12, 13, 14, 15, 16, 17, 18, 19, 20, 21, 22, 23, 24, 25, 26, 27, 28, 29, 30, 31, 32] (by decide +kernel) (by decide +kernel)
set_option maxRecDepth 20000 in
theorem gX3_chooseOnce_X3_isThere : GoodIn wsX3_chooseOnce (wsV RX3 60 RX3 yX3_isThere wsX3_isThere) := goodIn_app (goodIn_of _ (by decide +kernel)) ggX3_chooseOnce_X3_isThere
theorem dX3_chooseOnce_0 : decode cX3_chooseOnce 0 = .ok (.aload_n 0, 1) := by decide +kernel
theorem dX3_chooseOnce_1 : decode cX3_chooseOnce 1 = .ok (.iload_n 1, 1) := by decide +kernel
theorem dX3_chooseOnce_2 : decode cX3_chooseOnce 2 = .ok (.iconst (-1), 1) := by decide +kernel
theorem dX3_chooseOnce_3 : decode cX3_chooseOnce 3 = .ok (.if_icmp .eq 15, 3) := by decide +kernel
theorem dX3_chooseOnce_6 : decode cX3_chooseOnce 6 = .ok (.aload_n 0, 1) := by decide +kernel
theorem dX3_chooseOnce_7 : decode cX3_chooseOnce 7 = .ok (.iload_n 1, 1) := by decide +kernel
theorem dX3_chooseOnce_8 : decode cX3_chooseOnce 8 = .ok (.invokevirtual 60, 3) := by decide +kernel
theorem dX3_chooseOnce_11 : decode cX3_chooseOnce 11 = .ok (.ifCond .ne 7, 3) := by decide +kernel
theorem dX3_chooseOnce_14 : decode cX3_chooseOnce 14 = .ok (.iconst 1, 1) := by decide +kernel
theorem dX3_chooseOnce_15 : decode cX3_chooseOnce 15 = .ok (.goto 4, 3) := by decide +kernel
theorem dX3_chooseOnce_18 : decode cX3_chooseOnce 18 = .ok (.iconst 0, 1) := by decide +kernel
theorem dX3_chooseOnce_19 : decode cX3_chooseOnce 19 = .ok (.putfield 45, 3) := by decide +kernel
theorem dX3_chooseOnce_22 : decode cX3_chooseOnce 22 = .ok (.aload_n 0, 1) := by decide +kernel
theorem dX3_chooseOnce_23 : decode cX3_chooseOnce 23 = .ok (.getfield 45, 3) := by decide +kernel
theorem dX3_chooseOnce_26 : decode cX3_chooseOnce 26 = .ok (.ifCond .le 5, 3) := by decide +kernel
theorem dX3_chooseOnce_29 : decode cX3_chooseOnce 29 = .ok (.iconst 0, 1) := by decide +kernel
theorem dX3_chooseOnce_30 : decode cX3_chooseOnce 30 = .ok (.ireturn, 1) := by decide +kernel
theorem dX3_chooseOnce_31 : decode cX3_chooseOnce 31 = .ok (.aload_n 0, 1) := by decide +kernel
theorem dX3_chooseOnce_32 : decode cX3_chooseOnce 32 = .ok (.getfield 36, 3) := by decide +kernel
theorem dX3_chooseOnce_35 : decode cX3_chooseOnce 35 = .ok (.istore_n 2, 1) := by decide +kernel
theorem dX3_chooseOnce_36 : decode cX3_chooseOnce 36 = .ok (.aload_n 0, 1) := by decide +kernel
theorem dX3_chooseOnce_37 : decode cX3_chooseOnce 37 = .ok (.iload_n 1, 1) := by decide +kernel
theorem dX3_chooseOnce_38 : decode cX3_chooseOnce 38 = .ok (.putfield 36, 3) := by decide +kernel
theorem dX3_chooseOnce_41 : decode cX3_chooseOnce 41 = .ok (.iload_n 2, 1) := by decide +kernel
theorem dX3_chooseOnce_42 : decode cX3_chooseOnce 42 = .ok (.ireturn, 1) := by decide +kernel
set_option maxRecDepth 20000 in
theorem ggX3_fits_X3_isIn : GoodIn wsX3_fits wsX3_isIn := goodIn_r _ [7] (by decide +kernel) (by decide +kernel)
set_option maxRecDepth 20000 in
theorem gX3_fits_X3_isIn : GoodIn wsX3_fits (va_wsS RX3 51 yX3_isIn wsX3_isIn) := goodIn_app (goodIn_of _ (by decide +kernel)) ggX3_fits_X3_isIn
theorem dX3_fits_0 : decode cX3_fits 0 = .ok (.aload_n 0, 1) := by decide +kernel
theorem dX3_fits_1 : decode cX3_fits 1 = .ok (.getfield 17, 3) := by decide +kernel
theorem dX3_fits_4 : decode cX3_fits 4 = .ok (.iload_n 1, 1) := by decide +kernel
theorem dX3_fits_5 : decode cX3_fits 5 = .ok (.iaload, 1) := by decide +kernel
theorem dX3_fits_6 : decode cX3_fits 6 = .ok (.aload_n 0, 1) := by decide +kernel
theorem dX3_fits_7 : decode cX3_fits 7 = .ok (.getfield 68, 3) := by decide +kernel
theorem dX3_fits_10 : decode cX3_fits 10 = .ok (.aload_n 0, 1) := by decide +kernel
theorem dX3_fits_11 : decode cX3_fits 11 = .ok (.getfield 39, 3) := by decide +kernel
theorem dX3_fits_14 : decode cX3_fits 14 = .ok (.invokestatic 51, 3) := by decide +kernel
theorem dX3_fits_17 : decode cX3_fits 17 = .ok (.ireturn, 1) := by decide +kernel
set_option maxRecDepth 20000 in
theorem ggX3_setPattern_X3_isIn : GoodIn wsX3_setPattern wsX3_isIn := goodIn_r _ [10] (by decide +kernel) (by decide +kernel)
set_option maxRecDepth 20000 in
theorem gX3_setPattern_X3_isIn : GoodIn wsX3_setPattern (va_wsS RX3 51 yX3_isIn wsX3_isIn) := goodIn_app (goodIn_of _ (by decide +kernel)) ggX3_setPattern_X3_isIn
set_option maxRecDepth 20000 in
theorem ggX3_setPattern_X3_fits : GoodIn wsX3_setPattern wsX3_fits := goodIn_r _ [14, 15, 3, 4, 7, 8, 9, 10, 16, 17, 18, 19, 20, 21, 22, 23, 24, 25, 26, 27, 28, 29, 30, 31, 32, 33, 34, 35] (by decide +kernel) (by decide +kernel)
set_option maxRecDepth 20000 in
theorem gX3_setPattern_X3_fits : GoodIn wsX3_setPattern (wsV RX3 71 RX3 yX3_fits wsX3_fits) := goodIn_app (goodIn_of _ (by decide +kernel)) ggX3_setPattern_X3_fits
theorem dX3_setPattern_0 : decode cX3_setPattern 0 = .ok (.aload_n 0, 1) := by decide +kernel
theorem dX3_setPattern_1 : decode cX3_setPattern 1 = .ok (.iload_n 1, 1) := by decide +kernel
theorem dX3_setPattern_2 : decode cX3_setPattern 2 = .ok (.iconst 0, 1) := by decide +kernel
theorem dX3_setPattern_3 : decode cX3_setPattern 3 = .ok (.bipush 99, 2) := by decide +kernel
theorem dX3_setPattern_5 : decode cX3_setPattern 5 = .ok (.invokestatic 51, 3) := by decide +kernel
theorem dX3_setPattern_8 : decode cX3_setPattern 8 = .ok (.ifCond .eq 13, 3) := by decide +kernel
theorem dX3_setPattern_11 : decode cX3_setPattern 11 = .ok (.iload_n 2, 1) := by decide +kernel
theorem dX3_setPattern_12 : decode cX3_setPattern 12 = .ok (.iload_n 1, 1) := by decide +kernel
theorem dX3_setPattern_13 : decode cX3_setPattern 13 = .ok (.bipush 99, 2) := by decide +kernel
theorem dX3_setPattern_15 : decode cX3_setPattern 15 = .ok (.invokestatic 51, 3) := by decide +kernel
theorem dX3_setPattern_18 : decode cX3_setPattern 18 = .ok (.ifCond .ne 7, 3) := by decide +kernel
theorem dX3_setPattern_21 : decode cX3_setPattern 21 = .ok (.iconst 1, 1) := by decide +kernel
theorem dX3_setPattern_22 : decode cX3_setPattern 22 = .ok (.goto 15, 3) := by decide +kernel
theorem dX3_setPattern_25 : decode cX3_setPattern 25 = .ok (.aload_n 0, 1) := by decide +kernel
theorem dX3_setPattern_26 : decode cX3_setPattern 26 = .ok (.getfield 64, 3) := by decide +kernel
theorem dX3_setPattern_29 : decode cX3_setPattern 29 = .ok (.ifCond .eq 7, 3) := by decide +kernel
theorem dX3_setPattern_32 : decode cX3_setPattern 32 = .ok (.iconst 2, 1) := by decide +kernel
theorem dX3_setPattern_33 : decode cX3_setPattern 33 = .ok (.goto 4, 3) := by decide +kernel
theorem dX3_setPattern_36 : decode cX3_setPattern 36 = .ok (.iconst 0, 1) := by decide +kernel
theorem dX3_setPattern_37 : decode cX3_setPattern 37 = .ok (.putfield 45, 3) := by decide +kernel
theorem dX3_setPattern_40 : decode cX3_setPattern 40 = .ok (.aload_n 0, 1) := by decide +kernel
theorem dX3_setPattern_41 : decode cX3_setPattern 41 = .ok (.getfield 45, 3) := by decide +kernel
theorem dX3_setPattern_44 : decode cX3_setPattern 44 = .ok (.ifCond .le 5, 3) := by decide +kernel
theorem dX3_setPattern_47 : decode cX3_setPattern 47 = .ok (.iconst 0, 1) := by decide +kernel
theorem dX3_setPattern_48 : decode cX3_setPattern 48 = .ok (.ireturn, 1) := by decide +kernel
theorem dX3_setPattern_49 : decode cX3_setPattern 49 = .ok (.aload_n 0, 1) := by decide +kernel
theorem dX3_setPattern_50 : decode cX3_setPattern 50 = .ok (.iload_n 1, 1) := by decide +kernel
theorem dX3_setPattern_51 : decode cX3_setPattern 51 = .ok (.putfield 68, 3) := by decide +kernel
theorem dX3_setPattern_54 : decode cX3_setPattern 54 = .ok (.aload_n 0, 1) := by decide +kernel
theorem dX3_setPattern_55 : decode cX3_setPattern 55 = .ok (.iload_n 2, 1) := by decide +kernel
theorem dX3_setPattern_56 : decode cX3_setPattern 56 = .ok (.putfield 39, 3) := by decide +kernel
theorem dX3_setPattern_59 : decode cX3_setPattern 59 = .ok (.iconst 0, 1) := by decide +kernel
theorem dX3_setPattern_60 : decode cX3_setPattern 60 = .ok (.istore_n 3, 1) := by decide +kernel
theorem dX3_setPattern_61 : decode cX3_setPattern 61 = .ok (.iconst 0, 1) := by decide +kernel
theorem dX3_setPattern_62 : decode cX3_setPattern 62 = .ok (.istore 4, 2) := by decide +kernel
theorem dX3_setPattern_64 : decode cX3_setPattern 64 = .ok (.iload 4, 2) := by decide +kernel
theorem dX3_setPattern_66 : decode cX3_setPattern 66 = .ok (.aload_n 0, 1) := by decide +kernel
theorem dX3_setPattern_67 : decode cX3_setPattern 67 = .ok (.getfield 48, 3) := by decide +kernel
theorem dX3_setPattern_70 : decode cX3_setPattern 70 = .ok (.if_icmp .ge 36, 3) := by decide +kernel
theorem dX3_setPattern_73 : decode cX3_setPattern 73 = .ok (.iload_n 3, 1) := by decide +kernel
theorem dX3_setPattern_74 : decode cX3_setPattern 74 = .ok (.aload_n 0, 1) := by decide +kernel
theorem dX3_setPattern_75 : decode cX3_setPattern 75 = .ok (.getfield 7, 3) := by decide +kernel
theorem dX3_setPattern_78 : decode cX3_setPattern 78 = .ok (.iload 4, 2) := by decide +kernel
theorem dX3_setPattern_80 : decode cX3_setPattern 80 = .ok (.baload, 1) := by decide +kernel
theorem dX3_setPattern_81 : decode cX3_setPattern 81 = .ok (.ifCond .eq 16, 3) := by decide +kernel
theorem dX3_setPattern_84 : decode cX3_setPattern 84 = .ok (.aload_n 0, 1) := by decide +kernel
theorem dX3_setPattern_85 : decode cX3_setPattern 85 = .ok (.iload 4, 2) := by decide +kernel
theorem dX3_setPattern_87 : decode cX3_setPattern 87 = .ok (.invokevirtual 71, 3) := by decide +kernel
theorem dX3_setPattern_90 : decode cX3_setPattern 90 = .ok (.ifCond .eq 7, 3) := by decide +kernel
theorem dX3_setPattern_93 : decode cX3_setPattern 93 = .ok (.iconst 1, 1) := by decide +kernel
theorem dX3_setPattern_94 : decode cX3_setPattern 94 = .ok (.goto 4, 3) := by decide +kernel
theorem dX3_setPattern_97 : decode cX3_setPattern 97 = .ok (.iconst 0, 1) := by decide +kernel
theorem dX3_setPattern_98 : decode cX3_setPattern 98 = .ok (.iadd, 1) := by decide +kernel
theorem dX3_setPattern_99 : decode cX3_setPattern 99 = .ok (.istore_n 3, 1) := by decide +kernel
theorem dX3_setPattern_100 : decode cX3_setPattern 100 = .ok (.iinc 4 1, 3) := by decide +kernel
theorem dX3_setPattern_103 : decode cX3_setPattern 103 = .ok (.goto (-39), 3) := by decide +kernel
theorem dX3_setPattern_106 : decode cX3_setPattern 106 = .ok (.iload_n 3, 1) := by decide +kernel
theorem dX3_setPattern_107 : decode cX3_setPattern 107 = .ok (.ireturn, 1) := by decide +kernel
theorem dX3_compared_0 : decode cX3_compared 0 = .ok (.aload_n 0, 1) := by decide +kernel
theorem dX3_compared_1 : decode cX3_compared 1 = .ok (.getfield 20, 3) := by decide +kernel
theorem dX3_compared_4 : decode cX3_compared 4 = .ok (.iload_n 1, 1) := by decide +kernel
theorem dX3_compared_5 : decode cX3_compared 5 = .ok (.iaload, 1) := by decide +kernel
theorem dX3_compared_6 : decode cX3_compared 6 = .ok (.aload_n 0, 1) := by decide +kernel
theorem dX3_compared_7 : decode cX3_compared 7 = .ok (.getfield 20, 3) := by decide +kernel
theorem dX3_compared_10 : decode cX3_compared 10 = .ok (.iload_n 2, 1) := by decide +kernel
theorem dX3_compared_11 : decode cX3_compared 11 = .ok (.iaload, 1) := by decide +kernel
theorem dX3_compared_12 : decode cX3_compared 12 = .ok (.isub, 1) := by decide +kernel
theorem dX3_compared_13 : decode cX3_compared 13 = .ok (.istore_n 3, 1) := by decide +kernel
theorem dX3_compared_14 : decode cX3_compared 14 = .ok (.iload_n 3, 1) := by decide +kernel
theorem dX3_compared_15 : decode cX3_compared 15 = .ok (.ifCond .ne 19, 3) := by decide +kernel
theorem dX3_compared_18 : decode cX3_compared 18 = .ok (.aload_n 0, 1) := by decide +kernel
theorem dX3_compared_19 : decode cX3_compared 19 = .ok (.getfield 23, 3) := by decide +kernel
theorem dX3_compared_22 : decode cX3_compared 22 = .ok (.iload_n 1, 1) := by decide +kernel
theorem dX3_compared_23 : decode cX3_compared 23 = .ok (.iaload, 1) := by decide +kernel
theorem dX3_compared_24 : decode cX3_compared 24 = .ok (.aload_n 0, 1) := by decide +kernel
theorem dX3_compared_25 : decode cX3_compared 25 = .ok (.getfield 23, 3) := by decide +kernel
theorem dX3_compared_28 : decode cX3_compared 28 = .ok (.iload_n 2, 1) := by decide +kernel
theorem dX3_compared_29 : decode cX3_compared 29 = .ok (.iaload, 1) := by decide +kernel
theorem dX3_compared_30 : decode cX3_compared 30 = .ok (.isub, 1) := by decide +kernel
theorem dX3_compared_31 : decode cX3_compared 31 = .ok (.goto 4, 3) := by decide +kernel
theorem dX3_compared_34 : decode cX3_compared 34 = .ok (.iload_n 3, 1) := by decide +kernel
theorem dX3_compared_35 : decode cX3_compared 35 = .ok (.istore 4, 2) := by decide +kernel
theorem dX3_compared_37 : decode cX3_compared 37 = .ok (.iload 4, 2) := by decide +kernel
theorem dX3_compared_39 : decode cX3_compared 39 = .ok (.ifCond .le 7, 3) := by decide +kernel
theorem dX3_compared_42 : decode cX3_compared 42 = .ok (.iconst 1, 1) := by decide +kernel
theorem dX3_compared_43 : decode cX3_compared 43 = .ok (.goto 13, 3) := by decide +kernel
theorem dX3_compared_46 : decode cX3_compared 46 = .ok (.iload 4, 2) := by decide +kernel
theorem dX3_compared_48 : decode cX3_compared 48 = .ok (.ifCond .ge 7, 3) := by decide +kernel
theorem dX3_compared_51 : decode cX3_compared 51 = .ok (.iconst (-1), 1) := by decide +kernel
theorem dX3_compared_52 : decode cX3_compared 52 = .ok (.goto 4, 3) := by decide +kernel
theorem dX3_compared_55 : decode cX3_compared 55 = .ok (.iconst 0, 1) := by decide +kernel
theorem dX3_compared_56 : decode cX3_compared 56 = .ok (.ireturn, 1) := by decide +kernel
set_option maxRecDepth 20000 in
theorem ggX3_isAhead_X3_compared : GoodIn wsX3_isAhead wsX3_compared := goodIn_r _ [8, 9, 10, 11, 12, 13, 14, 15, 16, 17, 18, 19, 20, 21, 22, 23, 24, 25, 26, 27, 28, 29, 30] (by decide +kernel) (by decide +kernel)
set_option maxRecDepth 20000 in
theorem gX3_isAhead_X3_compared : GoodIn wsX3_isAhead (wsV RX3 74 RX3 yX3_compared wsX3_compared) := goodIn_app (goodIn_of _ (by decide +kernel)) ggX3_isAhead_X3_compared
theorem dX3_isAhead_0 : decode cX3_isAhead 0 = .ok (.aload_n 0, 1) := by decide +kernel
theorem dX3_isAhead_1 : decode cX3_isAhead 1 = .ok (.getfield 26, 3) := by decide +kernel
theorem dX3_isAhead_4 : decode cX3_isAhead 4 = .ok (.iload_n 1, 1) := by decide +kernel
theorem dX3_isAhead_5 : decode cX3_isAhead 5 = .ok (.iaload, 1) := by decide +kernel
theorem dX3_isAhead_6 : decode cX3_isAhead 6 = .ok (.ifCond .ne 7, 3) := by decide +kernel
theorem dX3_isAhead_9 : decode cX3_isAhead 9 = .ok (.iconst 1, 1) := by decide +kernel
theorem dX3_isAhead_10 : decode cX3_isAhead 10 = .ok (.goto 4, 3) := by decide +kernel
theorem dX3_isAhead_13 : decode cX3_isAhead 13 = .ok (.iconst 0, 1) := by decide +kernel
theorem dX3_isAhead_14 : decode cX3_isAhead 14 = .ok (.istore_n 3, 1) := by decide +kernel
theorem dX3_isAhead_15 : decode cX3_isAhead 15 = .ok (.iload_n 3, 1) := by decide +kernel
theorem dX3_isAhead_16 : decode cX3_isAhead 16 = .ok (.aload_n 0, 1) := by decide +kernel
theorem dX3_isAhead_17 : decode cX3_isAhead 17 = .ok (.getfield 26, 3) := by decide +kernel
theorem dX3_isAhead_20 : decode cX3_isAhead 20 = .ok (.iload_n 2, 1) := by decide +kernel
theorem dX3_isAhead_21 : decode cX3_isAhead 21 = .ok (.iaload, 1) := by decide +kernel
theorem dX3_isAhead_22 : decode cX3_isAhead 22 = .ok (.ifCond .ne 7, 3) := by decide +kernel
theorem dX3_isAhead_25 : decode cX3_isAhead 25 = .ok (.iconst 1, 1) := by decide +kernel
theorem dX3_isAhead_26 : decode cX3_isAhead 26 = .ok (.goto 4, 3) := by decide +kernel
theorem dX3_isAhead_29 : decode cX3_isAhead 29 = .ok (.iconst 0, 1) := by decide +kernel
theorem dX3_isAhead_30 : decode cX3_isAhead 30 = .ok (.if_icmp .eq 13, 3) := by decide +kernel
theorem dX3_isAhead_33 : decode cX3_isAhead 33 = .ok (.iload_n 3, 1) := by decide +kernel
theorem dX3_isAhead_34 : decode cX3_isAhead 34 = .ok (.ifCond .ne 7, 3) := by decide +kernel
theorem dX3_isAhead_37 : decode cX3_isAhead 37 = .ok (.iconst 1, 1) := by decide +kernel
theorem dX3_isAhead_38 : decode cX3_isAhead 38 = .ok (.goto 4, 3) := by decide +kernel
theorem dX3_isAhead_41 : decode cX3_isAhead 41 = .ok (.iconst 0, 1) := by decide +kernel
theorem dX3_isAhead_42 : decode cX3_isAhead 42 = .ok (.ireturn, 1) := by decide +kernel
theorem dX3_isAhead_43 : decode cX3_isAhead 43 = .ok (.aload_n 0, 1) := by decide +kernel
theorem dX3_isAhead_44 : decode cX3_isAhead 44 = .ok (.getfield 13, 3) := by decide +kernel
theorem dX3_isAhead_47 : decode cX3_isAhead 47 = .ok (.iload_n 1, 1) := by decide +kernel
theorem dX3_isAhead_48 : decode cX3_isAhead 48 = .ok (.iaload, 1) := by decide +kernel
theorem dX3_isAhead_49 : decode cX3_isAhead 49 = .ok (.aload_n 0, 1) := by decide +kernel
theorem dX3_isAhead_50 : decode cX3_isAhead 50 = .ok (.getfield 13, 3) := by decide +kernel
theorem dX3_isAhead_53 : decode cX3_isAhead 53 = .ok (.iload_n 2, 1) := by decide +kernel
theorem dX3_isAhead_54 : decode cX3_isAhead 54 = .ok (.iaload, 1) := by decide +kernel
theorem dX3_isAhead_55 : decode cX3_isAhead 55 = .ok (.if_icmp .eq 24, 3) := by decide +kernel
theorem dX3_isAhead_58 : decode cX3_isAhead 58 = .ok (.aload_n 0, 1) := by decide +kernel
theorem dX3_isAhead_59 : decode cX3_isAhead 59 = .ok (.getfield 13, 3) := by decide +kernel
theorem dX3_isAhead_62 : decode cX3_isAhead 62 = .ok (.iload_n 1, 1) := by decide +kernel
theorem dX3_isAhead_63 : decode cX3_isAhead 63 = .ok (.iaload, 1) := by decide +kernel
theorem dX3_isAhead_64 : decode cX3_isAhead 64 = .ok (.aload_n 0, 1) := by decide +kernel
theorem dX3_isAhead_65 : decode cX3_isAhead 65 = .ok (.getfield 13, 3) := by decide +kernel
theorem dX3_isAhead_68 : decode cX3_isAhead 68 = .ok (.iload_n 2, 1) := by decide +kernel
theorem dX3_isAhead_69 : decode cX3_isAhead 69 = .ok (.iaload, 1) := by decide +kernel
theorem dX3_isAhead_70 : decode cX3_isAhead 70 = .ok (.if_icmp .ge 7, 3) := by decide +kernel
theorem dX3_isAhead_73 : decode cX3_isAhead 73 = .ok (.iconst 1, 1) := by decide +kernel
theorem dX3_isAhead_74 : decode cX3_isAhead 74 = .ok (.goto 4, 3) := by decide +kernel
theorem dX3_isAhead_77 : decode cX3_isAhead 77 = .ok (.iconst 0, 1) := by decide +kernel
theorem dX3_isAhead_78 : decode cX3_isAhead 78 = .ok (.ireturn, 1) := by decide +kernel
theorem dX3_isAhead_79 : decode cX3_isAhead 79 = .ok (.aload_n 0, 1) := by decide +kernel
theorem dX3_isAhead_80 : decode cX3_isAhead 80 = .ok (.iload_n 1, 1) := by decide +kernel
theorem dX3_isAhead_81 : decode cX3_isAhead 81 = .ok (.iload_n 2, 1) := by decide +kernel
theorem dX3_isAhead_82 : decode cX3_isAhead 82 = .ok (.invokevirtual 74, 3) := by decide +kernel
theorem dX3_isAhead_85 : decode cX3_isAhead 85 = .ok (.istore 4, 2) := by decide +kernel
theorem dX3_isAhead_87 : decode cX3_isAhead 87 = .ok (.iload 4, 2) := by decide +kernel
theorem dX3_isAhead_89 : decode cX3_isAhead 89 = .ok (.ifCond .eq 14, 3) := by decide +kernel
theorem dX3_isAhead_92 : decode cX3_isAhead 92 = .ok (.iload 4, 2) := by decide +kernel
theorem dX3_isAhead_94 : decode cX3_isAhead 94 = .ok (.ifCond .le 7, 3) := by decide +kernel
theorem dX3_isAhead_97 : decode cX3_isAhead 97 = .ok (.iconst 1, 1) := by decide +kernel
theorem dX3_isAhead_98 : decode cX3_isAhead 98 = .ok (.goto 4, 3) := by decide +kernel
theorem dX3_isAhead_101 : decode cX3_isAhead 101 = .ok (.iconst 0, 1) := by decide +kernel
theorem dX3_isAhead_102 : decode cX3_isAhead 102 = .ok (.ireturn, 1) := by decide +kernel
theorem dX3_isAhead_103 : decode cX3_isAhead 103 = .ok (.aload_n 0, 1) := by decide +kernel
theorem dX3_isAhead_104 : decode cX3_isAhead 104 = .ok (.getfield 17, 3) := by decide +kernel
theorem dX3_isAhead_107 : decode cX3_isAhead 107 = .ok (.iload_n 1, 1) := by decide +kernel
theorem dX3_isAhead_108 : decode cX3_isAhead 108 = .ok (.iaload, 1) := by decide +kernel
theorem dX3_isAhead_109 : decode cX3_isAhead 109 = .ok (.aload_n 0, 1) := by decide +kernel
theorem dX3_isAhead_110 : decode cX3_isAhead 110 = .ok (.getfield 17, 3) := by decide +kernel
theorem dX3_isAhead_113 : decode cX3_isAhead 113 = .ok (.iload_n 2, 1) := by decide +kernel
theorem dX3_isAhead_114 : decode cX3_isAhead 114 = .ok (.iaload, 1) := by decide +kernel
theorem dX3_isAhead_115 : decode cX3_isAhead 115 = .ok (.if_icmp .eq 26, 3) := by decide +kernel
theorem dX3_isAhead_118 : decode cX3_isAhead 118 = .ok (.aload_n 0, 1) := by decide +kernel
theorem dX3_isAhead_119 : decode cX3_isAhead 119 = .ok (.getfield 17, 3) := by decide +kernel
theorem dX3_isAhead_122 : decode cX3_isAhead 122 = .ok (.iload_n 1, 1) := by decide +kernel
theorem dX3_isAhead_123 : decode cX3_isAhead 123 = .ok (.iaload, 1) := by decide +kernel
theorem dX3_isAhead_124 : decode cX3_isAhead 124 = .ok (.aload_n 0, 1) := by decide +kernel
theorem dX3_isAhead_125 : decode cX3_isAhead 125 = .ok (.getfield 17, 3) := by decide +kernel
theorem dX3_isAhead_128 : decode cX3_isAhead 128 = .ok (.iload_n 2, 1) := by decide +kernel
theorem dX3_isAhead_129 : decode cX3_isAhead 129 = .ok (.iaload, 1) := by decide +kernel
theorem dX3_isAhead_130 : decode cX3_isAhead 130 = .ok (.if_icmp .ge 7, 3) := by decide +kernel
theorem dX3_isAhead_133 : decode cX3_isAhead 133 = .ok (.iconst 1, 1) := by decide +kernel
theorem dX3_isAhead_134 : decode cX3_isAhead 134 = .ok (.goto 17, 3) := by decide +kernel
theorem dX3_isAhead_137 : decode cX3_isAhead 137 = .ok (.iconst 0, 1) := by decide +kernel
theorem dX3_isAhead_138 : decode cX3_isAhead 138 = .ok (.goto 13, 3) := by decide +kernel
theorem dX3_isAhead_141 : decode cX3_isAhead 141 = .ok (.iload_n 1, 1) := by decide +kernel
theorem dX3_isAhead_142 : decode cX3_isAhead 142 = .ok (.iload_n 2, 1) := by decide +kernel
theorem dX3_isAhead_143 : decode cX3_isAhead 143 = .ok (.if_icmp .ge 7, 3) := by decide +kernel
theorem dX3_isAhead_146 : decode cX3_isAhead 146 = .ok (.iconst 1, 1) := by decide +kernel
theorem dX3_isAhead_147 : decode cX3_isAhead 147 = .ok (.goto 4, 3) := by decide +kernel
theorem dX3_isAhead_150 : decode cX3_isAhead 150 = .ok (.iconst 0, 1) := by decide +kernel
theorem dX3_isAhead_151 : decode cX3_isAhead 151 = .ok (.ireturn, 1) := by decide +kernel
set_option maxRecDepth 20000 in
theorem ggX3_place_X3_isAhead : GoodIn wsX3_place wsX3_isAhead := goodIn_r _ [7, 8, 9, 10, 11, 12, 13, 6, 14, 15, 16, 17, 18, 19, 20, 21, 22, 23, 24, 25, 26, 27, 28, 29, 30, 31, 32, 33, 34, 35, 36] (by decide +kernel) (by decide +kernel)
set_option maxRecDepth 20000 in
theorem gX3_place_X3_isAhead : GoodIn wsX3_place (wsV RX3 78 RX3 yX3_isAhead wsX3_isAhead) := goodIn_app (goodIn_of _ (by decide +kernel)) ggX3_place_X3_isAhead
theorem dX3_place_0 : decode cX3_place 0 = .ok (.iconst 0, 1) := by decide +kernel
theorem dX3_place_1 : decode cX3_place 1 = .ok (.istore_n 2, 1) := by decide +kernel
theorem dX3_place_2 : decode cX3_place 2 = .ok (.iconst 0, 1) := by decide +kernel
theorem dX3_place_3 : decode cX3_place 3 = .ok (.istore_n 3, 1) := by decide +kernel
theorem dX3_place_4 : decode cX3_place 4 = .ok (.iload_n 3, 1) := by decide +kernel
theorem dX3_place_5 : decode cX3_place 5 = .ok (.aload_n 0, 1) := by decide +kernel
theorem dX3_place_6 : decode cX3_place 6 = .ok (.getfield 48, 3) := by decide +kernel
theorem dX3_place_9 : decode cX3_place 9 = .ok (.if_icmp .ge 40, 3) := by decide +kernel
theorem dX3_place_12 : decode cX3_place 12 = .ok (.iload_n 2, 1) := by decide +kernel
theorem dX3_place_13 : decode cX3_place 13 = .ok (.aload_n 0, 1) := by decide +kernel
theorem dX3_place_14 : decode cX3_place 14 = .ok (.getfield 7, 3) := by decide +kernel
theorem dX3_place_17 : decode cX3_place 17 = .ok (.iload_n 3, 1) := by decide +kernel
theorem dX3_place_18 : decode cX3_place 18 = .ok (.baload, 1) := by decide +kernel
theorem dX3_place_19 : decode cX3_place 19 = .ok (.ifCond .eq 21, 3) := by decide +kernel
theorem dX3_place_22 : decode cX3_place 22 = .ok (.iload_n 3, 1) := by decide +kernel
theorem dX3_place_23 : decode cX3_place 23 = .ok (.iload_n 1, 1) := by decide +kernel
theorem dX3_place_24 : decode cX3_place 24 = .ok (.if_icmp .eq 16, 3) := by decide +kernel
theorem dX3_place_27 : decode cX3_place 27 = .ok (.aload_n 0, 1) := by decide +kernel
theorem dX3_place_28 : decode cX3_place 28 = .ok (.iload_n 3, 1) := by decide +kernel
theorem dX3_place_29 : decode cX3_place 29 = .ok (.iload_n 1, 1) := by decide +kernel
theorem dX3_place_30 : decode cX3_place 30 = .ok (.invokevirtual 78, 3) := by decide +kernel
theorem dX3_place_33 : decode cX3_place 33 = .ok (.ifCond .eq 7, 3) := by decide +kernel
theorem dX3_place_36 : decode cX3_place 36 = .ok (.iconst 1, 1) := by decide +kernel
theorem dX3_place_37 : decode cX3_place 37 = .ok (.goto 4, 3) := by decide +kernel
theorem dX3_place_40 : decode cX3_place 40 = .ok (.iconst 0, 1) := by decide +kernel
theorem dX3_place_41 : decode cX3_place 41 = .ok (.iadd, 1) := by decide +kernel
theorem dX3_place_42 : decode cX3_place 42 = .ok (.istore_n 2, 1) := by decide +kernel
theorem dX3_place_43 : decode cX3_place 43 = .ok (.iinc 3 1, 3) := by decide +kernel
theorem dX3_place_46 : decode cX3_place 46 = .ok (.goto (-42), 3) := by decide +kernel
theorem dX3_place_49 : decode cX3_place 49 = .ok (.iload_n 2, 1) := by decide +kernel
theorem dX3_place_50 : decode cX3_place 50 = .ok (.ireturn, 1) := by decide +kernel
set_option maxRecDepth 20000 in
theorem ggX3_first_X3_fits : GoodIn wsX3_first wsX3_fits := goodIn_r _ [8, 9, 10, 11, 12, 13, 7, 14, 26, 27, 28, 29, 30, 31, 32, 33, 34, 35, 36, 37, 38, 39, 40, 41, 42, 43, 44, 45] (by decide +kernel) (by decide +kernel)
set_option maxRecDepth 20000 in
theorem gX3_first_X3_fits : GoodIn wsX3_first (wsV RX3 71 RX3 yX3_fits wsX3_fits) := goodIn_app (goodIn_of _ (by decide +kernel)) ggX3_first_X3_fits
set_option maxRecDepth 20000 in
theorem ggX3_first_X3_isAhead : GoodIn wsX3_first wsX3_isAhead := goodIn_r _ [18, 3, 19, 9, 20, 21, 22, 7, 23, 24, 25, 26, 27, 28, 29, 30, 31, 32, 33, 34, 35, 36, 37, 38, 39, 40, 41, 42, 43, 44, 45] (by decide +kernel) (by decide +kernel)
set_option maxRecDepth 20000 in
theorem gX3_first_X3_isAhead : GoodIn wsX3_first (wsV RX3 78 RX3 yX3_isAhead wsX3_isAhead) := goodIn_app (goodIn_of _ (by decide +kernel)) ggX3_first_X3_isAhead
theorem dX3_first_0 : decode cX3_first 0 = .ok (.iconst (-1), 1) := by decide +kernel
theorem dX3_first_1 : decode cX3_first 1 = .ok (.istore_n 2, 1) := by decide +kernel
theorem dX3_first_2 : decode cX3_first 2 = .ok (.iconst 0, 1) := by decide +kernel
theorem dX3_first_3 : decode cX3_first 3 = .ok (.istore_n 3, 1) := by decide +kernel
theorem dX3_first_4 : decode cX3_first 4 = .ok (.iload_n 3, 1) := by decide +kernel
theorem dX3_first_5 : decode cX3_first 5 = .ok (.aload_n 0, 1) := by decide +kernel
theorem dX3_first_6 : decode cX3_first 6 = .ok (.getfield 48, 3) := by decide +kernel
theorem dX3_first_9 : decode cX3_first 9 = .ok (.if_icmp .ge 70, 3) := by decide +kernel
theorem dX3_first_12 : decode cX3_first 12 = .ok (.aload_n 0, 1) := by decide +kernel
theorem dX3_first_13 : decode cX3_first 13 = .ok (.getfield 7, 3) := by decide +kernel
theorem dX3_first_16 : decode cX3_first 16 = .ok (.iload_n 3, 1) := by decide +kernel
theorem dX3_first_17 : decode cX3_first 17 = .ok (.baload, 1) := by decide +kernel
theorem dX3_first_18 : decode cX3_first 18 = .ok (.ifCond .eq 28, 3) := by decide +kernel
theorem dX3_first_21 : decode cX3_first 21 = .ok (.iload_n 1, 1) := by decide +kernel
theorem dX3_first_22 : decode cX3_first 22 = .ok (.ifCond .ne 20, 3) := by decide +kernel
theorem dX3_first_25 : decode cX3_first 25 = .ok (.aload_n 0, 1) := by decide +kernel
theorem dX3_first_26 : decode cX3_first 26 = .ok (.iload_n 3, 1) := by decide +kernel
theorem dX3_first_27 : decode cX3_first 27 = .ok (.invokevirtual 71, 3) := by decide +kernel
theorem dX3_first_30 : decode cX3_first 30 = .ok (.ifCond .eq 16, 3) := by decide +kernel
theorem dX3_first_33 : decode cX3_first 33 = .ok (.aload_n 0, 1) := by decide +kernel
theorem dX3_first_34 : decode cX3_first 34 = .ok (.getfield 26, 3) := by decide +kernel
theorem dX3_first_37 : decode cX3_first 37 = .ok (.iload_n 3, 1) := by decide +kernel
theorem dX3_first_38 : decode cX3_first 38 = .ok (.iaload, 1) := by decide +kernel
theorem dX3_first_39 : decode cX3_first 39 = .ok (.ifCond .eq 7, 3) := by decide +kernel
theorem dX3_first_42 : decode cX3_first 42 = .ok (.iconst 1, 1) := by decide +kernel
theorem dX3_first_43 : decode cX3_first 43 = .ok (.goto 4, 3) := by decide +kernel
theorem dX3_first_46 : decode cX3_first 46 = .ok (.iconst 0, 1) := by decide +kernel
theorem dX3_first_47 : decode cX3_first 47 = .ok (.istore 4, 2) := by decide +kernel
theorem dX3_first_49 : decode cX3_first 49 = .ok (.iload 4, 2) := by decide +kernel
theorem dX3_first_51 : decode cX3_first 51 = .ok (.ifCond .eq 20, 3) := by decide +kernel
theorem dX3_first_54 : decode cX3_first 54 = .ok (.iload_n 2, 1) := by decide +kernel
theorem dX3_first_55 : decode cX3_first 55 = .ok (.ifCond .lt 12, 3) := by decide +kernel
theorem dX3_first_58 : decode cX3_first 58 = .ok (.aload_n 0, 1) := by decide +kernel
theorem dX3_first_59 : decode cX3_first 59 = .ok (.iload_n 3, 1) := by decide +kernel
theorem dX3_first_60 : decode cX3_first 60 = .ok (.iload_n 2, 1) := by decide +kernel
theorem dX3_first_61 : decode cX3_first 61 = .ok (.invokevirtual 78, 3) := by decide +kernel
theorem dX3_first_64 : decode cX3_first 64 = .ok (.ifCond .eq 7, 3) := by decide +kernel
theorem dX3_first_67 : decode cX3_first 67 = .ok (.iload_n 3, 1) := by decide +kernel
theorem dX3_first_68 : decode cX3_first 68 = .ok (.goto 4, 3) := by decide +kernel
theorem dX3_first_71 : decode cX3_first 71 = .ok (.iload_n 2, 1) := by decide +kernel
theorem dX3_first_72 : decode cX3_first 72 = .ok (.istore_n 2, 1) := by decide +kernel
theorem dX3_first_73 : decode cX3_first 73 = .ok (.iinc 3 1, 3) := by decide +kernel
theorem dX3_first_76 : decode cX3_first 76 = .ok (.goto (-72), 3) := by decide +kernel
theorem dX3_first_79 : decode cX3_first 79 = .ok (.iload_n 2, 1) := by decide +kernel
theorem dX3_first_80 : decode cX3_first 80 = .ok (.ireturn, 1) := by decide +kernel
set_option maxRecDepth 20000 in
theorem ggX3_chosen_X3_isThere : GoodIn wsX3_chosen wsX3_isThere := goodIn_r _ [8, 9, 10, 11, 12, 7, 13, 36, 37, 38, 39, 40, 41, 42, 43, 44, 45, 46, 47, 48, 49, 50, 51, 52, 53, 54, 55] (by decide +kernel) (by decide +kernel)
set_option maxRecDepth 20000 in
theorem gX3_chosen_X3_isThere : GoodIn wsX3_chosen (wsV RX3 60 RX3 yX3_isThere wsX3_isThere) := goodIn_app (goodIn_of _ (by decide +kernel)) ggX3_chosen_X3_isThere
set_option maxRecDepth 20000 in
theorem ggX3_chosen_X3_first : GoodIn wsX3_chosen wsX3_first := goodIn_r _ [17, 9, 10, 3, 18, 19, 20, 7, 21, 22, 23, 24, 11, 12, 13, 25, 26, 27, 28, 29, 30, 31, 32, 33, 34, 35, 36, 37, 38, 39, 40, 41, 42, 43, 44, 45, 46, 47, 48, 49, 50, 51, 52, 53, 54, 55] (by decide +kernel) (by decide +kernel)
set_option maxRecDepth 20000 in
theorem gX3_chosen_X3_first : GoodIn wsX3_chosen (wsV RX3 82 RX3 yX3_first wsX3_first) := goodIn_app (goodIn_of _ (by decide +kernel)) ggX3_chosen_X3_first
theorem dX3_chosen_0 : decode cX3_chosen 0 = .ok (.aload_n 0, 1) := by decide +kernel
theorem dX3_chosen_1 : decode cX3_chosen 1 = .ok (.aload_n 0, 1) := by decide +kernel
theorem dX3_chosen_2 : decode cX3_chosen 2 = .ok (.getfield 36, 3) := by decide +kernel
theorem dX3_chosen_5 : decode cX3_chosen 5 = .ok (.invokevirtual 60, 3) := by decide +kernel
theorem dX3_chosen_8 : decode cX3_chosen 8 = .ok (.ifCond .eq 8, 3) := by decide +kernel
theorem dX3_chosen_11 : decode cX3_chosen 11 = .ok (.aload_n 0, 1) := by decide +kernel
theorem dX3_chosen_12 : decode cX3_chosen 12 = .ok (.getfield 36, 3) := by decide +kernel
theorem dX3_chosen_15 : decode cX3_chosen 15 = .ok (.ireturn, 1) := by decide +kernel
theorem dX3_chosen_16 : decode cX3_chosen 16 = .ok (.aload_n 0, 1) := by decide +kernel
theorem dX3_chosen_17 : decode cX3_chosen 17 = .ok (.aload_n 0, 1) := by decide +kernel
theorem dX3_chosen_18 : decode cX3_chosen 18 = .ok (.getfield 32, 3) := by decide +kernel
theorem dX3_chosen_21 : decode cX3_chosen 21 = .ok (.invokevirtual 60, 3) := by decide +kernel
theorem dX3_chosen_24 : decode cX3_chosen 24 = .ok (.ifCond .eq 20, 3) := by decide +kernel
theorem dX3_chosen_27 : decode cX3_chosen 27 = .ok (.aload_n 0, 1) := by decide +kernel
theorem dX3_chosen_28 : decode cX3_chosen 28 = .ok (.getfield 26, 3) := by decide +kernel
theorem dX3_chosen_31 : decode cX3_chosen 31 = .ok (.aload_n 0, 1) := by decide +kernel
theorem dX3_chosen_32 : decode cX3_chosen 32 = .ok (.getfield 32, 3) := by decide +kernel
theorem dX3_chosen_35 : decode cX3_chosen 35 = .ok (.iaload, 1) := by decide +kernel
theorem dX3_chosen_36 : decode cX3_chosen 36 = .ok (.ifCond .eq 8, 3) := by decide +kernel
theorem dX3_chosen_39 : decode cX3_chosen 39 = .ok (.aload_n 0, 1) := by decide +kernel
theorem dX3_chosen_40 : decode cX3_chosen 40 = .ok (.getfield 32, 3) := by decide +kernel
theorem dX3_chosen_43 : decode cX3_chosen 43 = .ok (.ireturn, 1) := by decide +kernel
theorem dX3_chosen_44 : decode cX3_chosen 44 = .ok (.aload_n 0, 1) := by decide +kernel
theorem dX3_chosen_45 : decode cX3_chosen 45 = .ok (.iconst 0, 1) := by decide +kernel
theorem dX3_chosen_46 : decode cX3_chosen 46 = .ok (.invokevirtual 82, 3) := by decide +kernel
theorem dX3_chosen_49 : decode cX3_chosen 49 = .ok (.istore_n 1, 1) := by decide +kernel
theorem dX3_chosen_50 : decode cX3_chosen 50 = .ok (.iload_n 1, 1) := by decide +kernel
theorem dX3_chosen_51 : decode cX3_chosen 51 = .ok (.ifCond .ge 11, 3) := by decide +kernel
theorem dX3_chosen_54 : decode cX3_chosen 54 = .ok (.aload_n 0, 1) := by decide +kernel
theorem dX3_chosen_55 : decode cX3_chosen 55 = .ok (.iconst 1, 1) := by decide +kernel
theorem dX3_chosen_56 : decode cX3_chosen 56 = .ok (.invokevirtual 82, 3) := by decide +kernel
theorem dX3_chosen_59 : decode cX3_chosen 59 = .ok (.goto 4, 3) := by decide +kernel
theorem dX3_chosen_62 : decode cX3_chosen 62 = .ok (.iload_n 1, 1) := by decide +kernel
theorem dX3_chosen_63 : decode cX3_chosen 63 = .ok (.ireturn, 1) := by decide +kernel
theorem dX3_taken_0 : decode cX3_taken 0 = .ok (.iload_n 0, 1) := by decide +kernel
theorem dX3_taken_1 : decode cX3_taken 1 = .ok (.i2l, 1) := by decide +kernel
theorem dX3_taken_2 : decode cX3_taken 2 = .ok (.ldc2_w 86, 3) := by decide +kernel
theorem dX3_taken_5 : decode cX3_taken 5 = .ok (.lmul, 1) := by decide +kernel
theorem dX3_taken_6 : decode cX3_taken 6 = .ok (.iload_n 1, 1) := by decide +kernel
theorem dX3_taken_7 : decode cX3_taken 7 = .ok (.i2l, 1) := by decide +kernel
theorem dX3_taken_8 : decode cX3_taken 8 = .ok (.ladd, 1) := by decide +kernel
theorem dX3_taken_9 : decode cX3_taken 9 = .ok (.ldc2_w 88, 3) := by decide +kernel
theorem dX3_taken_12 : decode cX3_taken 12 = .ok (.ladd, 1) := by decide +kernel
theorem dX3_taken_13 : decode cX3_taken 13 = .ok (.ldc2_w 90, 3) := by decide +kernel
theorem dX3_taken_16 : decode cX3_taken 16 = .ok (.lrem, 1) := by decide +kernel
theorem dX3_taken_17 : decode cX3_taken 17 = .ok (.l2i, 1) := by decide +kernel
theorem dX3_taken_18 : decode cX3_taken 18 = .ok (.ireturn, 1) := by decide +kernel
set_option maxRecDepth 20000 in
theorem ggX3_measured_X3_taken : GoodIn wsX3_measured wsX3_taken := goodIn_r _ [11, 12, 13, 14] (by decide +kernel) (by decide +kernel)
set_option maxRecDepth 20000 in
theorem gX3_measured_X3_taken : GoodIn wsX3_measured (va_wsS RX3 92 yX3_taken wsX3_taken) := goodIn_app (goodIn_of _ (by decide +kernel)) ggX3_measured_X3_taken
theorem dX3_measured_0 : decode cX3_measured 0 = .ok (.iconst 0, 1) := by decide +kernel
theorem dX3_measured_1 : decode cX3_measured 1 = .ok (.aload_n 0, 1) := by decide +kernel
theorem dX3_measured_2 : decode cX3_measured 2 = .ok (.getfield 64, 3) := by decide +kernel
theorem dX3_measured_5 : decode cX3_measured 5 = .ok (.ifCond .eq 7, 3) := by decide +kernel
theorem dX3_measured_8 : decode cX3_measured 8 = .ok (.iconst 1, 1) := by decide +kernel
theorem dX3_measured_9 : decode cX3_measured 9 = .ok (.goto 4, 3) := by decide +kernel
theorem dX3_measured_12 : decode cX3_measured 12 = .ok (.iconst 0, 1) := by decide +kernel
theorem dX3_measured_13 : decode cX3_measured 13 = .ok (.invokestatic 92, 3) := by decide +kernel
theorem dX3_measured_16 : decode cX3_measured 16 = .ok (.istore_n 2, 1) := by decide +kernel
theorem dX3_measured_17 : decode cX3_measured 17 = .ok (.iload_n 2, 1) := by decide +kernel
theorem dX3_measured_18 : decode cX3_measured 18 = .ok (.aload_n 0, 1) := by decide +kernel
theorem dX3_measured_19 : decode cX3_measured 19 = .ok (.getfield 13, 3) := by decide +kernel
theorem dX3_measured_22 : decode cX3_measured 22 = .ok (.iload_n 1, 1) := by decide +kernel
theorem dX3_measured_23 : decode cX3_measured 23 = .ok (.iaload, 1) := by decide +kernel
theorem dX3_measured_24 : decode cX3_measured 24 = .ok (.invokestatic 92, 3) := by decide +kernel
theorem dX3_measured_27 : decode cX3_measured 27 = .ok (.istore_n 2, 1) := by decide +kernel
theorem dX3_measured_28 : decode cX3_measured 28 = .ok (.iload_n 2, 1) := by decide +kernel
theorem dX3_measured_29 : decode cX3_measured 29 = .ok (.aload_n 0, 1) := by decide +kernel
theorem dX3_measured_30 : decode cX3_measured 30 = .ok (.getfield 20, 3) := by decide +kernel
theorem dX3_measured_33 : decode cX3_measured 33 = .ok (.iload_n 1, 1) := by decide +kernel
theorem dX3_measured_34 : decode cX3_measured 34 = .ok (.iaload, 1) := by decide +kernel
theorem dX3_measured_35 : decode cX3_measured 35 = .ok (.ldc 95, 2) := by decide +kernel
theorem dX3_measured_37 : decode cX3_measured 37 = .ok (.idiv, 1) := by decide +kernel
theorem dX3_measured_38 : decode cX3_measured 38 = .ok (.invokestatic 92, 3) := by decide +kernel
theorem dX3_measured_41 : decode cX3_measured 41 = .ok (.istore_n 2, 1) := by decide +kernel
theorem dX3_measured_42 : decode cX3_measured 42 = .ok (.iload_n 2, 1) := by decide +kernel
theorem dX3_measured_43 : decode cX3_measured 43 = .ok (.aload_n 0, 1) := by decide +kernel
theorem dX3_measured_44 : decode cX3_measured 44 = .ok (.getfield 20, 3) := by decide +kernel
theorem dX3_measured_47 : decode cX3_measured 47 = .ok (.iload_n 1, 1) := by decide +kernel
theorem dX3_measured_48 : decode cX3_measured 48 = .ok (.iaload, 1) := by decide +kernel
theorem dX3_measured_49 : decode cX3_measured 49 = .ok (.sipush 1000, 3) := by decide +kernel
theorem dX3_measured_52 : decode cX3_measured 52 = .ok (.idiv, 1) := by decide +kernel
theorem dX3_measured_53 : decode cX3_measured 53 = .ok (.sipush 1000, 3) := by decide +kernel
theorem dX3_measured_56 : decode cX3_measured 56 = .ok (.irem, 1) := by decide +kernel
theorem dX3_measured_57 : decode cX3_measured 57 = .ok (.invokestatic 92, 3) := by decide +kernel
theorem dX3_measured_60 : decode cX3_measured 60 = .ok (.istore_n 2, 1) := by decide +kernel
theorem dX3_measured_61 : decode cX3_measured 61 = .ok (.iload_n 2, 1) := by decide +kernel
theorem dX3_measured_62 : decode cX3_measured 62 = .ok (.aload_n 0, 1) := by decide +kernel
theorem dX3_measured_63 : decode cX3_measured 63 = .ok (.getfield 20, 3) := by decide +kernel
theorem dX3_measured_66 : decode cX3_measured 66 = .ok (.iload_n 1, 1) := by decide +kernel
theorem dX3_measured_67 : decode cX3_measured 67 = .ok (.iaload, 1) := by decide +kernel
theorem dX3_measured_68 : decode cX3_measured 68 = .ok (.sipush 1000, 3) := by decide +kernel
theorem dX3_measured_71 : decode cX3_measured 71 = .ok (.irem, 1) := by decide +kernel
theorem dX3_measured_72 : decode cX3_measured 72 = .ok (.invokestatic 92, 3) := by decide +kernel
theorem dX3_measured_75 : decode cX3_measured 75 = .ok (.istore_n 2, 1) := by decide +kernel
theorem dX3_measured_76 : decode cX3_measured 76 = .ok (.iload_n 2, 1) := by decide +kernel
theorem dX3_measured_77 : decode cX3_measured 77 = .ok (.aload_n 0, 1) := by decide +kernel
theorem dX3_measured_78 : decode cX3_measured 78 = .ok (.getfield 23, 3) := by decide +kernel
theorem dX3_measured_81 : decode cX3_measured 81 = .ok (.iload_n 1, 1) := by decide +kernel
theorem dX3_measured_82 : decode cX3_measured 82 = .ok (.iaload, 1) := by decide +kernel
theorem dX3_measured_83 : decode cX3_measured 83 = .ok (.invokestatic 92, 3) := by decide +kernel
theorem dX3_measured_86 : decode cX3_measured 86 = .ok (.istore_n 2, 1) := by decide +kernel
theorem dX3_measured_87 : decode cX3_measured 87 = .ok (.iload_n 2, 1) := by decide +kernel
theorem dX3_measured_88 : decode cX3_measured 88 = .ok (.aload_n 0, 1) := by decide +kernel
theorem dX3_measured_89 : decode cX3_measured 89 = .ok (.getfield 17, 3) := by decide +kernel
theorem dX3_measured_92 : decode cX3_measured 92 = .ok (.iload_n 1, 1) := by decide +kernel
theorem dX3_measured_93 : decode cX3_measured 93 = .ok (.iaload, 1) := by decide +kernel
theorem dX3_measured_94 : decode cX3_measured 94 = .ok (.invokestatic 92, 3) := by decide +kernel
theorem dX3_measured_97 : decode cX3_measured 97 = .ok (.istore_n 2, 1) := by decide +kernel
theorem dX3_measured_98 : decode cX3_measured 98 = .ok (.iload_n 2, 1) := by decide +kernel
theorem dX3_measured_99 : decode cX3_measured 99 = .ok (.aload_n 0, 1) := by decide +kernel
theorem dX3_measured_100 : decode cX3_measured 100 = .ok (.getfield 29, 3) := by decide +kernel
theorem dX3_measured_103 : decode cX3_measured 103 = .ok (.iload_n 1, 1) := by decide +kernel
theorem dX3_measured_104 : decode cX3_measured 104 = .ok (.iaload, 1) := by decide +kernel
theorem dX3_measured_105 : decode cX3_measured 105 = .ok (.invokestatic 92, 3) := by decide +kernel
theorem dX3_measured_108 : decode cX3_measured 108 = .ok (.ireturn, 1) := by decide +kernel
set_option maxRecDepth 20000 in
theorem ggX3_start_X3_chosen : GoodIn wsX3_start wsX3_chosen := goodIn_r _ [12, 4, 13, 3, 14, 15, 16, 11, 17, 18, 19, 20, 21, 22, 23, 24, 25, 26, 27, 28, 29, 30, 31, 32, 33, 34, 35, 36, 37, 38, 39, 40, 41, 42, 43, 44, 58, 59, 60, 61, 62, 63, 64, 65, 66, 67, 68, 69, 70, 71, 72, 73, 74, 75, 76, 77] (by decide +kernel) (by decide +kernel)
set_option maxRecDepth 20000 in
theorem gX3_start_X3_chosen : GoodIn wsX3_start (wsV RX3 96 RX3 yX3_chosen wsX3_chosen) := goodIn_app (goodIn_of _ (by decide +kernel)) ggX3_start_X3_chosen
set_option maxRecDepth 20000 in
theorem ggX3_start_X3_measured : GoodIn wsX3_start wsX3_measured := goodIn_r _ [48, 49, 38, 43, 50, 44, 31, 51, 52, 53, 11, 54, 55, 56, 57, 58, 59, 60, 61, 62, 63, 64, 65, 66, 67, 68, 69, 70, 71, 72, 73, 74, 75, 76, 77] (by decide +kernel) (by decide +kernel)
set_option maxRecDepth 20000 in
theorem gX3_start_X3_measured : GoodIn wsX3_start (wsV RX3 99 RX3 yX3_measured wsX3_measured) := goodIn_app (goodIn_of _ (by decide +kernel)) ggX3_start_X3_measured
theorem dX3_start_0 : decode cX3_start 0 = .ok (.aload_n 0, 1) := by decide +kernel
theorem dX3_start_1 : decode cX3_start 1 = .ok (.invokevirtual 96, 3) := by decide +kernel
theorem dX3_start_4 : decode cX3_start 4 = .ok (.istore_n 1, 1) := by decide +kernel
theorem dX3_start_5 : decode cX3_start 5 = .ok (.aload_n 0, 1) := by decide +kernel
theorem dX3_start_6 : decode cX3_start 6 = .ok (.iload_n 1, 1) := by decide +kernel
theorem dX3_start_7 : decode cX3_start 7 = .ok (.ifCond .ge 7, 3) := by decide +kernel
theorem dX3_start_10 : decode cX3_start 10 = .ok (.iconst 1, 1) := by decide +kernel
theorem dX3_start_11 : decode cX3_start 11 = .ok (.goto 4, 3) := by decide +kernel
theorem dX3_start_14 : decode cX3_start 14 = .ok (.iconst 0, 1) := by decide +kernel
theorem dX3_start_15 : decode cX3_start 15 = .ok (.putfield 45, 3) := by decide +kernel
theorem dX3_start_18 : decode cX3_start 18 = .ok (.aload_n 0, 1) := by decide +kernel
theorem dX3_start_19 : decode cX3_start 19 = .ok (.getfield 45, 3) := by decide +kernel
theorem dX3_start_22 : decode cX3_start 22 = .ok (.ifCond .le 5, 3) := by decide +kernel
theorem dX3_start_25 : decode cX3_start 25 = .ok (.iconst 0, 1) := by decide +kernel
theorem dX3_start_26 : decode cX3_start 26 = .ok (.ireturn, 1) := by decide +kernel
theorem dX3_start_27 : decode cX3_start 27 = .ok (.aload_n 0, 1) := by decide +kernel
theorem dX3_start_28 : decode cX3_start 28 = .ok (.aload_n 0, 1) := by decide +kernel
theorem dX3_start_29 : decode cX3_start 29 = .ok (.iload_n 1, 1) := by decide +kernel
theorem dX3_start_30 : decode cX3_start 30 = .ok (.invokevirtual 99, 3) := by decide +kernel
theorem dX3_start_33 : decode cX3_start 33 = .ok (.putfield 103, 3) := by decide +kernel
theorem dX3_start_36 : decode cX3_start 36 = .ok (.aload_n 0, 1) := by decide +kernel
theorem dX3_start_37 : decode cX3_start 37 = .ok (.getfield 26, 3) := by decide +kernel
theorem dX3_start_40 : decode cX3_start 40 = .ok (.iload_n 1, 1) := by decide +kernel
theorem dX3_start_41 : decode cX3_start 41 = .ok (.dup2, 1) := by decide +kernel
theorem dX3_start_42 : decode cX3_start 42 = .ok (.iaload, 1) := by decide +kernel
theorem dX3_start_43 : decode cX3_start 43 = .ok (.aload_n 0, 1) := by decide +kernel
theorem dX3_start_44 : decode cX3_start 44 = .ok (.getfield 26, 3) := by decide +kernel
theorem dX3_start_47 : decode cX3_start 47 = .ok (.iload_n 1, 1) := by decide +kernel
theorem dX3_start_48 : decode cX3_start 48 = .ok (.iaload, 1) := by decide +kernel
theorem dX3_start_49 : decode cX3_start 49 = .ok (.ifCond .le 7, 3) := by decide +kernel
theorem dX3_start_52 : decode cX3_start 52 = .ok (.iconst 1, 1) := by decide +kernel
theorem dX3_start_53 : decode cX3_start 53 = .ok (.goto 4, 3) := by decide +kernel
theorem dX3_start_56 : decode cX3_start 56 = .ok (.iconst 0, 1) := by decide +kernel
theorem dX3_start_57 : decode cX3_start 57 = .ok (.isub, 1) := by decide +kernel
theorem dX3_start_58 : decode cX3_start 58 = .ok (.iastore, 1) := by decide +kernel
theorem dX3_start_59 : decode cX3_start 59 = .ok (.aload_n 0, 1) := by decide +kernel
theorem dX3_start_60 : decode cX3_start 60 = .ok (.iconst (-1), 1) := by decide +kernel
theorem dX3_start_61 : decode cX3_start 61 = .ok (.putfield 36, 3) := by decide +kernel
theorem dX3_start_64 : decode cX3_start 64 = .ok (.aload_n 0, 1) := by decide +kernel
theorem dX3_start_65 : decode cX3_start 65 = .ok (.iload_n 1, 1) := by decide +kernel
theorem dX3_start_66 : decode cX3_start 66 = .ok (.putfield 42, 3) := by decide +kernel
theorem dX3_start_69 : decode cX3_start 69 = .ok (.aload_n 0, 1) := by decide +kernel
theorem dX3_start_70 : decode cX3_start 70 = .ok (.iconst 0, 1) := by decide +kernel
theorem dX3_start_71 : decode cX3_start 71 = .ok (.putfield 106, 3) := by decide +kernel
theorem dX3_start_74 : decode cX3_start 74 = .ok (.aload_n 0, 1) := by decide +kernel
theorem dX3_start_75 : decode cX3_start 75 = .ok (.iconst 0, 1) := by decide +kernel
theorem dX3_start_76 : decode cX3_start 76 = .ok (.putfield 109, 3) := by decide +kernel
theorem dX3_start_79 : decode cX3_start 79 = .ok (.iload_n 1, 1) := by decide +kernel
theorem dX3_start_80 : decode cX3_start 80 = .ok (.ireturn, 1) := by decide +kernel
theorem dX3_good_0 : decode cX3_good 0 = .ok (.aload_n 0, 1) := by decide +kernel
theorem dX3_good_1 : decode cX3_good 1 = .ok (.aload_n 0, 1) := by decide +kernel
theorem dX3_good_2 : decode cX3_good 2 = .ok (.getfield 42, 3) := by decide +kernel
theorem dX3_good_5 : decode cX3_good 5 = .ok (.ifCond .ge 7, 3) := by decide +kernel
theorem dX3_good_8 : decode cX3_good 8 = .ok (.iconst 1, 1) := by decide +kernel
theorem dX3_good_9 : decode cX3_good 9 = .ok (.goto 4, 3) := by decide +kernel
theorem dX3_good_12 : decode cX3_good 12 = .ok (.iconst 0, 1) := by decide +kernel
theorem dX3_good_13 : decode cX3_good 13 = .ok (.putfield 45, 3) := by decide +kernel
theorem dX3_good_16 : decode cX3_good 16 = .ok (.aload_n 0, 1) := by decide +kernel
theorem dX3_good_17 : decode cX3_good 17 = .ok (.getfield 45, 3) := by decide +kernel
theorem dX3_good_20 : decode cX3_good 20 = .ok (.ifCond .le 5, 3) := by decide +kernel
theorem dX3_good_23 : decode cX3_good 23 = .ok (.iconst 0, 1) := by decide +kernel
theorem dX3_good_24 : decode cX3_good 24 = .ok (.ireturn, 1) := by decide +kernel
theorem dX3_good_25 : decode cX3_good 25 = .ok (.aload_n 0, 1) := by decide +kernel
theorem dX3_good_26 : decode cX3_good 26 = .ok (.getfield 7, 3) := by decide +kernel
theorem dX3_good_29 : decode cX3_good 29 = .ok (.aload_n 0, 1) := by decide +kernel
theorem dX3_good_30 : decode cX3_good 30 = .ok (.getfield 42, 3) := by decide +kernel
theorem dX3_good_33 : decode cX3_good 33 = .ok (.baload, 1) := by decide +kernel
theorem dX3_good_34 : decode cX3_good 34 = .ok (.ifCond .ne 5, 3) := by decide +kernel
theorem dX3_good_37 : decode cX3_good 37 = .ok (.iconst (-1), 1) := by decide +kernel
theorem dX3_good_38 : decode cX3_good 38 = .ok (.ireturn, 1) := by decide +kernel
theorem dX3_good_39 : decode cX3_good 39 = .ok (.aload_n 0, 1) := by decide +kernel
theorem dX3_good_40 : decode cX3_good 40 = .ok (.getfield 26, 3) := by decide +kernel
theorem dX3_good_43 : decode cX3_good 43 = .ok (.aload_n 0, 1) := by decide +kernel
theorem dX3_good_44 : decode cX3_good 44 = .ok (.getfield 42, 3) := by decide +kernel
theorem dX3_good_47 : decode cX3_good 47 = .ok (.iaload, 1) := by decide +kernel
theorem dX3_good_48 : decode cX3_good 48 = .ok (.istore_n 1, 1) := by decide +kernel
theorem dX3_good_49 : decode cX3_good 49 = .ok (.aload_n 0, 1) := by decide +kernel
theorem dX3_good_50 : decode cX3_good 50 = .ok (.getfield 26, 3) := by decide +kernel
theorem dX3_good_53 : decode cX3_good 53 = .ok (.aload_n 0, 1) := by decide +kernel
theorem dX3_good_54 : decode cX3_good 54 = .ok (.getfield 42, 3) := by decide +kernel
theorem dX3_good_57 : decode cX3_good 57 = .ok (.iconst (-1), 1) := by decide +kernel
theorem dX3_good_58 : decode cX3_good 58 = .ok (.iastore, 1) := by decide +kernel
theorem dX3_good_59 : decode cX3_good 59 = .ok (.iload_n 1, 1) := by decide +kernel
theorem dX3_good_60 : decode cX3_good 60 = .ok (.ireturn, 1) := by decide +kernel
theorem dX3_running_0 : decode cX3_running 0 = .ok (.aload_n 0, 1) := by decide +kernel
theorem dX3_running_1 : decode cX3_running 1 = .ok (.iconst 0, 1) := by decide +kernel
theorem dX3_running_2 : decode cX3_running 2 = .ok (.putfield 45, 3) := by decide +kernel
theorem dX3_running_5 : decode cX3_running 5 = .ok (.aload_n 0, 1) := by decide +kernel
theorem dX3_running_6 : decode cX3_running 6 = .ok (.getfield 42, 3) := by decide +kernel
theorem dX3_running_9 : decode cX3_running 9 = .ok (.ireturn, 1) := by decide +kernel
set_option maxRecDepth 20000 in
theorem ggX3_next_X3_chosen : GoodIn wsX3_next wsX3_chosen := goodIn_r _ [6, 7, 8, 9, 10, 11, 12, 5, 13, 14, 15, 16, 17, 18, 19, 20, 21, 22, 23, 24, 25, 26, 27, 28, 29, 30, 31, 32, 33, 34, 35, 36, 37, 38, 39, 40, 41, 42, 43, 44, 45, 46, 47, 48, 49, 50, 51, 52, 53, 54, 55, 56, 57, 58, 59, 60] (by decide +kernel) (by decide +kernel)
set_option maxRecDepth 20000 in
theorem gX3_next_X3_chosen : GoodIn wsX3_next (wsV RX3 96 RX3 yX3_chosen wsX3_chosen) := goodIn_app (goodIn_of _ (by decide +kernel)) ggX3_next_X3_chosen
theorem dX3_next_0 : decode cX3_next 0 = .ok (.aload_n 0, 1) := by decide +kernel
theorem dX3_next_1 : decode cX3_next 1 = .ok (.iconst 0, 1) := by decide +kernel
theorem dX3_next_2 : decode cX3_next 2 = .ok (.putfield 45, 3) := by decide +kernel
theorem dX3_next_5 : decode cX3_next 5 = .ok (.aload_n 0, 1) := by decide +kernel
theorem dX3_next_6 : decode cX3_next 6 = .ok (.invokevirtual 96, 3) := by decide +kernel
theorem dX3_next_9 : decode cX3_next 9 = .ok (.ireturn, 1) := by decide +kernel
theorem dX3_ten_0 : decode cX3_ten 0 = .ok (.iconst 1, 1) := by decide +kernel
theorem dX3_ten_1 : decode cX3_ten 1 = .ok (.istore_n 1, 1) := by decide +kernel
theorem dX3_ten_2 : decode cX3_ten 2 = .ok (.iconst 0, 1) := by decide +kernel
theorem dX3_ten_3 : decode cX3_ten 3 = .ok (.istore_n 2, 1) := by decide +kernel
theorem dX3_ten_4 : decode cX3_ten 4 = .ok (.iload_n 2, 1) := by decide +kernel
theorem dX3_ten_5 : decode cX3_ten 5 = .ok (.iload_n 0, 1) := by decide +kernel
theorem dX3_ten_6 : decode cX3_ten 6 = .ok (.if_icmp .ge 14, 3) := by decide +kernel
theorem dX3_ten_9 : decode cX3_ten 9 = .ok (.iload_n 1, 1) := by decide +kernel
theorem dX3_ten_10 : decode cX3_ten 10 = .ok (.bipush 10, 2) := by decide +kernel
theorem dX3_ten_12 : decode cX3_ten 12 = .ok (.imul, 1) := by decide +kernel
theorem dX3_ten_13 : decode cX3_ten 13 = .ok (.istore_n 1, 1) := by decide +kernel
theorem dX3_ten_14 : decode cX3_ten 14 = .ok (.iinc 2 1, 3) := by decide +kernel
theorem dX3_ten_17 : decode cX3_ten 17 = .ok (.goto (-13), 3) := by decide +kernel
theorem dX3_ten_20 : decode cX3_ten 20 = .ok (.iload_n 1, 1) := by decide +kernel
theorem dX3_ten_21 : decode cX3_ten 21 = .ok (.ireturn, 1) := by decide +kernel
set_option maxRecDepth 20000 in
theorem ggX3_lock_X3_isIn : GoodIn wsX3_lock wsX3_isIn := goodIn_r _ [10] (by decide +kernel) (by decide +kernel)
set_option maxRecDepth 20000 in
theorem gX3_lock_X3_isIn : GoodIn wsX3_lock (va_wsS RX3 51 yX3_isIn wsX3_isIn) := goodIn_app (goodIn_of _ (by decide +kernel)) ggX3_lock_X3_isIn
set_option maxRecDepth 20000 in
theorem ggX3_lock_X3_ten : GoodIn wsX3_lock wsX3_ten := goodIn_r _ [13] (by decide +kernel) (by decide +kernel)
set_option maxRecDepth 20000 in
theorem gX3_lock_X3_ten : GoodIn wsX3_lock (va_wsS RX3 112 yX3_ten wsX3_ten) := goodIn_app (goodIn_of _ (by decide +kernel)) ggX3_lock_X3_ten
theorem dX3_lock_0 : decode cX3_lock 0 = .ok (.aload_n 0, 1) := by decide +kernel
theorem dX3_lock_1 : decode cX3_lock 1 = .ok (.iload_n 2, 1) := by decide +kernel
theorem dX3_lock_2 : decode cX3_lock 2 = .ok (.iconst 1, 1) := by decide +kernel
theorem dX3_lock_3 : decode cX3_lock 3 = .ok (.bipush 6, 2) := by decide +kernel
theorem dX3_lock_5 : decode cX3_lock 5 = .ok (.invokestatic 51, 3) := by decide +kernel
theorem dX3_lock_8 : decode cX3_lock 8 = .ok (.ifCond .ne 7, 3) := by decide +kernel
theorem dX3_lock_11 : decode cX3_lock 11 = .ok (.iconst 1, 1) := by decide +kernel
theorem dX3_lock_12 : decode cX3_lock 12 = .ok (.goto 31, 3) := by decide +kernel
theorem dX3_lock_15 : decode cX3_lock 15 = .ok (.iload_n 1, 1) := by decide +kernel
theorem dX3_lock_16 : decode cX3_lock 16 = .ok (.ifCond .lt 11, 3) := by decide +kernel
theorem dX3_lock_19 : decode cX3_lock 19 = .ok (.iload_n 1, 1) := by decide +kernel
theorem dX3_lock_20 : decode cX3_lock 20 = .ok (.iload_n 2, 1) := by decide +kernel
theorem dX3_lock_21 : decode cX3_lock 21 = .ok (.invokestatic 112, 3) := by decide +kernel
theorem dX3_lock_24 : decode cX3_lock 24 = .ok (.if_icmp .lt 7, 3) := by decide +kernel
theorem dX3_lock_27 : decode cX3_lock 27 = .ok (.iconst 1, 1) := by decide +kernel
theorem dX3_lock_28 : decode cX3_lock 28 = .ok (.goto 15, 3) := by decide +kernel
theorem dX3_lock_31 : decode cX3_lock 31 = .ok (.aload_n 0, 1) := by decide +kernel
theorem dX3_lock_32 : decode cX3_lock 32 = .ok (.getfield 64, 3) := by decide +kernel
theorem dX3_lock_35 : decode cX3_lock 35 = .ok (.ifCond .eq 7, 3) := by decide +kernel
theorem dX3_lock_38 : decode cX3_lock 38 = .ok (.iconst 2, 1) := by decide +kernel
theorem dX3_lock_39 : decode cX3_lock 39 = .ok (.goto 4, 3) := by decide +kernel
theorem dX3_lock_42 : decode cX3_lock 42 = .ok (.iconst 0, 1) := by decide +kernel
theorem dX3_lock_43 : decode cX3_lock 43 = .ok (.putfield 45, 3) := by decide +kernel
theorem dX3_lock_46 : decode cX3_lock 46 = .ok (.aload_n 0, 1) := by decide +kernel
theorem dX3_lock_47 : decode cX3_lock 47 = .ok (.getfield 45, 3) := by decide +kernel
theorem dX3_lock_50 : decode cX3_lock 50 = .ok (.ifCond .le 4, 3) := by decide +kernel
theorem dX3_lock_53 : decode cX3_lock 53 = .ok (.return_, 1) := by decide +kernel
theorem dX3_lock_54 : decode cX3_lock 54 = .ok (.aload_n 0, 1) := by decide +kernel
theorem dX3_lock_55 : decode cX3_lock 55 = .ok (.iload_n 1, 1) := by decide +kernel
theorem dX3_lock_56 : decode cX3_lock 56 = .ok (.putfield 115, 3) := by decide +kernel
theorem dX3_lock_59 : decode cX3_lock 59 = .ok (.aload_n 0, 1) := by decide +kernel
theorem dX3_lock_60 : decode cX3_lock 60 = .ok (.iload_n 2, 1) := by decide +kernel
theorem dX3_lock_61 : decode cX3_lock 61 = .ok (.putfield 118, 3) := by decide +kernel
theorem dX3_lock_64 : decode cX3_lock 64 = .ok (.aload_n 0, 1) := by decide +kernel
theorem dX3_lock_65 : decode cX3_lock 65 = .ok (.iconst 1, 1) := by decide +kernel
theorem dX3_lock_66 : decode cX3_lock 66 = .ok (.putfield 64, 3) := by decide +kernel
theorem dX3_lock_69 : decode cX3_lock 69 = .ok (.aload_n 0, 1) := by decide +kernel
theorem dX3_lock_70 : decode cX3_lock 70 = .ok (.iconst 0, 1) := by decide +kernel
theorem dX3_lock_71 : decode cX3_lock 71 = .ok (.putfield 106, 3) := by decide +kernel
theorem dX3_lock_74 : decode cX3_lock 74 = .ok (.aload_n 0, 1) := by decide +kernel
theorem dX3_lock_75 : decode cX3_lock 75 = .ok (.iconst 0, 1) := by decide +kernel
theorem dX3_lock_76 : decode cX3_lock 76 = .ok (.putfield 109, 3) := by decide +kernel
theorem dX3_lock_79 : decode cX3_lock 79 = .ok (.return_, 1) := by decide +kernel
set_option maxRecDepth 20000 in
theorem ggX3_enter_X3_isIn : GoodIn wsX3_enter wsX3_isIn := goodIn_r _ [11] (by decide +kernel) (by decide +kernel)
set_option maxRecDepth 20000 in
theorem gX3_enter_X3_isIn : GoodIn wsX3_enter (va_wsS RX3 51 yX3_isIn wsX3_isIn) := goodIn_app (goodIn_of _ (by decide +kernel)) ggX3_enter_X3_isIn
set_option maxRecDepth 20000 in
theorem ggX3_enter_X3_ten : GoodIn wsX3_enter wsX3_ten := goodIn_r _ [14] (by decide +kernel) (by decide +kernel)
set_option maxRecDepth 20000 in
theorem gX3_enter_X3_ten : GoodIn wsX3_enter (va_wsS RX3 112 yX3_ten wsX3_ten) := goodIn_app (goodIn_of _ (by decide +kernel)) ggX3_enter_X3_ten
theorem dX3_enter_0 : decode cX3_enter 0 = .ok (.aload_n 0, 1) := by decide +kernel
theorem dX3_enter_1 : decode cX3_enter 1 = .ok (.iload_n 1, 1) := by decide +kernel
theorem dX3_enter_2 : decode cX3_enter 2 = .ok (.iconst 0, 1) := by decide +kernel
theorem dX3_enter_3 : decode cX3_enter 3 = .ok (.bipush 9, 2) := by decide +kernel
theorem dX3_enter_5 : decode cX3_enter 5 = .ok (.invokestatic 51, 3) := by decide +kernel
theorem dX3_enter_8 : decode cX3_enter 8 = .ok (.ifCond .ne 7, 3) := by decide +kernel
theorem dX3_enter_11 : decode cX3_enter 11 = .ok (.iconst 1, 1) := by decide +kernel
theorem dX3_enter_12 : decode cX3_enter 12 = .ok (.goto 24, 3) := by decide +kernel
theorem dX3_enter_15 : decode cX3_enter 15 = .ok (.aload_n 0, 1) := by decide +kernel
theorem dX3_enter_16 : decode cX3_enter 16 = .ok (.getfield 64, 3) := by decide +kernel
theorem dX3_enter_19 : decode cX3_enter 19 = .ok (.ifCond .eq 12, 3) := by decide +kernel
theorem dX3_enter_22 : decode cX3_enter 22 = .ok (.aload_n 0, 1) := by decide +kernel
theorem dX3_enter_23 : decode cX3_enter 23 = .ok (.getfield 106, 3) := by decide +kernel
theorem dX3_enter_26 : decode cX3_enter 26 = .ok (.bipush 12, 2) := by decide +kernel
theorem dX3_enter_28 : decode cX3_enter 28 = .ok (.if_icmp .ne 7, 3) := by decide +kernel
theorem dX3_enter_31 : decode cX3_enter 31 = .ok (.iconst 2, 1) := by decide +kernel
theorem dX3_enter_32 : decode cX3_enter 32 = .ok (.goto 4, 3) := by decide +kernel
theorem dX3_enter_35 : decode cX3_enter 35 = .ok (.iconst 0, 1) := by decide +kernel
theorem dX3_enter_36 : decode cX3_enter 36 = .ok (.putfield 45, 3) := by decide +kernel
theorem dX3_enter_39 : decode cX3_enter 39 = .ok (.aload_n 0, 1) := by decide +kernel
theorem dX3_enter_40 : decode cX3_enter 40 = .ok (.getfield 45, 3) := by decide +kernel
theorem dX3_enter_43 : decode cX3_enter 43 = .ok (.ifCond .le 5, 3) := by decide +kernel
theorem dX3_enter_46 : decode cX3_enter 46 = .ok (.iconst 0, 1) := by decide +kernel
theorem dX3_enter_47 : decode cX3_enter 47 = .ok (.ireturn, 1) := by decide +kernel
theorem dX3_enter_48 : decode cX3_enter 48 = .ok (.aload_n 0, 1) := by decide +kernel
theorem dX3_enter_49 : decode cX3_enter 49 = .ok (.dup, 1) := by decide +kernel
theorem dX3_enter_50 : decode cX3_enter 50 = .ok (.getfield 106, 3) := by decide +kernel
theorem dX3_enter_53 : decode cX3_enter 53 = .ok (.iconst 1, 1) := by decide +kernel
theorem dX3_enter_54 : decode cX3_enter 54 = .ok (.iadd, 1) := by decide +kernel
theorem dX3_enter_55 : decode cX3_enter 55 = .ok (.putfield 106, 3) := by decide +kernel
theorem dX3_enter_58 : decode cX3_enter 58 = .ok (.aload_n 0, 1) := by decide +kernel
theorem dX3_enter_59 : decode cX3_enter 59 = .ok (.bipush 10, 2) := by decide +kernel
theorem dX3_enter_61 : decode cX3_enter 61 = .ok (.aload_n 0, 1) := by decide +kernel
theorem dX3_enter_62 : decode cX3_enter 62 = .ok (.getfield 109, 3) := by decide +kernel
theorem dX3_enter_65 : decode cX3_enter 65 = .ok (.imul, 1) := by decide +kernel
theorem dX3_enter_66 : decode cX3_enter 66 = .ok (.iload_n 1, 1) := by decide +kernel
theorem dX3_enter_67 : decode cX3_enter 67 = .ok (.iadd, 1) := by decide +kernel
theorem dX3_enter_68 : decode cX3_enter 68 = .ok (.ldc 95, 2) := by decide +kernel
theorem dX3_enter_70 : decode cX3_enter 70 = .ok (.irem, 1) := by decide +kernel
theorem dX3_enter_71 : decode cX3_enter 71 = .ok (.putfield 109, 3) := by decide +kernel
theorem dX3_enter_74 : decode cX3_enter 74 = .ok (.aload_n 0, 1) := by decide +kernel
theorem dX3_enter_75 : decode cX3_enter 75 = .ok (.getfield 106, 3) := by decide +kernel
theorem dX3_enter_78 : decode cX3_enter 78 = .ok (.aload_n 0, 1) := by decide +kernel
theorem dX3_enter_79 : decode cX3_enter 79 = .ok (.getfield 118, 3) := by decide +kernel
theorem dX3_enter_82 : decode cX3_enter 82 = .ok (.if_icmp .lt 26, 3) := by decide +kernel
theorem dX3_enter_85 : decode cX3_enter 85 = .ok (.aload_n 0, 1) := by decide +kernel
theorem dX3_enter_86 : decode cX3_enter 86 = .ok (.getfield 109, 3) := by decide +kernel
theorem dX3_enter_89 : decode cX3_enter 89 = .ok (.aload_n 0, 1) := by decide +kernel
theorem dX3_enter_90 : decode cX3_enter 90 = .ok (.getfield 118, 3) := by decide +kernel
theorem dX3_enter_93 : decode cX3_enter 93 = .ok (.invokestatic 112, 3) := by decide +kernel
theorem dX3_enter_96 : decode cX3_enter 96 = .ok (.irem, 1) := by decide +kernel
theorem dX3_enter_97 : decode cX3_enter 97 = .ok (.aload_n 0, 1) := by decide +kernel
theorem dX3_enter_98 : decode cX3_enter 98 = .ok (.getfield 115, 3) := by decide +kernel
theorem dX3_enter_101 : decode cX3_enter 101 = .ok (.if_icmp .ne 7, 3) := by decide +kernel
theorem dX3_enter_104 : decode cX3_enter 104 = .ok (.iconst 1, 1) := by decide +kernel
theorem dX3_enter_105 : decode cX3_enter 105 = .ok (.goto 4, 3) := by decide +kernel
theorem dX3_enter_108 : decode cX3_enter 108 = .ok (.iconst 0, 1) := by decide +kernel
theorem dX3_enter_109 : decode cX3_enter 109 = .ok (.istore_n 2, 1) := by decide +kernel
theorem dX3_enter_110 : decode cX3_enter 110 = .ok (.aload_n 0, 1) := by decide +kernel
theorem dX3_enter_111 : decode cX3_enter 111 = .ok (.iload_n 2, 1) := by decide +kernel
theorem dX3_enter_112 : decode cX3_enter 112 = .ok (.ifCond .ne 7, 3) := by decide +kernel
theorem dX3_enter_115 : decode cX3_enter 115 = .ok (.iconst 1, 1) := by decide +kernel
theorem dX3_enter_116 : decode cX3_enter 116 = .ok (.goto 4, 3) := by decide +kernel
theorem dX3_enter_119 : decode cX3_enter 119 = .ok (.iconst 0, 1) := by decide +kernel
theorem dX3_enter_120 : decode cX3_enter 120 = .ok (.putfield 64, 3) := by decide +kernel
theorem dX3_enter_123 : decode cX3_enter 123 = .ok (.iload_n 2, 1) := by decide +kernel
theorem dX3_enter_124 : decode cX3_enter 124 = .ok (.ireturn, 1) := by decide +kernel
theorem dX3_isLocked_0 : decode cX3_isLocked 0 = .ok (.aload_n 0, 1) := by decide +kernel
theorem dX3_isLocked_1 : decode cX3_isLocked 1 = .ok (.iconst 0, 1) := by decide +kernel
theorem dX3_isLocked_2 : decode cX3_isLocked 2 = .ok (.putfield 45, 3) := by decide +kernel
theorem dX3_isLocked_5 : decode cX3_isLocked 5 = .ok (.aload_n 0, 1) := by decide +kernel
theorem dX3_isLocked_6 : decode cX3_isLocked 6 = .ok (.getfield 64, 3) := by decide +kernel
theorem dX3_isLocked_9 : decode cX3_isLocked 9 = .ok (.ireturn, 1) := by decide +kernel
set_option maxRecDepth 20000 in
theorem ggX3_entries_X3_count : GoodIn wsX3_entries wsX3_count := goodIn_r _ [6, 7, 8, 9, 10, 11, 12, 13, 14, 15, 16, 17, 18, 19, 20, 21, 22, 23, 24, 25, 26, 27, 28] (by decide +kernel) (by decide +kernel)
set_option maxRecDepth 20000 in
theorem gX3_entries_X3_count : GoodIn wsX3_entries (wsV RX3 56 RX3 yX3_count wsX3_count) := goodIn_app (goodIn_of _ (by decide +kernel)) ggX3_entries_X3_count
theorem dX3_entries_0 : decode cX3_entries 0 = .ok (.aload_n 0, 1) := by decide +kernel
theorem dX3_entries_1 : decode cX3_entries 1 = .ok (.iconst 0, 1) := by decide +kernel
theorem dX3_entries_2 : decode cX3_entries 2 = .ok (.putfield 45, 3) := by decide +kernel
theorem dX3_entries_5 : decode cX3_entries 5 = .ok (.aload_n 0, 1) := by decide +kernel
theorem dX3_entries_6 : decode cX3_entries 6 = .ok (.invokevirtual 56, 3) := by decide +kernel
theorem dX3_entries_9 : decode cX3_entries 9 = .ok (.ireturn, 1) := by decide +kernel
set_option maxRecDepth 20000 in
theorem ggX3_at_X3_place : GoodIn wsX3_at wsX3_place := goodIn_r _ [8, 1, 2, 9, 10, 11, 7, 12, 13, 14, 15, 16, 17, 18, 19, 20, 21, 22, 23, 24, 25, 26, 27, 28, 29, 30, 31, 32, 33, 34, 35, 36, 37, 38, 39, 40, 41] (by decide +kernel) (by decide +kernel)
set_option maxRecDepth 20000 in
theorem gX3_at_X3_place : GoodIn wsX3_at (wsV RX3 121 RX3 yX3_place wsX3_place) := goodIn_app (goodIn_of _ (by decide +kernel)) ggX3_at_X3_place
theorem dX3_at_0 : decode cX3_at 0 = .ok (.iconst (-1), 1) := by decide +kernel
theorem dX3_at_1 : decode cX3_at 1 = .ok (.istore_n 2, 1) := by decide +kernel
theorem dX3_at_2 : decode cX3_at 2 = .ok (.iconst 0, 1) := by decide +kernel
theorem dX3_at_3 : decode cX3_at 3 = .ok (.istore_n 3, 1) := by decide +kernel
theorem dX3_at_4 : decode cX3_at 4 = .ok (.iload_n 3, 1) := by decide +kernel
theorem dX3_at_5 : decode cX3_at 5 = .ok (.aload_n 0, 1) := by decide +kernel
theorem dX3_at_6 : decode cX3_at 6 = .ok (.getfield 48, 3) := by decide +kernel
theorem dX3_at_9 : decode cX3_at 9 = .ok (.if_icmp .ge 33, 3) := by decide +kernel
theorem dX3_at_12 : decode cX3_at 12 = .ok (.aload_n 0, 1) := by decide +kernel
theorem dX3_at_13 : decode cX3_at 13 = .ok (.getfield 7, 3) := by decide +kernel
theorem dX3_at_16 : decode cX3_at 16 = .ok (.iload_n 3, 1) := by decide +kernel
theorem dX3_at_17 : decode cX3_at 17 = .ok (.baload, 1) := by decide +kernel
theorem dX3_at_18 : decode cX3_at 18 = .ok (.ifCond .eq 16, 3) := by decide +kernel
theorem dX3_at_21 : decode cX3_at 21 = .ok (.aload_n 0, 1) := by decide +kernel
theorem dX3_at_22 : decode cX3_at 22 = .ok (.iload_n 3, 1) := by decide +kernel
theorem dX3_at_23 : decode cX3_at 23 = .ok (.invokevirtual 121, 3) := by decide +kernel
theorem dX3_at_26 : decode cX3_at 26 = .ok (.iload_n 1, 1) := by decide +kernel
theorem dX3_at_27 : decode cX3_at 27 = .ok (.if_icmp .ne 7, 3) := by decide +kernel
theorem dX3_at_30 : decode cX3_at 30 = .ok (.iload_n 3, 1) := by decide +kernel
theorem dX3_at_31 : decode cX3_at 31 = .ok (.goto 4, 3) := by decide +kernel
theorem dX3_at_34 : decode cX3_at 34 = .ok (.iload_n 2, 1) := by decide +kernel
theorem dX3_at_35 : decode cX3_at 35 = .ok (.istore_n 2, 1) := by decide +kernel
theorem dX3_at_36 : decode cX3_at 36 = .ok (.iinc 3 1, 3) := by decide +kernel
theorem dX3_at_39 : decode cX3_at 39 = .ok (.goto (-35), 3) := by decide +kernel
theorem dX3_at_42 : decode cX3_at 42 = .ok (.aload_n 0, 1) := by decide +kernel
theorem dX3_at_43 : decode cX3_at 43 = .ok (.iload_n 2, 1) := by decide +kernel
theorem dX3_at_44 : decode cX3_at 44 = .ok (.ifCond .ge 7, 3) := by decide +kernel
theorem dX3_at_47 : decode cX3_at 47 = .ok (.iconst 1, 1) := by decide +kernel
theorem dX3_at_48 : decode cX3_at 48 = .ok (.goto 4, 3) := by decide +kernel
theorem dX3_at_51 : decode cX3_at 51 = .ok (.iconst 0, 1) := by decide +kernel
theorem dX3_at_52 : decode cX3_at 52 = .ok (.putfield 45, 3) := by decide +kernel
theorem dX3_at_55 : decode cX3_at 55 = .ok (.aload_n 0, 1) := by decide +kernel
theorem dX3_at_56 : decode cX3_at 56 = .ok (.getfield 45, 3) := by decide +kernel
theorem dX3_at_59 : decode cX3_at 59 = .ok (.ifCond .le 7, 3) := by decide +kernel
theorem dX3_at_62 : decode cX3_at 62 = .ok (.iconst 0, 1) := by decide +kernel
theorem dX3_at_63 : decode cX3_at 63 = .ok (.goto 4, 3) := by decide +kernel
theorem dX3_at_66 : decode cX3_at 66 = .ok (.iload_n 2, 1) := by decide +kernel
theorem dX3_at_67 : decode cX3_at 67 = .ok (.ireturn, 1) := by decide +kernel
set_option maxRecDepth 20000 in
theorem ggX3_asks_X3_isThere : GoodIn wsX3_asks wsX3_isThere := goodIn_r _ [6, 7, 8, 9, 10, 5, 11, 12, 13, 14, 15, 16, 17, 18, 19, 20, 21, 22, 23, 24, 25, 26, 27, 28, 29, 30, 31] (by decide +kernel) (by decide +kernel)
set_option maxRecDepth 20000 in
theorem gX3_asks_X3_isThere : GoodIn wsX3_asks (wsV RX3 60 RX3 yX3_isThere wsX3_isThere) := goodIn_app (goodIn_of _ (by decide +kernel)) ggX3_asks_X3_isThere
theorem dX3_asks_0 : decode cX3_asks 0 = .ok (.aload_n 0, 1) := by decide +kernel
theorem dX3_asks_1 : decode cX3_asks 1 = .ok (.aload_n 0, 1) := by decide +kernel
theorem dX3_asks_2 : decode cX3_asks 2 = .ok (.iload_n 1, 1) := by decide +kernel
theorem dX3_asks_3 : decode cX3_asks 3 = .ok (.invokevirtual 60, 3) := by decide +kernel
theorem dX3_asks_6 : decode cX3_asks 6 = .ok (.ifCond .eq 7, 3) := by decide +kernel
theorem dX3_asks_9 : decode cX3_asks 9 = .ok (.iconst 0, 1) := by decide +kernel
theorem dX3_asks_10 : decode cX3_asks 10 = .ok (.goto 4, 3) := by decide +kernel
theorem dX3_asks_13 : decode cX3_asks 13 = .ok (.iconst 1, 1) := by decide +kernel
theorem dX3_asks_14 : decode cX3_asks 14 = .ok (.putfield 45, 3) := by decide +kernel
theorem dX3_asks_17 : decode cX3_asks 17 = .ok (.aload_n 0, 1) := by decide +kernel
theorem dX3_asks_18 : decode cX3_asks 18 = .ok (.getfield 45, 3) := by decide +kernel
theorem dX3_asks_21 : decode cX3_asks 21 = .ok (.ifCond .ne 7, 3) := by decide +kernel
theorem dX3_asks_24 : decode cX3_asks 24 = .ok (.iconst 1, 1) := by decide +kernel
theorem dX3_asks_25 : decode cX3_asks 25 = .ok (.goto 4, 3) := by decide +kernel
theorem dX3_asks_28 : decode cX3_asks 28 = .ok (.iconst 0, 1) := by decide +kernel
theorem dX3_asks_29 : decode cX3_asks 29 = .ok (.ireturn, 1) := by decide +kernel
set_option maxRecDepth 20000 in
theorem ggX3_placeOf_X3_asks : GoodIn wsX3_placeOf wsX3_asks := goodIn_r _ [5, 6, 7, 8, 9, 4, 10, 11, 12, 13, 14, 15, 33, 34, 35, 36, 37, 38, 39, 40, 41, 42, 43, 44, 45, 46, 47, 48, 49, 50, 51, 52] (by decide +kernel) (by decide +kernel)
set_option maxRecDepth 20000 in
theorem gX3_placeOf_X3_asks : GoodIn wsX3_placeOf (wsV RX3 124 RX3 yX3_asks wsX3_asks) := goodIn_app (goodIn_of _ (by decide +kernel)) ggX3_placeOf_X3_asks
set_option maxRecDepth 20000 in
theorem ggX3_placeOf_X3_place : GoodIn wsX3_placeOf wsX3_place := goodIn_r _ [19, 11, 12, 20, 21, 22, 4, 23, 24, 25, 26, 27, 28, 29, 30, 31, 32, 33, 34, 35, 36, 37, 38, 39, 40, 41, 42, 43, 44, 45, 46, 47, 48, 49, 50, 51, 52] (by decide +kernel) (by decide +kernel)
set_option maxRecDepth 20000 in
theorem gX3_placeOf_X3_place : GoodIn wsX3_placeOf (wsV RX3 121 RX3 yX3_place wsX3_place) := goodIn_app (goodIn_of _ (by decide +kernel)) ggX3_placeOf_X3_place
theorem dX3_placeOf_0 : decode cX3_placeOf 0 = .ok (.aload_n 0, 1) := by decide +kernel
theorem dX3_placeOf_1 : decode cX3_placeOf 1 = .ok (.iload_n 1, 1) := by decide +kernel
theorem dX3_placeOf_2 : decode cX3_placeOf 2 = .ok (.invokevirtual 124, 3) := by decide +kernel
theorem dX3_placeOf_5 : decode cX3_placeOf 5 = .ok (.ifCond .eq 11, 3) := by decide +kernel
theorem dX3_placeOf_8 : decode cX3_placeOf 8 = .ok (.aload_n 0, 1) := by decide +kernel
theorem dX3_placeOf_9 : decode cX3_placeOf 9 = .ok (.iload_n 1, 1) := by decide +kernel
theorem dX3_placeOf_10 : decode cX3_placeOf 10 = .ok (.invokevirtual 121, 3) := by decide +kernel
theorem dX3_placeOf_13 : decode cX3_placeOf 13 = .ok (.goto 4, 3) := by decide +kernel
theorem dX3_placeOf_16 : decode cX3_placeOf 16 = .ok (.iconst 0, 1) := by decide +kernel
theorem dX3_placeOf_17 : decode cX3_placeOf 17 = .ok (.ireturn, 1) := by decide +kernel
set_option maxRecDepth 20000 in
theorem ggX3_tries_X3_asks : GoodIn wsX3_tries wsX3_asks := goodIn_r _ [6, 7, 8, 9, 10, 5, 11, 12, 13, 14, 15, 16, 17, 18, 19, 20, 21, 22, 23, 24, 25, 26, 27, 28, 29, 30, 31, 32, 33, 34, 35, 36] (by decide +kernel) (by decide +kernel)
set_option maxRecDepth 20000 in
theorem gX3_tries_X3_asks : GoodIn wsX3_tries (wsV RX3 124 RX3 yX3_asks wsX3_asks) := goodIn_app (goodIn_of _ (by decide +kernel)) ggX3_tries_X3_asks
theorem dX3_tries_0 : decode cX3_tries 0 = .ok (.aload_n 0, 1) := by decide +kernel
theorem dX3_tries_1 : decode cX3_tries 1 = .ok (.iload_n 1, 1) := by decide +kernel
theorem dX3_tries_2 : decode cX3_tries 2 = .ok (.invokevirtual 124, 3) := by decide +kernel
theorem dX3_tries_5 : decode cX3_tries 5 = .ok (.ifCond .eq 12, 3) := by decide +kernel
theorem dX3_tries_8 : decode cX3_tries 8 = .ok (.aload_n 0, 1) := by decide +kernel
theorem dX3_tries_9 : decode cX3_tries 9 = .ok (.getfield 26, 3) := by decide +kernel
theorem dX3_tries_12 : decode cX3_tries 12 = .ok (.iload_n 1, 1) := by decide +kernel
theorem dX3_tries_13 : decode cX3_tries 13 = .ok (.iaload, 1) := by decide +kernel
theorem dX3_tries_14 : decode cX3_tries 14 = .ok (.goto 4, 3) := by decide +kernel
theorem dX3_tries_17 : decode cX3_tries 17 = .ok (.iconst 0, 1) := by decide +kernel
theorem dX3_tries_18 : decode cX3_tries 18 = .ok (.ireturn, 1) := by decide +kernel
set_option maxRecDepth 20000 in
theorem ggX3_compare_X3_isThere : GoodIn wsX3_compare wsX3_isThere := goodIn_r _ [6, 7, 8, 9, 10, 5, 11, 18, 19, 20, 21, 22, 23, 24, 25, 26, 27, 28, 29, 30, 31, 32, 33, 34, 35, 36, 37] (by decide +kernel) (by decide +kernel)
set_option maxRecDepth 20000 in
theorem gX3_compare_X3_isThere : GoodIn wsX3_compare (wsV RX3 60 RX3 yX3_isThere wsX3_isThere) := goodIn_app (goodIn_of _ (by decide +kernel)) ggX3_compare_X3_isThere
set_option maxRecDepth 20000 in
theorem ggX3_compare_X3_compared : GoodIn wsX3_compare wsX3_compared := goodIn_r _ [15, 16, 17, 18, 19, 20, 21, 22, 23, 24, 25, 26, 27, 28, 29, 30, 31, 32, 33, 34, 35, 36, 37] (by decide +kernel) (by decide +kernel)
set_option maxRecDepth 20000 in
theorem gX3_compare_X3_compared : GoodIn wsX3_compare (wsV RX3 74 RX3 yX3_compared wsX3_compared) := goodIn_app (goodIn_of _ (by decide +kernel)) ggX3_compare_X3_compared
theorem dX3_compare_0 : decode cX3_compare 0 = .ok (.aload_n 0, 1) := by decide +kernel
theorem dX3_compare_1 : decode cX3_compare 1 = .ok (.aload_n 0, 1) := by decide +kernel
theorem dX3_compare_2 : decode cX3_compare 2 = .ok (.iload_n 1, 1) := by decide +kernel
theorem dX3_compare_3 : decode cX3_compare 3 = .ok (.invokevirtual 60, 3) := by decide +kernel
theorem dX3_compare_6 : decode cX3_compare 6 = .ok (.ifCond .eq 15, 3) := by decide +kernel
theorem dX3_compare_9 : decode cX3_compare 9 = .ok (.aload_n 0, 1) := by decide +kernel
theorem dX3_compare_10 : decode cX3_compare 10 = .ok (.iload_n 2, 1) := by decide +kernel
theorem dX3_compare_11 : decode cX3_compare 11 = .ok (.invokevirtual 60, 3) := by decide +kernel
theorem dX3_compare_14 : decode cX3_compare 14 = .ok (.ifCond .eq 7, 3) := by decide +kernel
theorem dX3_compare_17 : decode cX3_compare 17 = .ok (.iconst 0, 1) := by decide +kernel
theorem dX3_compare_18 : decode cX3_compare 18 = .ok (.goto 4, 3) := by decide +kernel
theorem dX3_compare_21 : decode cX3_compare 21 = .ok (.iconst 1, 1) := by decide +kernel
theorem dX3_compare_22 : decode cX3_compare 22 = .ok (.putfield 45, 3) := by decide +kernel
theorem dX3_compare_25 : decode cX3_compare 25 = .ok (.aload_n 0, 1) := by decide +kernel
theorem dX3_compare_26 : decode cX3_compare 26 = .ok (.getfield 45, 3) := by decide +kernel
theorem dX3_compare_29 : decode cX3_compare 29 = .ok (.ifCond .le 7, 3) := by decide +kernel
theorem dX3_compare_32 : decode cX3_compare 32 = .ok (.iconst 0, 1) := by decide +kernel
theorem dX3_compare_33 : decode cX3_compare 33 = .ok (.goto 9, 3) := by decide +kernel
theorem dX3_compare_36 : decode cX3_compare 36 = .ok (.aload_n 0, 1) := by decide +kernel
theorem dX3_compare_37 : decode cX3_compare 37 = .ok (.iload_n 1, 1) := by decide +kernel
theorem dX3_compare_38 : decode cX3_compare 38 = .ok (.iload_n 2, 1) := by decide +kernel
theorem dX3_compare_39 : decode cX3_compare 39 = .ok (.invokevirtual 74, 3) := by decide +kernel
theorem dX3_compare_42 : decode cX3_compare 42 = .ok (.ireturn, 1) := by decide +kernel
set_option maxRecDepth 20000 in
theorem ggX3_foretold_X3_asks : GoodIn wsX3_foretold wsX3_asks := goodIn_r _ [5, 6, 7, 8, 9, 4, 10, 11, 12, 13, 14, 15, 33, 34, 35, 36, 37, 38, 39, 40, 41, 42, 43, 44, 45, 46, 47, 48, 49, 50, 51, 52] (by decide +kernel) (by decide +kernel)
set_option maxRecDepth 20000 in
theorem gX3_foretold_X3_asks : GoodIn wsX3_foretold (wsV RX3 124 RX3 yX3_asks wsX3_asks) := goodIn_app (goodIn_of _ (by decide +kernel)) ggX3_foretold_X3_asks
set_option maxRecDepth 20000 in
theorem ggX3_foretold_X3_measured : GoodIn wsX3_foretold wsX3_measured := goodIn_r _ [19, 20, 21, 22, 23, 24, 25, 26, 27, 28, 4, 29, 30, 31, 32, 33, 34, 35, 36, 37, 38, 39, 40, 41, 42, 43, 44, 45, 46, 47, 48, 49, 50, 51, 52] (by decide +kernel) (by decide +kernel)
set_option maxRecDepth 20000 in
theorem gX3_foretold_X3_measured : GoodIn wsX3_foretold (wsV RX3 99 RX3 yX3_measured wsX3_measured) := goodIn_app (goodIn_of _ (by decide +kernel)) ggX3_foretold_X3_measured
theorem dX3_foretold_0 : decode cX3_foretold 0 = .ok (.aload_n 0, 1) := by decide +kernel
theorem dX3_foretold_1 : decode cX3_foretold 1 = .ok (.iload_n 1, 1) := by decide +kernel
theorem dX3_foretold_2 : decode cX3_foretold 2 = .ok (.invokevirtual 124, 3) := by decide +kernel
theorem dX3_foretold_5 : decode cX3_foretold 5 = .ok (.ifCond .eq 11, 3) := by decide +kernel
theorem dX3_foretold_8 : decode cX3_foretold 8 = .ok (.aload_n 0, 1) := by decide +kernel
theorem dX3_foretold_9 : decode cX3_foretold 9 = .ok (.iload_n 1, 1) := by decide +kernel
theorem dX3_foretold_10 : decode cX3_foretold 10 = .ok (.invokevirtual 99, 3) := by decide +kernel
theorem dX3_foretold_13 : decode cX3_foretold 13 = .ok (.goto 4, 3) := by decide +kernel
theorem dX3_foretold_16 : decode cX3_foretold 16 = .ok (.iconst 0, 1) := by decide +kernel
theorem dX3_foretold_17 : decode cX3_foretold 17 = .ok (.ireturn, 1) := by decide +kernel
theorem dX3_register_0 : decode cX3_register 0 = .ok (.aload_n 0, 1) := by decide +kernel
theorem dX3_register_1 : decode cX3_register 1 = .ok (.iconst 0, 1) := by decide +kernel
theorem dX3_register_2 : decode cX3_register 2 = .ok (.putfield 45, 3) := by decide +kernel
theorem dX3_register_5 : decode cX3_register 5 = .ok (.aload_n 0, 1) := by decide +kernel
theorem dX3_register_6 : decode cX3_register 6 = .ok (.getfield 103, 3) := by decide +kernel
theorem dX3_register_9 : decode cX3_register 9 = .ok (.ireturn, 1) := by decide +kernel
theorem dJ6_compare_7cf53_0 : decode cJ6_compare_7cf53 0 = .ok (.iload_n 0, 1) := by decide +kernel
theorem dJ6_compare_7cf53_1 : decode cJ6_compare_7cf53 1 = .ok (.iload_n 1, 1) := by decide +kernel
theorem dJ6_compare_7cf53_2 : decode cJ6_compare_7cf53 2 = .ok (.if_icmp .ge 7, 3) := by decide +kernel
theorem dJ6_compare_7cf53_5 : decode cJ6_compare_7cf53 5 = .ok (.iconst (-1), 1) := by decide +kernel
theorem dJ6_compare_7cf53_6 : decode cJ6_compare_7cf53 6 = .ok (.goto 13, 3) := by decide +kernel
theorem dJ6_compare_7cf53_9 : decode cJ6_compare_7cf53 9 = .ok (.iload_n 0, 1) := by decide +kernel
theorem dJ6_compare_7cf53_10 : decode cJ6_compare_7cf53 10 = .ok (.iload_n 1, 1) := by decide +kernel
theorem dJ6_compare_7cf53_11 : decode cJ6_compare_7cf53 11 = .ok (.if_icmp .ne 7, 3) := by decide +kernel
theorem dJ6_compare_7cf53_14 : decode cJ6_compare_7cf53 14 = .ok (.iconst 0, 1) := by decide +kernel
theorem dJ6_compare_7cf53_15 : decode cJ6_compare_7cf53 15 = .ok (.goto 4, 3) := by decide +kernel
theorem dJ6_compare_7cf53_18 : decode cJ6_compare_7cf53 18 = .ok (.iconst 1, 1) := by decide +kernel
theorem dJ6_compare_7cf53_19 : decode cJ6_compare_7cf53 19 = .ok (.ireturn, 1) := by decide +kernel
set_option maxRecDepth 20000 in
theorem ggL_add_X2_add : GoodIn wsL_add wsX2_add := goodIn_ca (goodIn_ca (goodIn_r _ [7, 8, 9, 10, 11, 12, 13, 14, 15, 6, 16, 17, 18, 19, 20, 21, 22, 23, 24, 25, 26, 27, 28, 29, 30, 31, 32, 33, 34, 35, 36, 37, 38, 39, 40, 41, 42, 43, 44, 45, 46, 47, 48, 49, 50] (by decide +kernel) (by decide +kernel)) (goodIn_sub (fun _ h => List.mem_cons_of_mem _ (List.mem_append_left _ (List.mem_append_right _ h))) (by decide +kernel))) (goodIn_sub (fun _ h => List.mem_cons_of_mem _ (List.mem_append_right _ h)) (by decide +kernel))
set_option maxRecDepth 20000 in
theorem gL_add_X2_add : GoodIn wsL_add (wsV RL 7 RX2 yX2_add wsX2_add) := goodIn_app (goodIn_of _ (by decide +kernel)) ggL_add_X2_add
