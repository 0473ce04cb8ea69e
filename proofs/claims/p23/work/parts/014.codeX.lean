theorem dX0_init_0 : decode cX0_init 0 = .ok (.aload_n 0, 1) := by decide +kernel
theorem dX0_init_1 : decode cX0_init 1 = .ok (.invokespecial 3, 3) := by decide +kernel
theorem dX0_init_4 : decode cX0_init 4 = .ok (.aload_n 0, 1) := by decide +kernel
theorem dX0_init_5 : decode cX0_init 5 = .ok (.bipush 12, 2) := by decide +kernel
theorem dX0_init_7 : decode cX0_init 7 = .ok (.newarray .int, 2) := by decide +kernel
theorem dX0_init_9 : decode cX0_init 9 = .ok (.putfield 9, 3) := by decide +kernel
theorem dX0_init_12 : decode cX0_init 12 = .ok (.aload_n 0, 1) := by decide +kernel
theorem dX0_init_13 : decode cX0_init 13 = .ok (.iconst 0, 1) := by decide +kernel
theorem dX0_init_14 : decode cX0_init 14 = .ok (.putfield 15, 3) := by decide +kernel
theorem dX0_init_17 : decode cX0_init 17 = .ok (.aload_n 0, 1) := by decide +kernel
theorem dX0_init_18 : decode cX0_init 18 = .ok (.iconst 0, 1) := by decide +kernel
theorem dX0_init_19 : decode cX0_init 19 = .ok (.putfield 19, 3) := by decide +kernel
theorem dX0_init_22 : decode cX0_init 22 = .ok (.aload_n 0, 1) := by decide +kernel
theorem dX0_init_23 : decode cX0_init 23 = .ok (.iconst 1, 1) := by decide +kernel
theorem dX0_init_24 : decode cX0_init 24 = .ok (.putfield 23, 3) := by decide +kernel
theorem dX0_init_27 : decode cX0_init 27 = .ok (.aload_n 0, 1) := by decide +kernel
theorem dX0_init_28 : decode cX0_init 28 = .ok (.iconst 0, 1) := by decide +kernel
theorem dX0_init_29 : decode cX0_init 29 = .ok (.putfield 26, 3) := by decide +kernel
theorem dX0_init_32 : decode cX0_init 32 = .ok (.return_, 1) := by decide +kernel
set_option maxRecDepth 20000 in
theorem ggX0_close_X0_forgetDigits : GoodIn wsX0_close wsX0_forgetDigits := goodIn_r _ [8, 9, 10, 11, 12, 13, 14] (by decide +kernel) (by decide +kernel)
set_option maxRecDepth 20000 in
theorem gX0_close_X0_forgetDigits : GoodIn wsX0_close (wsV RX0 29 RX0 yX0_forgetDigits wsX0_forgetDigits) := goodIn_app (goodIn_of _ (by decide +kernel)) ggX0_close_X0_forgetDigits
theorem dX0_close_0 : decode cX0_close 0 = .ok (.aload_n 0, 1) := by decide +kernel
theorem dX0_close_1 : decode cX0_close 1 = .ok (.iconst 1, 1) := by decide +kernel
theorem dX0_close_2 : decode cX0_close 2 = .ok (.putfield 15, 3) := by decide +kernel
theorem dX0_close_5 : decode cX0_close 5 = .ok (.aload_n 0, 1) := by decide +kernel
theorem dX0_close_6 : decode cX0_close 6 = .ok (.iload_n 1, 1) := by decide +kernel
theorem dX0_close_7 : decode cX0_close 7 = .ok (.putfield 19, 3) := by decide +kernel
theorem dX0_close_10 : decode cX0_close 10 = .ok (.aload_n 0, 1) := by decide +kernel
theorem dX0_close_11 : decode cX0_close 11 = .ok (.iload_n 2, 1) := by decide +kernel
theorem dX0_close_12 : decode cX0_close 12 = .ok (.putfield 23, 3) := by decide +kernel
theorem dX0_close_15 : decode cX0_close 15 = .ok (.aload_n 0, 1) := by decide +kernel
theorem dX0_close_16 : decode cX0_close 16 = .ok (.invokevirtual 29, 3) := by decide +kernel
theorem dX0_close_19 : decode cX0_close 19 = .ok (.return_, 1) := by decide +kernel
theorem dX0_forgetDigits_0 : decode cX0_forgetDigits 0 = .ok (.aload_n 0, 1) := by decide +kernel
theorem dX0_forgetDigits_1 : decode cX0_forgetDigits 1 = .ok (.iconst 0, 1) := by decide +kernel
theorem dX0_forgetDigits_2 : decode cX0_forgetDigits 2 = .ok (.putfield 26, 3) := by decide +kernel
theorem dX0_forgetDigits_5 : decode cX0_forgetDigits 5 = .ok (.return_, 1) := by decide +kernel
set_option maxRecDepth 20000 in
theorem ggX0_takeDigit_X0_endsInCode : GoodIn wsX0_takeDigit wsX0_endsInCode := goodIn_r _ [10, 4, 11, 5, 12, 13, 14, 15, 16, 17] (by decide +kernel) (by decide +kernel)
set_option maxRecDepth 20000 in
theorem gX0_takeDigit_X0_endsInCode : GoodIn wsX0_takeDigit (wsV RX0 39 RX0 yX0_endsInCode wsX0_endsInCode) := goodIn_app (goodIn_of _ (by decide +kernel)) ggX0_takeDigit_X0_endsInCode
theorem dX0_takeDigit_0 : decode cX0_takeDigit 0 = .ok (.aload_n 0, 1) := by decide +kernel
theorem dX0_takeDigit_1 : decode cX0_takeDigit 1 = .ok (.getfield 15, 3) := by decide +kernel
theorem dX0_takeDigit_4 : decode cX0_takeDigit 4 = .ok (.ifCond .eq 15, 3) := by decide +kernel
theorem dX0_takeDigit_7 : decode cX0_takeDigit 7 = .ok (.aload_n 0, 1) := by decide +kernel
theorem dX0_takeDigit_8 : decode cX0_takeDigit 8 = .ok (.getfield 26, 3) := by decide +kernel
theorem dX0_takeDigit_11 : decode cX0_takeDigit 11 = .ok (.aload_n 0, 1) := by decide +kernel
theorem dX0_takeDigit_12 : decode cX0_takeDigit 12 = .ok (.getfield 9, 3) := by decide +kernel
theorem dX0_takeDigit_15 : decode cX0_takeDigit 15 = .ok (.arraylength, 1) := by decide +kernel
theorem dX0_takeDigit_16 : decode cX0_takeDigit 16 = .ok (.if_icmp .lt 13, 3) := by decide +kernel
theorem dX0_takeDigit_19 : decode cX0_takeDigit 19 = .ok (.new 32, 3) := by decide +kernel
theorem dX0_takeDigit_22 : decode cX0_takeDigit 22 = .ok (.dup, 1) := by decide +kernel
theorem dX0_takeDigit_23 : decode cX0_takeDigit 23 = .ok (.ldc 34, 2) := by decide +kernel
theorem dX0_takeDigit_25 : decode cX0_takeDigit 25 = .ok (.invokespecial 36, 3) := by decide +kernel
theorem dX0_takeDigit_28 : decode cX0_takeDigit 28 = .ok (.athrow, 1) := by decide +kernel
theorem dX0_takeDigit_29 : decode cX0_takeDigit 29 = .ok (.aload_n 0, 1) := by decide +kernel
theorem dX0_takeDigit_30 : decode cX0_takeDigit 30 = .ok (.getfield 9, 3) := by decide +kernel
theorem dX0_takeDigit_33 : decode cX0_takeDigit 33 = .ok (.aload_n 0, 1) := by decide +kernel
theorem dX0_takeDigit_34 : decode cX0_takeDigit 34 = .ok (.getfield 26, 3) := by decide +kernel
theorem dX0_takeDigit_37 : decode cX0_takeDigit 37 = .ok (.iload_n 1, 1) := by decide +kernel
theorem dX0_takeDigit_38 : decode cX0_takeDigit 38 = .ok (.iastore, 1) := by decide +kernel
theorem dX0_takeDigit_39 : decode cX0_takeDigit 39 = .ok (.aload_n 0, 1) := by decide +kernel
theorem dX0_takeDigit_40 : decode cX0_takeDigit 40 = .ok (.dup, 1) := by decide +kernel
theorem dX0_takeDigit_41 : decode cX0_takeDigit 41 = .ok (.getfield 26, 3) := by decide +kernel
theorem dX0_takeDigit_44 : decode cX0_takeDigit 44 = .ok (.iconst 1, 1) := by decide +kernel
theorem dX0_takeDigit_45 : decode cX0_takeDigit 45 = .ok (.iadd, 1) := by decide +kernel
theorem dX0_takeDigit_46 : decode cX0_takeDigit 46 = .ok (.putfield 26, 3) := by decide +kernel
theorem dX0_takeDigit_49 : decode cX0_takeDigit 49 = .ok (.aload_n 0, 1) := by decide +kernel
theorem dX0_takeDigit_50 : decode cX0_takeDigit 50 = .ok (.aload_n 0, 1) := by decide +kernel
theorem dX0_takeDigit_51 : decode cX0_takeDigit 51 = .ok (.invokevirtual 39, 3) := by decide +kernel
theorem dX0_takeDigit_54 : decode cX0_takeDigit 54 = .ok (.ifCond .ne 7, 3) := by decide +kernel
theorem dX0_takeDigit_57 : decode cX0_takeDigit 57 = .ok (.iconst 1, 1) := by decide +kernel
theorem dX0_takeDigit_58 : decode cX0_takeDigit 58 = .ok (.goto 4, 3) := by decide +kernel
theorem dX0_takeDigit_61 : decode cX0_takeDigit 61 = .ok (.iconst 0, 1) := by decide +kernel
theorem dX0_takeDigit_62 : decode cX0_takeDigit 62 = .ok (.putfield 15, 3) := by decide +kernel
theorem dX0_takeDigit_65 : decode cX0_takeDigit 65 = .ok (.aload_n 0, 1) := by decide +kernel
theorem dX0_takeDigit_66 : decode cX0_takeDigit 66 = .ok (.getfield 15, 3) := by decide +kernel
theorem dX0_takeDigit_69 : decode cX0_takeDigit 69 = .ok (.ifCond .ne 7, 3) := by decide +kernel
theorem dX0_takeDigit_72 : decode cX0_takeDigit 72 = .ok (.iconst 1, 1) := by decide +kernel
theorem dX0_takeDigit_73 : decode cX0_takeDigit 73 = .ok (.goto 4, 3) := by decide +kernel
theorem dX0_takeDigit_76 : decode cX0_takeDigit 76 = .ok (.iconst 0, 1) := by decide +kernel
theorem dX0_takeDigit_77 : decode cX0_takeDigit 77 = .ok (.ireturn, 1) := by decide +kernel
theorem dX0_endsInCode_0 : decode cX0_endsInCode 0 = .ok (.aload_n 0, 1) := by decide +kernel
theorem dX0_endsInCode_1 : decode cX0_endsInCode 1 = .ok (.getfield 26, 3) := by decide +kernel
theorem dX0_endsInCode_4 : decode cX0_endsInCode 4 = .ok (.aload_n 0, 1) := by decide +kernel
theorem dX0_endsInCode_5 : decode cX0_endsInCode 5 = .ok (.getfield 23, 3) := by decide +kernel
theorem dX0_endsInCode_8 : decode cX0_endsInCode 8 = .ok (.if_icmp .ge 5, 3) := by decide +kernel
theorem dX0_endsInCode_11 : decode cX0_endsInCode 11 = .ok (.iconst 0, 1) := by decide +kernel
theorem dX0_endsInCode_12 : decode cX0_endsInCode 12 = .ok (.ireturn, 1) := by decide +kernel
theorem dX0_endsInCode_13 : decode cX0_endsInCode 13 = .ok (.iconst 0, 1) := by decide +kernel
theorem dX0_endsInCode_14 : decode cX0_endsInCode 14 = .ok (.istore_n 1, 1) := by decide +kernel
theorem dX0_endsInCode_15 : decode cX0_endsInCode 15 = .ok (.aload_n 0, 1) := by decide +kernel
theorem dX0_endsInCode_16 : decode cX0_endsInCode 16 = .ok (.getfield 26, 3) := by decide +kernel
theorem dX0_endsInCode_19 : decode cX0_endsInCode 19 = .ok (.aload_n 0, 1) := by decide +kernel
theorem dX0_endsInCode_20 : decode cX0_endsInCode 20 = .ok (.getfield 23, 3) := by decide +kernel
theorem dX0_endsInCode_23 : decode cX0_endsInCode 23 = .ok (.isub, 1) := by decide +kernel
theorem dX0_endsInCode_24 : decode cX0_endsInCode 24 = .ok (.istore_n 2, 1) := by decide +kernel
theorem dX0_endsInCode_25 : decode cX0_endsInCode 25 = .ok (.iload_n 2, 1) := by decide +kernel
theorem dX0_endsInCode_26 : decode cX0_endsInCode 26 = .ok (.aload_n 0, 1) := by decide +kernel
theorem dX0_endsInCode_27 : decode cX0_endsInCode 27 = .ok (.getfield 26, 3) := by decide +kernel
theorem dX0_endsInCode_30 : decode cX0_endsInCode 30 = .ok (.if_icmp .ge 21, 3) := by decide +kernel
theorem dX0_endsInCode_33 : decode cX0_endsInCode 33 = .ok (.iload_n 1, 1) := by decide +kernel
theorem dX0_endsInCode_34 : decode cX0_endsInCode 34 = .ok (.bipush 10, 2) := by decide +kernel
theorem dX0_endsInCode_36 : decode cX0_endsInCode 36 = .ok (.imul, 1) := by decide +kernel
theorem dX0_endsInCode_37 : decode cX0_endsInCode 37 = .ok (.aload_n 0, 1) := by decide +kernel
theorem dX0_endsInCode_38 : decode cX0_endsInCode 38 = .ok (.getfield 9, 3) := by decide +kernel
theorem dX0_endsInCode_41 : decode cX0_endsInCode 41 = .ok (.iload_n 2, 1) := by decide +kernel
theorem dX0_endsInCode_42 : decode cX0_endsInCode 42 = .ok (.iaload, 1) := by decide +kernel
theorem dX0_endsInCode_43 : decode cX0_endsInCode 43 = .ok (.iadd, 1) := by decide +kernel
theorem dX0_endsInCode_44 : decode cX0_endsInCode 44 = .ok (.istore_n 1, 1) := by decide +kernel
theorem dX0_endsInCode_45 : decode cX0_endsInCode 45 = .ok (.iinc 2 1, 3) := by decide +kernel
theorem dX0_endsInCode_48 : decode cX0_endsInCode 48 = .ok (.goto (-23), 3) := by decide +kernel
theorem dX0_endsInCode_51 : decode cX0_endsInCode 51 = .ok (.iload_n 1, 1) := by decide +kernel
theorem dX0_endsInCode_52 : decode cX0_endsInCode 52 = .ok (.aload_n 0, 1) := by decide +kernel
theorem dX0_endsInCode_53 : decode cX0_endsInCode 53 = .ok (.getfield 19, 3) := by decide +kernel
theorem dX0_endsInCode_56 : decode cX0_endsInCode 56 = .ok (.if_icmp .ne 7, 3) := by decide +kernel
theorem dX0_endsInCode_59 : decode cX0_endsInCode 59 = .ok (.iconst 1, 1) := by decide +kernel
theorem dX0_endsInCode_60 : decode cX0_endsInCode 60 = .ok (.goto 4, 3) := by decide +kernel
theorem dX0_endsInCode_63 : decode cX0_endsInCode 63 = .ok (.iconst 0, 1) := by decide +kernel
theorem dX0_endsInCode_64 : decode cX0_endsInCode 64 = .ok (.ireturn, 1) := by decide +kernel
theorem dX1_init_0 : decode cX1_init 0 = .ok (.aload_n 0, 1) := by decide +kernel
theorem dX1_init_1 : decode cX1_init 1 = .ok (.invokespecial 3, 3) := by decide +kernel
theorem dX1_init_4 : decode cX1_init 4 = .ok (.aload_n 0, 1) := by decide +kernel
theorem dX1_init_5 : decode cX1_init 5 = .ok (.iconst 0, 1) := by decide +kernel
theorem dX1_init_6 : decode cX1_init 6 = .ok (.putfield 9, 3) := by decide +kernel
theorem dX1_init_9 : decode cX1_init 9 = .ok (.aload_n 0, 1) := by decide +kernel
theorem dX1_init_10 : decode cX1_init 10 = .ok (.iconst (-1), 1) := by decide +kernel
theorem dX1_init_11 : decode cX1_init 11 = .ok (.putfield 15, 3) := by decide +kernel
theorem dX1_init_14 : decode cX1_init 14 = .ok (.aload_n 0, 1) := by decide +kernel
theorem dX1_init_15 : decode cX1_init 15 = .ok (.iconst 0, 1) := by decide +kernel
theorem dX1_init_16 : decode cX1_init 16 = .ok (.putfield 19, 3) := by decide +kernel
theorem dX1_init_19 : decode cX1_init 19 = .ok (.aload_n 0, 1) := by decide +kernel
theorem dX1_init_20 : decode cX1_init 20 = .ok (.iconst 0, 1) := by decide +kernel
theorem dX1_init_21 : decode cX1_init 21 = .ok (.putfield 22, 3) := by decide +kernel
theorem dX1_init_24 : decode cX1_init 24 = .ok (.aload_n 0, 1) := by decide +kernel
theorem dX1_init_25 : decode cX1_init 25 = .ok (.iconst 0, 1) := by decide +kernel
theorem dX1_init_26 : decode cX1_init 26 = .ok (.putfield 25, 3) := by decide +kernel
theorem dX1_init_29 : decode cX1_init 29 = .ok (.aload_n 0, 1) := by decide +kernel
theorem dX1_init_30 : decode cX1_init 30 = .ok (.iconst 1, 1) := by decide +kernel
theorem dX1_init_31 : decode cX1_init 31 = .ok (.putfield 28, 3) := by decide +kernel
theorem dX1_init_34 : decode cX1_init 34 = .ok (.aload_n 0, 1) := by decide +kernel
theorem dX1_init_35 : decode cX1_init 35 = .ok (.iconst 0, 1) := by decide +kernel
theorem dX1_init_36 : decode cX1_init 36 = .ok (.putfield 31, 3) := by decide +kernel
theorem dX1_init_39 : decode cX1_init 39 = .ok (.aload_n 0, 1) := by decide +kernel
theorem dX1_init_40 : decode cX1_init 40 = .ok (.iconst (-1), 1) := by decide +kernel
theorem dX1_init_41 : decode cX1_init 41 = .ok (.putfield 34, 3) := by decide +kernel
theorem dX1_init_44 : decode cX1_init 44 = .ok (.return_, 1) := by decide +kernel
theorem dX1_fill_0 : decode cX1_fill 0 = .ok (.aload_n 0, 1) := by decide +kernel
theorem dX1_fill_1 : decode cX1_fill 1 = .ok (.iconst 1, 1) := by decide +kernel
theorem dX1_fill_2 : decode cX1_fill 2 = .ok (.putfield 9, 3) := by decide +kernel
theorem dX1_fill_5 : decode cX1_fill 5 = .ok (.aload_n 0, 1) := by decide +kernel
theorem dX1_fill_6 : decode cX1_fill 6 = .ok (.iload_n 1, 1) := by decide +kernel
theorem dX1_fill_7 : decode cX1_fill 7 = .ok (.putfield 15, 3) := by decide +kernel
theorem dX1_fill_10 : decode cX1_fill 10 = .ok (.aload_n 0, 1) := by decide +kernel
theorem dX1_fill_11 : decode cX1_fill 11 = .ok (.iload_n 2, 1) := by decide +kernel
theorem dX1_fill_12 : decode cX1_fill 12 = .ok (.putfield 19, 3) := by decide +kernel
theorem dX1_fill_15 : decode cX1_fill 15 = .ok (.aload_n 0, 1) := by decide +kernel
theorem dX1_fill_16 : decode cX1_fill 16 = .ok (.iload_n 3, 1) := by decide +kernel
theorem dX1_fill_17 : decode cX1_fill 17 = .ok (.putfield 22, 3) := by decide +kernel
theorem dX1_fill_20 : decode cX1_fill 20 = .ok (.aload_n 0, 1) := by decide +kernel
theorem dX1_fill_21 : decode cX1_fill 21 = .ok (.iload 4, 2) := by decide +kernel
theorem dX1_fill_23 : decode cX1_fill 23 = .ok (.putfield 25, 3) := by decide +kernel
theorem dX1_fill_26 : decode cX1_fill 26 = .ok (.aload_n 0, 1) := by decide +kernel
theorem dX1_fill_27 : decode cX1_fill 27 = .ok (.iload 5, 2) := by decide +kernel
theorem dX1_fill_29 : decode cX1_fill 29 = .ok (.putfield 28, 3) := by decide +kernel
theorem dX1_fill_32 : decode cX1_fill 32 = .ok (.aload_n 0, 1) := by decide +kernel
theorem dX1_fill_33 : decode cX1_fill 33 = .ok (.iconst 0, 1) := by decide +kernel
theorem dX1_fill_34 : decode cX1_fill 34 = .ok (.putfield 31, 3) := by decide +kernel
theorem dX1_fill_37 : decode cX1_fill 37 = .ok (.aload_n 0, 1) := by decide +kernel
theorem dX1_fill_38 : decode cX1_fill 38 = .ok (.iload 6, 2) := by decide +kernel
theorem dX1_fill_40 : decode cX1_fill 40 = .ok (.putfield 34, 3) := by decide +kernel
theorem dX1_fill_43 : decode cX1_fill 43 = .ok (.return_, 1) := by decide +kernel
theorem dX1_isBad_0 : decode cX1_isBad 0 = .ok (.aload_n 0, 1) := by decide +kernel
theorem dX1_isBad_1 : decode cX1_isBad 1 = .ok (.getfield 34, 3) := by decide +kernel
theorem dX1_isBad_4 : decode cX1_isBad 4 = .ok (.ifCond .ne 7, 3) := by decide +kernel
theorem dX1_isBad_7 : decode cX1_isBad 7 = .ok (.iconst 1, 1) := by decide +kernel
theorem dX1_isBad_8 : decode cX1_isBad 8 = .ok (.goto 4, 3) := by decide +kernel
theorem dX1_isBad_11 : decode cX1_isBad 11 = .ok (.iconst 0, 1) := by decide +kernel
theorem dX1_isBad_12 : decode cX1_isBad 12 = .ok (.ireturn, 1) := by decide +kernel
theorem dX1_useTry_0 : decode cX1_useTry 0 = .ok (.aload_n 0, 1) := by decide +kernel
theorem dX1_useTry_1 : decode cX1_useTry 1 = .ok (.getfield 34, 3) := by decide +kernel
theorem dX1_useTry_4 : decode cX1_useTry 4 = .ok (.ifCond .le 13, 3) := by decide +kernel
theorem dX1_useTry_7 : decode cX1_useTry 7 = .ok (.aload_n 0, 1) := by decide +kernel
theorem dX1_useTry_8 : decode cX1_useTry 8 = .ok (.dup, 1) := by decide +kernel
theorem dX1_useTry_9 : decode cX1_useTry 9 = .ok (.getfield 34, 3) := by decide +kernel
theorem dX1_useTry_12 : decode cX1_useTry 12 = .ok (.iconst 1, 1) := by decide +kernel
theorem dX1_useTry_13 : decode cX1_useTry 13 = .ok (.isub, 1) := by decide +kernel
theorem dX1_useTry_14 : decode cX1_useTry 14 = .ok (.putfield 34, 3) := by decide +kernel
theorem dX1_useTry_17 : decode cX1_useTry 17 = .ok (.return_, 1) := by decide +kernel
set_option maxRecDepth 20000 in
theorem ggX1_isAheadOf_X1_isBad : GoodIn wsX1_isAheadOf wsX1_isBad := goodIn_r _ [8, 9, 20, 21, 22, 23, 24, 25, 26, 27] (by decide +kernel) (by decide +kernel)
set_option maxRecDepth 20000 in
theorem gX1_isAheadOf_X1_isBad : GoodIn wsX1_isAheadOf (wsV RX1 37 RX1 yX1_isBad wsX1_isBad) := goodIn_app (goodIn_of _ (by decide +kernel)) ggX1_isAheadOf_X1_isBad
set_option maxRecDepth 20000 in
theorem ggX1_isAheadOf_X1_compareVersion : GoodIn wsX1_isAheadOf wsX1_compareVersion := goodIn_r _ [13, 14, 15, 16, 17, 18, 19, 20, 21, 22, 23, 24, 25, 26, 27] (by decide +kernel) (by decide +kernel)
set_option maxRecDepth 20000 in
theorem gX1_isAheadOf_X1_compareVersion : GoodIn wsX1_isAheadOf (wsV RX1 41 RX1 yX1_compareVersion wsX1_compareVersion) := goodIn_app (goodIn_of _ (by decide +kernel)) ggX1_isAheadOf_X1_compareVersion
theorem dX1_isAheadOf_0 : decode cX1_isAheadOf 0 = .ok (.aload_n 0, 1) := by decide +kernel
theorem dX1_isAheadOf_1 : decode cX1_isAheadOf 1 = .ok (.invokevirtual 37, 3) := by decide +kernel
theorem dX1_isAheadOf_4 : decode cX1_isAheadOf 4 = .ok (.aload_n 1, 1) := by decide +kernel
theorem dX1_isAheadOf_5 : decode cX1_isAheadOf 5 = .ok (.invokevirtual 37, 3) := by decide +kernel
theorem dX1_isAheadOf_8 : decode cX1_isAheadOf 8 = .ok (.if_icmp .eq 8, 3) := by decide +kernel
theorem dX1_isAheadOf_11 : decode cX1_isAheadOf 11 = .ok (.aload_n 1, 1) := by decide +kernel
theorem dX1_isAheadOf_12 : decode cX1_isAheadOf 12 = .ok (.invokevirtual 37, 3) := by decide +kernel
theorem dX1_isAheadOf_15 : decode cX1_isAheadOf 15 = .ok (.ireturn, 1) := by decide +kernel
theorem dX1_isAheadOf_16 : decode cX1_isAheadOf 16 = .ok (.aload_n 0, 1) := by decide +kernel
theorem dX1_isAheadOf_17 : decode cX1_isAheadOf 17 = .ok (.getfield 19, 3) := by decide +kernel
theorem dX1_isAheadOf_20 : decode cX1_isAheadOf 20 = .ok (.aload_n 1, 1) := by decide +kernel
theorem dX1_isAheadOf_21 : decode cX1_isAheadOf 21 = .ok (.getfield 19, 3) := by decide +kernel
theorem dX1_isAheadOf_24 : decode cX1_isAheadOf 24 = .ok (.if_icmp .eq 20, 3) := by decide +kernel
theorem dX1_isAheadOf_27 : decode cX1_isAheadOf 27 = .ok (.aload_n 0, 1) := by decide +kernel
theorem dX1_isAheadOf_28 : decode cX1_isAheadOf 28 = .ok (.getfield 19, 3) := by decide +kernel
theorem dX1_isAheadOf_31 : decode cX1_isAheadOf 31 = .ok (.aload_n 1, 1) := by decide +kernel
theorem dX1_isAheadOf_32 : decode cX1_isAheadOf 32 = .ok (.getfield 19, 3) := by decide +kernel
theorem dX1_isAheadOf_35 : decode cX1_isAheadOf 35 = .ok (.if_icmp .ge 7, 3) := by decide +kernel
theorem dX1_isAheadOf_38 : decode cX1_isAheadOf 38 = .ok (.iconst 1, 1) := by decide +kernel
theorem dX1_isAheadOf_39 : decode cX1_isAheadOf 39 = .ok (.goto 4, 3) := by decide +kernel
theorem dX1_isAheadOf_42 : decode cX1_isAheadOf 42 = .ok (.iconst 0, 1) := by decide +kernel
theorem dX1_isAheadOf_43 : decode cX1_isAheadOf 43 = .ok (.ireturn, 1) := by decide +kernel
theorem dX1_isAheadOf_44 : decode cX1_isAheadOf 44 = .ok (.aload_n 0, 1) := by decide +kernel
theorem dX1_isAheadOf_45 : decode cX1_isAheadOf 45 = .ok (.aload_n 1, 1) := by decide +kernel
theorem dX1_isAheadOf_46 : decode cX1_isAheadOf 46 = .ok (.invokevirtual 41, 3) := by decide +kernel
theorem dX1_isAheadOf_49 : decode cX1_isAheadOf 49 = .ok (.istore_n 2, 1) := by decide +kernel
theorem dX1_isAheadOf_50 : decode cX1_isAheadOf 50 = .ok (.iload_n 2, 1) := by decide +kernel
theorem dX1_isAheadOf_51 : decode cX1_isAheadOf 51 = .ok (.ifCond .eq 13, 3) := by decide +kernel
theorem dX1_isAheadOf_54 : decode cX1_isAheadOf 54 = .ok (.iload_n 2, 1) := by decide +kernel
theorem dX1_isAheadOf_55 : decode cX1_isAheadOf 55 = .ok (.ifCond .le 7, 3) := by decide +kernel
theorem dX1_isAheadOf_58 : decode cX1_isAheadOf 58 = .ok (.iconst 1, 1) := by decide +kernel
theorem dX1_isAheadOf_59 : decode cX1_isAheadOf 59 = .ok (.goto 4, 3) := by decide +kernel
theorem dX1_isAheadOf_62 : decode cX1_isAheadOf 62 = .ok (.iconst 0, 1) := by decide +kernel
theorem dX1_isAheadOf_63 : decode cX1_isAheadOf 63 = .ok (.ireturn, 1) := by decide +kernel
theorem dX1_isAheadOf_64 : decode cX1_isAheadOf 64 = .ok (.aload_n 0, 1) := by decide +kernel
theorem dX1_isAheadOf_65 : decode cX1_isAheadOf 65 = .ok (.getfield 22, 3) := by decide +kernel
theorem dX1_isAheadOf_68 : decode cX1_isAheadOf 68 = .ok (.aload_n 1, 1) := by decide +kernel
theorem dX1_isAheadOf_69 : decode cX1_isAheadOf 69 = .ok (.getfield 22, 3) := by decide +kernel
theorem dX1_isAheadOf_72 : decode cX1_isAheadOf 72 = .ok (.if_icmp .eq 20, 3) := by decide +kernel
theorem dX1_isAheadOf_75 : decode cX1_isAheadOf 75 = .ok (.aload_n 0, 1) := by decide +kernel
theorem dX1_isAheadOf_76 : decode cX1_isAheadOf 76 = .ok (.getfield 22, 3) := by decide +kernel
theorem dX1_isAheadOf_79 : decode cX1_isAheadOf 79 = .ok (.aload_n 1, 1) := by decide +kernel
theorem dX1_isAheadOf_80 : decode cX1_isAheadOf 80 = .ok (.getfield 22, 3) := by decide +kernel
theorem dX1_isAheadOf_83 : decode cX1_isAheadOf 83 = .ok (.if_icmp .ge 7, 3) := by decide +kernel
theorem dX1_isAheadOf_86 : decode cX1_isAheadOf 86 = .ok (.iconst 1, 1) := by decide +kernel
theorem dX1_isAheadOf_87 : decode cX1_isAheadOf 87 = .ok (.goto 4, 3) := by decide +kernel
theorem dX1_isAheadOf_90 : decode cX1_isAheadOf 90 = .ok (.iconst 0, 1) := by decide +kernel
theorem dX1_isAheadOf_91 : decode cX1_isAheadOf 91 = .ok (.ireturn, 1) := by decide +kernel
theorem dX1_isAheadOf_92 : decode cX1_isAheadOf 92 = .ok (.aload_n 0, 1) := by decide +kernel
theorem dX1_isAheadOf_93 : decode cX1_isAheadOf 93 = .ok (.getfield 15, 3) := by decide +kernel
theorem dX1_isAheadOf_96 : decode cX1_isAheadOf 96 = .ok (.aload_n 1, 1) := by decide +kernel
theorem dX1_isAheadOf_97 : decode cX1_isAheadOf 97 = .ok (.getfield 15, 3) := by decide +kernel
theorem dX1_isAheadOf_100 : decode cX1_isAheadOf 100 = .ok (.if_icmp .ge 7, 3) := by decide +kernel
theorem dX1_isAheadOf_103 : decode cX1_isAheadOf 103 = .ok (.iconst 1, 1) := by decide +kernel
theorem dX1_isAheadOf_104 : decode cX1_isAheadOf 104 = .ok (.goto 4, 3) := by decide +kernel
theorem dX1_isAheadOf_107 : decode cX1_isAheadOf 107 = .ok (.iconst 0, 1) := by decide +kernel
theorem dX1_isAheadOf_108 : decode cX1_isAheadOf 108 = .ok (.ireturn, 1) := by decide +kernel
set_option maxRecDepth 20000 in
theorem ggX1_compareVersion_J6_compare_7cf53 : GoodIn wsX1_compareVersion wsJ6_compare_7cf53 := goodIn_r _ [6] (by decide +kernel) (by decide +kernel)
set_option maxRecDepth 20000 in
theorem gX1_compareVersion_J6_compare_7cf53 : GoodIn wsX1_compareVersion (va_wsS RX1 45 yJ6_compare_7cf53 wsJ6_compare_7cf53) := goodIn_app (goodIn_of _ (by decide +kernel)) ggX1_compareVersion_J6_compare_7cf53
theorem dX1_compareVersion_0 : decode cX1_compareVersion 0 = .ok (.aload_n 0, 1) := by decide +kernel
theorem dX1_compareVersion_1 : decode cX1_compareVersion 1 = .ok (.getfield 25, 3) := by decide +kernel
theorem dX1_compareVersion_4 : decode cX1_compareVersion 4 = .ok (.aload_n 1, 1) := by decide +kernel
theorem dX1_compareVersion_5 : decode cX1_compareVersion 5 = .ok (.getfield 25, 3) := by decide +kernel
theorem dX1_compareVersion_8 : decode cX1_compareVersion 8 = .ok (.if_icmp .eq 20, 3) := by decide +kernel
theorem dX1_compareVersion_11 : decode cX1_compareVersion 11 = .ok (.aload_n 0, 1) := by decide +kernel
theorem dX1_compareVersion_12 : decode cX1_compareVersion 12 = .ok (.getfield 25, 3) := by decide +kernel
theorem dX1_compareVersion_15 : decode cX1_compareVersion 15 = .ok (.aload_n 1, 1) := by decide +kernel
theorem dX1_compareVersion_16 : decode cX1_compareVersion 16 = .ok (.getfield 25, 3) := by decide +kernel
theorem dX1_compareVersion_19 : decode cX1_compareVersion 19 = .ok (.if_icmp .le 7, 3) := by decide +kernel
theorem dX1_compareVersion_22 : decode cX1_compareVersion 22 = .ok (.iconst 1, 1) := by decide +kernel
theorem dX1_compareVersion_23 : decode cX1_compareVersion 23 = .ok (.goto 4, 3) := by decide +kernel
theorem dX1_compareVersion_26 : decode cX1_compareVersion 26 = .ok (.iconst (-1), 1) := by decide +kernel
theorem dX1_compareVersion_27 : decode cX1_compareVersion 27 = .ok (.ireturn, 1) := by decide +kernel
theorem dX1_compareVersion_28 : decode cX1_compareVersion 28 = .ok (.aload_n 0, 1) := by decide +kernel
theorem dX1_compareVersion_29 : decode cX1_compareVersion 29 = .ok (.getfield 28, 3) := by decide +kernel
theorem dX1_compareVersion_32 : decode cX1_compareVersion 32 = .ok (.aload_n 1, 1) := by decide +kernel
theorem dX1_compareVersion_33 : decode cX1_compareVersion 33 = .ok (.getfield 28, 3) := by decide +kernel
theorem dX1_compareVersion_36 : decode cX1_compareVersion 36 = .ok (.invokestatic 45, 3) := by decide +kernel
theorem dX1_compareVersion_39 : decode cX1_compareVersion 39 = .ok (.ireturn, 1) := by decide +kernel
set_option maxRecDepth 20000 in
theorem ggX2_init_X0_init : GoodIn wsX2_init wsX0_init := goodIn_r _ [20, 21, 2, 3, 22, 23, 24, 25, 26, 27, 48, 49, 50, 51, 52] (by decide +kernel) (by decide +kernel)
set_option maxRecDepth 20000 in
theorem gX2_init_X0_init_n17 : GoodIn wsX2_init (wsX0_init) := ggX2_init_X0_init
set_option maxRecDepth 20000 in
theorem ggX2_init_X1_init : GoodIn wsX2_init wsX1_init := goodIn_r _ [29, 30, 2, 3, 31, 32, 33, 34, 35, 36, 37, 38, 53, 54, 55, 56, 57, 58, 59, 60] (by decide +kernel) (by decide +kernel)
set_option maxRecDepth 20000 in
theorem gX2_init_X1_init_n44 : GoodIn wsX2_init (wsX1_init) := ggX2_init_X1_init
theorem dX2_init_0 : decode cX2_init 0 = .ok (.aload_n 0, 1) := by decide +kernel
theorem dX2_init_1 : decode cX2_init 1 = .ok (.invokespecial 1, 3) := by decide +kernel
theorem dX2_init_4 : decode cX2_init 4 = .ok (.aload_n 0, 1) := by decide +kernel
theorem dX2_init_5 : decode cX2_init 5 = .ok (.bipush 16, 2) := by decide +kernel
theorem dX2_init_7 : decode cX2_init 7 = .ok (.anewarray 9, 3) := by decide +kernel
theorem dX2_init_10 : decode cX2_init 10 = .ok (.putfield 11, 3) := by decide +kernel
theorem dX2_init_13 : decode cX2_init 13 = .ok (.aload_n 0, 1) := by decide +kernel
theorem dX2_init_14 : decode cX2_init 14 = .ok (.new 15, 3) := by decide +kernel
theorem dX2_init_17 : decode cX2_init 17 = .ok (.dup, 1) := by decide +kernel
theorem dX2_init_18 : decode cX2_init 18 = .ok (.invokespecial 17, 3) := by decide +kernel
theorem dX2_init_21 : decode cX2_init 21 = .ok (.putfield 18, 3) := by decide +kernel
theorem dX2_init_24 : decode cX2_init 24 = .ok (.aload_n 0, 1) := by decide +kernel
theorem dX2_init_25 : decode cX2_init 25 = .ok (.iconst 0, 1) := by decide +kernel
theorem dX2_init_26 : decode cX2_init 26 = .ok (.putfield 22, 3) := by decide +kernel
theorem dX2_init_29 : decode cX2_init 29 = .ok (.aload_n 0, 1) := by decide +kernel
theorem dX2_init_30 : decode cX2_init 30 = .ok (.iconst (-1), 1) := by decide +kernel
theorem dX2_init_31 : decode cX2_init 31 = .ok (.putfield 26, 3) := by decide +kernel
theorem dX2_init_34 : decode cX2_init 34 = .ok (.aload_n 0, 1) := by decide +kernel
theorem dX2_init_35 : decode cX2_init 35 = .ok (.iconst (-1), 1) := by decide +kernel
theorem dX2_init_36 : decode cX2_init 36 = .ok (.putfield 29, 3) := by decide +kernel
theorem dX2_init_39 : decode cX2_init 39 = .ok (.aload_n 0, 1) := by decide +kernel
theorem dX2_init_40 : decode cX2_init 40 = .ok (.iconst 0, 1) := by decide +kernel
theorem dX2_init_41 : decode cX2_init 41 = .ok (.putfield 32, 3) := by decide +kernel
theorem dX2_init_44 : decode cX2_init 44 = .ok (.aload_n 0, 1) := by decide +kernel
theorem dX2_init_45 : decode cX2_init 45 = .ok (.bipush 99, 2) := by decide +kernel
theorem dX2_init_47 : decode cX2_init 47 = .ok (.putfield 35, 3) := by decide +kernel
theorem dX2_init_50 : decode cX2_init 50 = .ok (.aload_n 0, 1) := by decide +kernel
theorem dX2_init_51 : decode cX2_init 51 = .ok (.iconst (-1), 1) := by decide +kernel
theorem dX2_init_52 : decode cX2_init 52 = .ok (.putfield 38, 3) := by decide +kernel
theorem dX2_init_55 : decode cX2_init 55 = .ok (.aload_n 0, 1) := by decide +kernel
theorem dX2_init_56 : decode cX2_init 56 = .ok (.iconst 0, 1) := by decide +kernel
theorem dX2_init_57 : decode cX2_init 57 = .ok (.putfield 41, 3) := by decide +kernel
theorem dX2_init_60 : decode cX2_init 60 = .ok (.iconst 0, 1) := by decide +kernel
theorem dX2_init_61 : decode cX2_init 61 = .ok (.istore_n 1, 1) := by decide +kernel
theorem dX2_init_62 : decode cX2_init 62 = .ok (.iload_n 1, 1) := by decide +kernel
theorem dX2_init_63 : decode cX2_init 63 = .ok (.aload_n 0, 1) := by decide +kernel
theorem dX2_init_64 : decode cX2_init 64 = .ok (.getfield 11, 3) := by decide +kernel
theorem dX2_init_67 : decode cX2_init 67 = .ok (.arraylength, 1) := by decide +kernel
theorem dX2_init_68 : decode cX2_init 68 = .ok (.if_icmp .ge 22, 3) := by decide +kernel
theorem dX2_init_71 : decode cX2_init 71 = .ok (.aload_n 0, 1) := by decide +kernel
theorem dX2_init_72 : decode cX2_init 72 = .ok (.getfield 11, 3) := by decide +kernel
theorem dX2_init_75 : decode cX2_init 75 = .ok (.iload_n 1, 1) := by decide +kernel
theorem dX2_init_76 : decode cX2_init 76 = .ok (.new 9, 3) := by decide +kernel
theorem dX2_init_79 : decode cX2_init 79 = .ok (.dup, 1) := by decide +kernel
theorem dX2_init_80 : decode cX2_init 80 = .ok (.invokespecial 44, 3) := by decide +kernel
theorem dX2_init_83 : decode cX2_init 83 = .ok (.aastore, 1) := by decide +kernel
theorem dX2_init_84 : decode cX2_init 84 = .ok (.iinc 1 1, 3) := by decide +kernel
theorem dX2_init_87 : decode cX2_init 87 = .ok (.goto (-25), 3) := by decide +kernel
theorem dX2_init_90 : decode cX2_init 90 = .ok (.return_, 1) := by decide +kernel
set_option maxRecDepth 20000 in
theorem ggX2_add_X2_isWithin : GoodIn wsX2_add wsX2_isWithin := goodIn_r _ [10] (by decide +kernel) (by decide +kernel)
set_option maxRecDepth 20000 in
theorem gX2_add_X2_isWithin : GoodIn wsX2_add (va_wsS RX2 45 yX2_isWithin wsX2_isWithin) := goodIn_app (goodIn_of _ (by decide +kernel)) ggX2_add_X2_isWithin
set_option maxRecDepth 20000 in
theorem ggX2_add_X2_freeRow : GoodIn wsX2_add wsX2_freeRow := goodIn_r _ [14, 15, 28, 29, 30, 31, 32, 33, 34, 35, 36, 37, 38, 39, 40, 41, 42, 43, 44] (by decide +kernel) (by decide +kernel)
set_option maxRecDepth 20000 in
theorem gX2_add_X2_freeRow : GoodIn wsX2_add (wsV RX2 59 RX2 yX2_freeRow wsX2_freeRow) := goodIn_app (goodIn_of _ (by decide +kernel)) ggX2_add_X2_freeRow
set_option maxRecDepth 20000 in
theorem ggX2_add_X1_fill : GoodIn wsX2_add wsX1_fill := goodIn_r _ [19, 20, 21, 22, 23, 24, 25, 26, 27, 37, 38, 39, 40, 41, 42, 43, 44] (by decide +kernel) (by decide +kernel)
set_option maxRecDepth 20000 in
theorem gX2_add_X1_fill_n68 : GoodIn wsX2_add (wsX1_fill) := ggX2_add_X1_fill
theorem dX2_add_0 : decode cX2_add 0 = .ok (.iload_n 1, 1) := by decide +kernel
theorem dX2_add_1 : decode cX2_add 1 = .ok (.iconst 0, 1) := by decide +kernel
theorem dX2_add_2 : decode cX2_add 2 = .ok (.iconst 2, 1) := by decide +kernel
theorem dX2_add_3 : decode cX2_add 3 = .ok (.invokestatic 45, 3) := by decide +kernel
theorem dX2_add_6 : decode cX2_add 6 = .ok (.ifCond .eq 33, 3) := by decide +kernel
theorem dX2_add_9 : decode cX2_add 9 = .ok (.iload_n 2, 1) := by decide +kernel
theorem dX2_add_10 : decode cX2_add 10 = .ok (.iconst 0, 1) := by decide +kernel
theorem dX2_add_11 : decode cX2_add 11 = .ok (.bipush 99, 2) := by decide +kernel
theorem dX2_add_13 : decode cX2_add 13 = .ok (.invokestatic 45, 3) := by decide +kernel
theorem dX2_add_16 : decode cX2_add 16 = .ok (.ifCond .eq 23, 3) := by decide +kernel
theorem dX2_add_19 : decode cX2_add 19 = .ok (.iload_n 3, 1) := by decide +kernel
theorem dX2_add_20 : decode cX2_add 20 = .ok (.iconst 0, 1) := by decide +kernel
theorem dX2_add_21 : decode cX2_add 21 = .ok (.ldc 49, 2) := by decide +kernel
theorem dX2_add_23 : decode cX2_add 23 = .ok (.invokestatic 45, 3) := by decide +kernel
theorem dX2_add_26 : decode cX2_add 26 = .ok (.ifCond .eq 13, 3) := by decide +kernel
theorem dX2_add_29 : decode cX2_add 29 = .ok (.iload 4, 2) := by decide +kernel
theorem dX2_add_31 : decode cX2_add 31 = .ok (.iconst 0, 1) := by decide +kernel
theorem dX2_add_32 : decode cX2_add 32 = .ok (.iconst 2, 1) := by decide +kernel
theorem dX2_add_33 : decode cX2_add 33 = .ok (.invokestatic 45, 3) := by decide +kernel
theorem dX2_add_36 : decode cX2_add 36 = .ok (.ifCond .ne 13, 3) := by decide +kernel
theorem dX2_add_39 : decode cX2_add 39 = .ok (.new 50, 3) := by decide +kernel
theorem dX2_add_42 : decode cX2_add 42 = .ok (.dup, 1) := by decide +kernel
theorem dX2_add_43 : decode cX2_add 43 = .ok (.ldc 52, 2) := by decide +kernel
theorem dX2_add_45 : decode cX2_add 45 = .ok (.invokespecial 54, 3) := by decide +kernel
theorem dX2_add_48 : decode cX2_add 48 = .ok (.athrow, 1) := by decide +kernel
theorem dX2_add_49 : decode cX2_add 49 = .ok (.iload 5, 2) := by decide +kernel
theorem dX2_add_51 : decode cX2_add 51 = .ok (.iconst (-1), 1) := by decide +kernel
theorem dX2_add_52 : decode cX2_add 52 = .ok (.if_icmp .eq 24, 3) := by decide +kernel
theorem dX2_add_55 : decode cX2_add 55 = .ok (.iload 5, 2) := by decide +kernel
theorem dX2_add_57 : decode cX2_add 57 = .ok (.iconst 0, 1) := by decide +kernel
theorem dX2_add_58 : decode cX2_add 58 = .ok (.bipush 9, 2) := by decide +kernel
theorem dX2_add_60 : decode cX2_add 60 = .ok (.invokestatic 45, 3) := by decide +kernel
theorem dX2_add_63 : decode cX2_add 63 = .ok (.ifCond .ne 13, 3) := by decide +kernel
theorem dX2_add_66 : decode cX2_add 66 = .ok (.new 50, 3) := by decide +kernel
theorem dX2_add_69 : decode cX2_add 69 = .ok (.dup, 1) := by decide +kernel
theorem dX2_add_70 : decode cX2_add 70 = .ok (.ldc 57, 2) := by decide +kernel
theorem dX2_add_72 : decode cX2_add 72 = .ok (.invokespecial 54, 3) := by decide +kernel
theorem dX2_add_75 : decode cX2_add 75 = .ok (.athrow, 1) := by decide +kernel
theorem dX2_add_76 : decode cX2_add 76 = .ok (.aload_n 0, 1) := by decide +kernel
theorem dX2_add_77 : decode cX2_add 77 = .ok (.invokevirtual 59, 3) := by decide +kernel
theorem dX2_add_80 : decode cX2_add 80 = .ok (.astore 6, 2) := by decide +kernel
theorem dX2_add_82 : decode cX2_add 82 = .ok (.aload 6, 2) := by decide +kernel
theorem dX2_add_84 : decode cX2_add 84 = .ok (.ifnull 12, 3) := by decide +kernel
theorem dX2_add_87 : decode cX2_add 87 = .ok (.aload_n 0, 1) := by decide +kernel
theorem dX2_add_88 : decode cX2_add 88 = .ok (.getfield 22, 3) := by decide +kernel
theorem dX2_add_91 : decode cX2_add 91 = .ok (.bipush 60, 2) := by decide +kernel
theorem dX2_add_93 : decode cX2_add 93 = .ok (.if_icmp .lt 13, 3) := by decide +kernel
theorem dX2_add_96 : decode cX2_add 96 = .ok (.new 63, 3) := by decide +kernel
theorem dX2_add_99 : decode cX2_add 99 = .ok (.dup, 1) := by decide +kernel
theorem dX2_add_100 : decode cX2_add 100 = .ok (.ldc 65, 2) := by decide +kernel
theorem dX2_add_102 : decode cX2_add 102 = .ok (.invokespecial 67, 3) := by decide +kernel
theorem dX2_add_105 : decode cX2_add 105 = .ok (.athrow, 1) := by decide +kernel
theorem dX2_add_106 : decode cX2_add 106 = .ok (.aload 6, 2) := by decide +kernel
theorem dX2_add_108 : decode cX2_add 108 = .ok (.aload_n 0, 1) := by decide +kernel
theorem dX2_add_109 : decode cX2_add 109 = .ok (.getfield 22, 3) := by decide +kernel
theorem dX2_add_112 : decode cX2_add 112 = .ok (.iload_n 1, 1) := by decide +kernel
theorem dX2_add_113 : decode cX2_add 113 = .ok (.iload_n 2, 1) := by decide +kernel
theorem dX2_add_114 : decode cX2_add 114 = .ok (.iload_n 3, 1) := by decide +kernel
theorem dX2_add_115 : decode cX2_add 115 = .ok (.iload 4, 2) := by decide +kernel
theorem dX2_add_117 : decode cX2_add 117 = .ok (.iload 5, 2) := by decide +kernel
theorem dX2_add_119 : decode cX2_add 119 = .ok (.invokevirtual 68, 3) := by decide +kernel
theorem dX2_add_122 : decode cX2_add 122 = .ok (.aload_n 0, 1) := by decide +kernel
theorem dX2_add_123 : decode cX2_add 123 = .ok (.dup, 1) := by decide +kernel
theorem dX2_add_124 : decode cX2_add 124 = .ok (.getfield 22, 3) := by decide +kernel
theorem dX2_add_127 : decode cX2_add 127 = .ok (.iconst 1, 1) := by decide +kernel
theorem dX2_add_128 : decode cX2_add 128 = .ok (.iadd, 1) := by decide +kernel
theorem dX2_add_129 : decode cX2_add 129 = .ok (.putfield 22, 3) := by decide +kernel
theorem dX2_add_132 : decode cX2_add 132 = .ok (.aload 6, 2) := by decide +kernel
theorem dX2_add_134 : decode cX2_add 134 = .ok (.getfield 72, 3) := by decide +kernel
theorem dX2_add_137 : decode cX2_add 137 = .ok (.ireturn, 1) := by decide +kernel
set_option maxRecDepth 20000 in
theorem ggX2_remove_X2_presentEntry : GoodIn wsX2_remove wsX2_presentEntry := goodIn_ca (goodIn_r _ [5, 6, 7, 8, 9, 10, 4, 11, 12, 25, 26, 27, 28, 29, 30, 31, 32, 33, 17, 18, 19, 20, 21, 22, 23, 24] (by decide +kernel) (by decide +kernel)) (goodIn_sub (fun _ h => List.mem_cons_of_mem _ (List.mem_append_right _ h)) (by decide +kernel))
set_option maxRecDepth 20000 in
theorem gX2_remove_X2_presentEntry : GoodIn wsX2_remove (wsV RX2 75 RX2 yX2_presentEntry wsX2_presentEntry) := goodIn_app (goodIn_of _ (by decide +kernel)) ggX2_remove_X2_presentEntry
set_option maxRecDepth 20000 in
theorem ggX2_remove_X2_countEntries : GoodIn wsX2_remove wsX2_countEntries := goodIn_r _ [16, 12, 25, 26, 27, 28, 29, 30, 31, 32, 33, 17, 18, 19, 20, 21, 22, 23, 24] (by decide +kernel) (by decide +kernel)
set_option maxRecDepth 20000 in
theorem gX2_remove_X2_countEntries : GoodIn wsX2_remove (wsV RX2 83 RX2 yX2_countEntries wsX2_countEntries) := goodIn_app (goodIn_of _ (by decide +kernel)) ggX2_remove_X2_countEntries
theorem dX2_remove_0 : decode cX2_remove 0 = .ok (.aload_n 0, 1) := by decide +kernel
theorem dX2_remove_1 : decode cX2_remove 1 = .ok (.iload_n 1, 1) := by decide +kernel
theorem dX2_remove_2 : decode cX2_remove 2 = .ok (.invokevirtual 75, 3) := by decide +kernel
theorem dX2_remove_5 : decode cX2_remove 5 = .ok (.iconst 0, 1) := by decide +kernel
theorem dX2_remove_6 : decode cX2_remove 6 = .ok (.putfield 79, 3) := by decide +kernel
theorem dX2_remove_9 : decode cX2_remove 9 = .ok (.aload_n 0, 1) := by decide +kernel
theorem dX2_remove_10 : decode cX2_remove 10 = .ok (.invokevirtual 83, 3) := by decide +kernel
theorem dX2_remove_13 : decode cX2_remove 13 = .ok (.ireturn, 1) := by decide +kernel
set_option maxRecDepth 20000 in
theorem ggX2_edit_X2_presentEntry : GoodIn wsX2_edit wsX2_presentEntry := goodIn_ca (goodIn_r _ [7, 8, 9, 10, 11, 12, 6, 13, 14, 33, 34, 35, 36, 37, 38, 39, 40, 41, 25, 26, 27, 28, 29, 30, 31, 32] (by decide +kernel) (by decide +kernel)) (goodIn_sub (fun _ h => List.mem_cons_of_mem _ (List.mem_append_left _ (List.mem_append_right _ h))) (by decide +kernel))
set_option maxRecDepth 20000 in
theorem gX2_edit_X2_presentEntry : GoodIn wsX2_edit (wsV RX2 75 RX2 yX2_presentEntry wsX2_presentEntry) := goodIn_app (goodIn_of _ (by decide +kernel)) ggX2_edit_X2_presentEntry
set_option maxRecDepth 20000 in
theorem ggX2_edit_X2_isWithin : GoodIn wsX2_edit wsX2_isWithin := goodIn_r _ [17] (by decide +kernel) (by decide +kernel)
set_option maxRecDepth 20000 in
theorem gX2_edit_X2_isWithin : GoodIn wsX2_edit (va_wsS RX2 45 yX2_isWithin wsX2_isWithin) := goodIn_app (goodIn_of _ (by decide +kernel)) ggX2_edit_X2_isWithin
set_option maxRecDepth 20000 in
theorem ggX2_edit_X2_refuseIfLocked : GoodIn wsX2_edit wsX2_refuseIfLocked := goodIn_ca (goodIn_r _ [21, 22, 23, 24, 33, 34, 35, 36, 37, 38, 39, 40, 41, 42, 43, 44, 45, 46] (by decide +kernel) (by decide +kernel)) (goodIn_sub (fun _ h => List.mem_cons_of_mem _ (List.mem_append_right _ h)) (by decide +kernel))
set_option maxRecDepth 20000 in
theorem gX2_edit_X2_refuseIfLocked : GoodIn wsX2_edit (wsV RX2 89 RX2 yX2_refuseIfLocked wsX2_refuseIfLocked) := goodIn_app (goodIn_of _ (by decide +kernel)) ggX2_edit_X2_refuseIfLocked
theorem dX2_edit_0 : decode cX2_edit 0 = .ok (.aload_n 0, 1) := by decide +kernel
theorem dX2_edit_1 : decode cX2_edit 1 = .ok (.iload_n 1, 1) := by decide +kernel
theorem dX2_edit_2 : decode cX2_edit 2 = .ok (.invokevirtual 75, 3) := by decide +kernel
theorem dX2_edit_5 : decode cX2_edit 5 = .ok (.astore_n 3, 1) := by decide +kernel
theorem dX2_edit_6 : decode cX2_edit 6 = .ok (.iload_n 2, 1) := by decide +kernel
theorem dX2_edit_7 : decode cX2_edit 7 = .ok (.iconst 0, 1) := by decide +kernel
theorem dX2_edit_8 : decode cX2_edit 8 = .ok (.bipush 99, 2) := by decide +kernel
theorem dX2_edit_10 : decode cX2_edit 10 = .ok (.invokestatic 45, 3) := by decide +kernel
theorem dX2_edit_13 : decode cX2_edit 13 = .ok (.ifCond .ne 13, 3) := by decide +kernel
theorem dX2_edit_16 : decode cX2_edit 16 = .ok (.new 50, 3) := by decide +kernel
theorem dX2_edit_19 : decode cX2_edit 19 = .ok (.dup, 1) := by decide +kernel
theorem dX2_edit_20 : decode cX2_edit 20 = .ok (.ldc 87, 2) := by decide +kernel
theorem dX2_edit_22 : decode cX2_edit 22 = .ok (.invokespecial 54, 3) := by decide +kernel
theorem dX2_edit_25 : decode cX2_edit 25 = .ok (.athrow, 1) := by decide +kernel
theorem dX2_edit_26 : decode cX2_edit 26 = .ok (.aload_n 0, 1) := by decide +kernel
theorem dX2_edit_27 : decode cX2_edit 27 = .ok (.invokevirtual 89, 3) := by decide +kernel
theorem dX2_edit_30 : decode cX2_edit 30 = .ok (.aload_n 3, 1) := by decide +kernel
theorem dX2_edit_31 : decode cX2_edit 31 = .ok (.getfield 92, 3) := by decide +kernel
theorem dX2_edit_34 : decode cX2_edit 34 = .ok (.istore 4, 2) := by decide +kernel
theorem dX2_edit_36 : decode cX2_edit 36 = .ok (.aload_n 3, 1) := by decide +kernel
theorem dX2_edit_37 : decode cX2_edit 37 = .ok (.iload_n 2, 1) := by decide +kernel
theorem dX2_edit_38 : decode cX2_edit 38 = .ok (.putfield 92, 3) := by decide +kernel
theorem dX2_edit_41 : decode cX2_edit 41 = .ok (.iload 4, 2) := by decide +kernel
theorem dX2_edit_43 : decode cX2_edit 43 = .ok (.ireturn, 1) := by decide +kernel
set_option maxRecDepth 20000 in
theorem ggX2_choose_X2_refuseAsChoice : GoodIn wsX2_choose wsX2_refuseAsChoice := goodIn_ca (goodIn_r _ [6, 7, 8, 9, 10, 11, 5, 12, 13, 21, 22, 23, 24, 25, 26, 27, 28, 29, 30, 31, 32, 33, 34, 35, 36, 37] (by decide +kernel) (by decide +kernel)) (goodIn_sub (fun _ h => List.mem_cons_of_mem _ (List.mem_append_left _ (List.mem_append_right _ h))) (by decide +kernel))
set_option maxRecDepth 20000 in
theorem gX2_choose_X2_refuseAsChoice : GoodIn wsX2_choose (wsV RX2 95 RX2 yX2_refuseAsChoice wsX2_refuseAsChoice) := goodIn_app (goodIn_of _ (by decide +kernel)) ggX2_choose_X2_refuseAsChoice
set_option maxRecDepth 20000 in
theorem ggX2_choose_X2_refuseIfLocked : GoodIn wsX2_choose wsX2_refuseIfLocked := goodIn_ca (goodIn_r _ [17, 18, 19, 20, 21, 22, 23, 24, 25, 26, 27, 28, 29, 38, 39, 40, 41, 42] (by decide +kernel) (by decide +kernel)) (goodIn_sub (fun _ h => List.mem_cons_of_mem _ (List.mem_append_right _ h)) (by decide +kernel))
set_option maxRecDepth 20000 in
theorem gX2_choose_X2_refuseIfLocked : GoodIn wsX2_choose (wsV RX2 89 RX2 yX2_refuseIfLocked wsX2_refuseIfLocked) := goodIn_app (goodIn_of _ (by decide +kernel)) ggX2_choose_X2_refuseIfLocked
theorem dX2_choose_0 : decode cX2_choose 0 = .ok (.aload_n 0, 1) := by decide +kernel
theorem dX2_choose_1 : decode cX2_choose 1 = .ok (.iload_n 1, 1) := by decide +kernel
theorem dX2_choose_2 : decode cX2_choose 2 = .ok (.invokevirtual 95, 3) := by decide +kernel
theorem dX2_choose_5 : decode cX2_choose 5 = .ok (.aload_n 0, 1) := by decide +kernel
theorem dX2_choose_6 : decode cX2_choose 6 = .ok (.invokevirtual 89, 3) := by decide +kernel
theorem dX2_choose_9 : decode cX2_choose 9 = .ok (.aload_n 0, 1) := by decide +kernel
theorem dX2_choose_10 : decode cX2_choose 10 = .ok (.getfield 26, 3) := by decide +kernel
theorem dX2_choose_13 : decode cX2_choose 13 = .ok (.istore_n 2, 1) := by decide +kernel
theorem dX2_choose_14 : decode cX2_choose 14 = .ok (.aload_n 0, 1) := by decide +kernel
theorem dX2_choose_15 : decode cX2_choose 15 = .ok (.iload_n 1, 1) := by decide +kernel
theorem dX2_choose_16 : decode cX2_choose 16 = .ok (.putfield 26, 3) := by decide +kernel
theorem dX2_choose_19 : decode cX2_choose 19 = .ok (.iload_n 2, 1) := by decide +kernel
theorem dX2_choose_20 : decode cX2_choose 20 = .ok (.ireturn, 1) := by decide +kernel
set_option maxRecDepth 20000 in
theorem ggX2_chooseOnce_X2_refuseAsChoice : GoodIn wsX2_chooseOnce wsX2_refuseAsChoice := goodIn_ca (goodIn_r _ [6, 7, 8, 9, 10, 11, 5, 12, 13, 14, 15, 16, 17, 18, 19, 20, 21, 22, 23, 24, 25, 26, 27, 28, 29, 30] (by decide +kernel) (by decide +kernel)) (goodIn_sub (fun _ h => List.mem_cons_of_mem _ (List.mem_append_right _ h)) (by decide +kernel))
set_option maxRecDepth 20000 in
theorem gX2_chooseOnce_X2_refuseAsChoice : GoodIn wsX2_chooseOnce (wsV RX2 95 RX2 yX2_refuseAsChoice wsX2_refuseAsChoice) := goodIn_app (goodIn_of _ (by decide +kernel)) ggX2_chooseOnce_X2_refuseAsChoice
theorem dX2_chooseOnce_0 : decode cX2_chooseOnce 0 = .ok (.aload_n 0, 1) := by decide +kernel
theorem dX2_chooseOnce_1 : decode cX2_chooseOnce 1 = .ok (.iload_n 1, 1) := by decide +kernel
theorem dX2_chooseOnce_2 : decode cX2_chooseOnce 2 = .ok (.invokevirtual 95, 3) := by decide +kernel
theorem dX2_chooseOnce_5 : decode cX2_chooseOnce 5 = .ok (.aload_n 0, 1) := by decide +kernel
theorem dX2_chooseOnce_6 : decode cX2_chooseOnce 6 = .ok (.getfield 29, 3) := by decide +kernel
theorem dX2_chooseOnce_9 : decode cX2_chooseOnce 9 = .ok (.istore_n 2, 1) := by decide +kernel
theorem dX2_chooseOnce_10 : decode cX2_chooseOnce 10 = .ok (.aload_n 0, 1) := by decide +kernel
theorem dX2_chooseOnce_11 : decode cX2_chooseOnce 11 = .ok (.iload_n 1, 1) := by decide +kernel
theorem dX2_chooseOnce_12 : decode cX2_chooseOnce 12 = .ok (.putfield 29, 3) := by decide +kernel
theorem dX2_chooseOnce_15 : decode cX2_chooseOnce 15 = .ok (.iload_n 2, 1) := by decide +kernel
theorem dX2_chooseOnce_16 : decode cX2_chooseOnce 16 = .ok (.ireturn, 1) := by decide +kernel
set_option maxRecDepth 20000 in
theorem ggX2_setPattern_X2_isWithin : GoodIn wsX2_setPattern wsX2_isWithin := goodIn_r _ [8] (by decide +kernel) (by decide +kernel)
set_option maxRecDepth 20000 in
theorem gX2_setPattern_X2_isWithin : GoodIn wsX2_setPattern (va_wsS RX2 45 yX2_isWithin wsX2_isWithin) := goodIn_app (goodIn_of _ (by decide +kernel)) ggX2_setPattern_X2_isWithin
set_option maxRecDepth 20000 in
theorem ggX2_setPattern_X2_refuseIfLocked : GoodIn wsX2_setPattern wsX2_refuseIfLocked := goodIn_ca (goodIn_r _ [12, 13, 14, 15, 25, 26, 27, 28, 29, 30, 31, 32, 33, 34, 35, 36, 37, 38] (by decide +kernel) (by decide +kernel)) (goodIn_sub (fun _ h => List.mem_cons_of_mem _ (List.mem_append_right _ h)) (by decide +kernel))
set_option maxRecDepth 20000 in
theorem gX2_setPattern_X2_refuseIfLocked : GoodIn wsX2_setPattern (wsV RX2 89 RX2 yX2_refuseIfLocked wsX2_refuseIfLocked) := goodIn_app (goodIn_of _ (by decide +kernel)) ggX2_setPattern_X2_refuseIfLocked
set_option maxRecDepth 20000 in
theorem ggX2_setPattern_X2_countFitting : GoodIn wsX2_setPattern wsX2_countFitting := goodIn_r _ [19, 20, 21, 22, 23, 7, 24, 3, 4, 5, 6, 8, 25, 26, 27, 28, 29, 30, 31, 32, 33, 39, 40, 41, 42, 43, 44, 45, 46] (by decide +kernel) (by decide +kernel)
set_option maxRecDepth 20000 in
theorem gX2_setPattern_X2_countFitting : GoodIn wsX2_setPattern (wsV RX2 101 RX2 yX2_countFitting wsX2_countFitting) := goodIn_app (goodIn_of _ (by decide +kernel)) ggX2_setPattern_X2_countFitting
theorem dX2_setPattern_0 : decode cX2_setPattern 0 = .ok (.iload_n 1, 1) := by decide +kernel
theorem dX2_setPattern_1 : decode cX2_setPattern 1 = .ok (.iconst 0, 1) := by decide +kernel
theorem dX2_setPattern_2 : decode cX2_setPattern 2 = .ok (.bipush 99, 2) := by decide +kernel
theorem dX2_setPattern_4 : decode cX2_setPattern 4 = .ok (.invokestatic 45, 3) := by decide +kernel
theorem dX2_setPattern_7 : decode cX2_setPattern 7 = .ok (.ifCond .eq 13, 3) := by decide +kernel
theorem dX2_setPattern_10 : decode cX2_setPattern 10 = .ok (.iload_n 2, 1) := by decide +kernel
theorem dX2_setPattern_11 : decode cX2_setPattern 11 = .ok (.iload_n 1, 1) := by decide +kernel
theorem dX2_setPattern_12 : decode cX2_setPattern 12 = .ok (.bipush 99, 2) := by decide +kernel
theorem dX2_setPattern_14 : decode cX2_setPattern 14 = .ok (.invokestatic 45, 3) := by decide +kernel
theorem dX2_setPattern_17 : decode cX2_setPattern 17 = .ok (.ifCond .ne 13, 3) := by decide +kernel
theorem dX2_setPattern_20 : decode cX2_setPattern 20 = .ok (.new 50, 3) := by decide +kernel
theorem dX2_setPattern_23 : decode cX2_setPattern 23 = .ok (.dup, 1) := by decide +kernel
theorem dX2_setPattern_24 : decode cX2_setPattern 24 = .ok (.ldc 99, 2) := by decide +kernel
theorem dX2_setPattern_26 : decode cX2_setPattern 26 = .ok (.invokespecial 54, 3) := by decide +kernel
theorem dX2_setPattern_29 : decode cX2_setPattern 29 = .ok (.athrow, 1) := by decide +kernel
theorem dX2_setPattern_30 : decode cX2_setPattern 30 = .ok (.aload_n 0, 1) := by decide +kernel
theorem dX2_setPattern_31 : decode cX2_setPattern 31 = .ok (.invokevirtual 89, 3) := by decide +kernel
theorem dX2_setPattern_34 : decode cX2_setPattern 34 = .ok (.aload_n 0, 1) := by decide +kernel
theorem dX2_setPattern_35 : decode cX2_setPattern 35 = .ok (.iload_n 1, 1) := by decide +kernel
theorem dX2_setPattern_36 : decode cX2_setPattern 36 = .ok (.putfield 32, 3) := by decide +kernel
theorem dX2_setPattern_39 : decode cX2_setPattern 39 = .ok (.aload_n 0, 1) := by decide +kernel
theorem dX2_setPattern_40 : decode cX2_setPattern 40 = .ok (.iload_n 2, 1) := by decide +kernel
theorem dX2_setPattern_41 : decode cX2_setPattern 41 = .ok (.putfield 35, 3) := by decide +kernel
theorem dX2_setPattern_44 : decode cX2_setPattern 44 = .ok (.aload_n 0, 1) := by decide +kernel
theorem dX2_setPattern_45 : decode cX2_setPattern 45 = .ok (.invokevirtual 101, 3) := by decide +kernel
theorem dX2_setPattern_48 : decode cX2_setPattern 48 = .ok (.ireturn, 1) := by decide +kernel
set_option maxRecDepth 20000 in
theorem ggX2_start_X2_nextEntry : GoodIn wsX2_start wsX2_nextEntry := goodIn_r _ [11, 4, 12, 13, 14, 15, 10, 16, 17, 18, 19, 20, 21, 22, 23, 24, 25, 26, 27, 28, 29, 30, 31, 32, 33, 34, 35, 36, 37, 38, 39, 40, 41, 42, 43, 44, 45, 46, 47, 48, 49, 50, 51, 52, 53, 54, 55, 56, 57, 58, 59, 60, 78, 79, 80, 81, 82, 83, 84, 85, 86, 87, 88, 89, 90, 91, 92, 93, 94] (by decide +kernel) (by decide +kernel)
set_option maxRecDepth 20000 in
theorem gX2_start_X2_nextEntry : GoodIn wsX2_start (wsV RX2 104 RX2 yX2_nextEntry wsX2_nextEntry) := goodIn_app (goodIn_of _ (by decide +kernel)) ggX2_start_X2_nextEntry
set_option maxRecDepth 20000 in
theorem ggX2_start_X2_measure : GoodIn wsX2_start wsX2_measure := goodIn_r _ [64, 6, 65, 66, 67, 10, 68, 69, 78, 79, 80, 81, 82, 83, 84, 85, 86, 95, 96, 97, 98, 99, 87, 88, 89, 90, 91, 92, 93, 94] (by decide +kernel) (by decide +kernel)
set_option maxRecDepth 20000 in
theorem gX2_start_X2_measure : GoodIn wsX2_start (wsV RX2 109 RX2 yX2_measure wsX2_measure) := goodIn_app (goodIn_of _ (by decide +kernel)) ggX2_start_X2_measure
set_option maxRecDepth 20000 in
theorem ggX2_start_X1_useTry : GoodIn wsX2_start wsX1_useTry := goodIn_r _ [72, 22, 87, 88, 89, 90, 91, 92, 93, 94] (by decide +kernel) (by decide +kernel)
set_option maxRecDepth 20000 in
theorem gX2_start_X1_useTry_n113 : GoodIn wsX2_start (wsX1_useTry) := ggX2_start_X1_useTry
set_option maxRecDepth 20000 in
theorem ggX2_start_X0_forgetDigits : GoodIn wsX2_start wsX0_forgetDigits := goodIn_r _ [76, 77, 95, 96, 97, 98, 99] (by decide +kernel) (by decide +kernel)
set_option maxRecDepth 20000 in
theorem gX2_start_X0_forgetDigits_n116 : GoodIn wsX2_start (wsX0_forgetDigits) := ggX2_start_X0_forgetDigits
theorem dX2_start_0 : decode cX2_start 0 = .ok (.aload_n 0, 1) := by decide +kernel
theorem dX2_start_1 : decode cX2_start 1 = .ok (.invokevirtual 104, 3) := by decide +kernel
theorem dX2_start_4 : decode cX2_start 4 = .ok (.astore_n 1, 1) := by decide +kernel
theorem dX2_start_5 : decode cX2_start 5 = .ok (.aload_n 1, 1) := by decide +kernel
theorem dX2_start_6 : decode cX2_start 6 = .ok (.ifnonnull 13, 3) := by decide +kernel
theorem dX2_start_9 : decode cX2_start 9 = .ok (.new 63, 3) := by decide +kernel
theorem dX2_start_12 : decode cX2_start 12 = .ok (.dup, 1) := by decide +kernel
theorem dX2_start_13 : decode cX2_start 13 = .ok (.ldc 107, 2) := by decide +kernel
theorem dX2_start_15 : decode cX2_start 15 = .ok (.invokespecial 67, 3) := by decide +kernel
theorem dX2_start_18 : decode cX2_start 18 = .ok (.athrow, 1) := by decide +kernel
theorem dX2_start_19 : decode cX2_start 19 = .ok (.aload_n 0, 1) := by decide +kernel
theorem dX2_start_20 : decode cX2_start 20 = .ok (.aload_n 0, 1) := by decide +kernel
theorem dX2_start_21 : decode cX2_start 21 = .ok (.aload_n 1, 1) := by decide +kernel
theorem dX2_start_22 : decode cX2_start 22 = .ok (.invokevirtual 109, 3) := by decide +kernel
theorem dX2_start_25 : decode cX2_start 25 = .ok (.putfield 41, 3) := by decide +kernel
theorem dX2_start_28 : decode cX2_start 28 = .ok (.aload_n 0, 1) := by decide +kernel
theorem dX2_start_29 : decode cX2_start 29 = .ok (.iconst (-1), 1) := by decide +kernel
theorem dX2_start_30 : decode cX2_start 30 = .ok (.putfield 29, 3) := by decide +kernel
theorem dX2_start_33 : decode cX2_start 33 = .ok (.aload_n 0, 1) := by decide +kernel
theorem dX2_start_34 : decode cX2_start 34 = .ok (.aload_n 1, 1) := by decide +kernel
theorem dX2_start_35 : decode cX2_start 35 = .ok (.getfield 72, 3) := by decide +kernel
theorem dX2_start_38 : decode cX2_start 38 = .ok (.putfield 38, 3) := by decide +kernel
theorem dX2_start_41 : decode cX2_start 41 = .ok (.aload_n 1, 1) := by decide +kernel
theorem dX2_start_42 : decode cX2_start 42 = .ok (.invokevirtual 113, 3) := by decide +kernel
theorem dX2_start_45 : decode cX2_start 45 = .ok (.aload_n 0, 1) := by decide +kernel
theorem dX2_start_46 : decode cX2_start 46 = .ok (.getfield 18, 3) := by decide +kernel
theorem dX2_start_49 : decode cX2_start 49 = .ok (.invokevirtual 116, 3) := by decide +kernel
theorem dX2_start_52 : decode cX2_start 52 = .ok (.aload_n 1, 1) := by decide +kernel
theorem dX2_start_53 : decode cX2_start 53 = .ok (.getfield 72, 3) := by decide +kernel
theorem dX2_start_56 : decode cX2_start 56 = .ok (.ireturn, 1) := by decide +kernel
set_option maxRecDepth 20000 in
theorem ggX2_good_X2_findEntry : GoodIn wsX2_good wsX2_findEntry := goodIn_r _ [8, 9, 10, 11, 12, 13, 14, 15, 16, 17, 18, 19, 20, 21, 22, 23, 24, 25, 26] (by decide +kernel) (by decide +kernel)
set_option maxRecDepth 20000 in
theorem gX2_good_X2_findEntry : GoodIn wsX2_good (wsV RX2 121 RX2 yX2_findEntry wsX2_findEntry) := goodIn_app (goodIn_of _ (by decide +kernel)) ggX2_good_X2_findEntry
theorem dX2_good_0 : decode cX2_good 0 = .ok (.aload_n 0, 1) := by decide +kernel
theorem dX2_good_1 : decode cX2_good 1 = .ok (.getfield 38, 3) := by decide +kernel
theorem dX2_good_4 : decode cX2_good 4 = .ok (.iconst (-1), 1) := by decide +kernel
theorem dX2_good_5 : decode cX2_good 5 = .ok (.if_icmp .ne 13, 3) := by decide +kernel
theorem dX2_good_8 : decode cX2_good 8 = .ok (.new 63, 3) := by decide +kernel
theorem dX2_good_11 : decode cX2_good 11 = .ok (.dup, 1) := by decide +kernel
theorem dX2_good_12 : decode cX2_good 12 = .ok (.ldc 119, 2) := by decide +kernel
theorem dX2_good_14 : decode cX2_good 14 = .ok (.invokespecial 67, 3) := by decide +kernel
theorem dX2_good_17 : decode cX2_good 17 = .ok (.athrow, 1) := by decide +kernel
theorem dX2_good_18 : decode cX2_good 18 = .ok (.aload_n 0, 1) := by decide +kernel
theorem dX2_good_19 : decode cX2_good 19 = .ok (.aload_n 0, 1) := by decide +kernel
theorem dX2_good_20 : decode cX2_good 20 = .ok (.getfield 38, 3) := by decide +kernel
theorem dX2_good_23 : decode cX2_good 23 = .ok (.invokevirtual 121, 3) := by decide +kernel
theorem dX2_good_26 : decode cX2_good 26 = .ok (.astore_n 1, 1) := by decide +kernel
theorem dX2_good_27 : decode cX2_good 27 = .ok (.aload_n 1, 1) := by decide +kernel
theorem dX2_good_28 : decode cX2_good 28 = .ok (.ifnonnull 5, 3) := by decide +kernel
theorem dX2_good_31 : decode cX2_good 31 = .ok (.iconst (-1), 1) := by decide +kernel
theorem dX2_good_32 : decode cX2_good 32 = .ok (.ireturn, 1) := by decide +kernel
theorem dX2_good_33 : decode cX2_good 33 = .ok (.aload_n 1, 1) := by decide +kernel
theorem dX2_good_34 : decode cX2_good 34 = .ok (.getfield 124, 3) := by decide +kernel
theorem dX2_good_37 : decode cX2_good 37 = .ok (.istore_n 2, 1) := by decide +kernel
theorem dX2_good_38 : decode cX2_good 38 = .ok (.aload_n 1, 1) := by decide +kernel
theorem dX2_good_39 : decode cX2_good 39 = .ok (.iconst (-1), 1) := by decide +kernel
theorem dX2_good_40 : decode cX2_good 40 = .ok (.putfield 124, 3) := by decide +kernel
theorem dX2_good_43 : decode cX2_good 43 = .ok (.iload_n 2, 1) := by decide +kernel
theorem dX2_good_44 : decode cX2_good 44 = .ok (.ireturn, 1) := by decide +kernel
theorem dX2_running_0 : decode cX2_running 0 = .ok (.aload_n 0, 1) := by decide +kernel
theorem dX2_running_1 : decode cX2_running 1 = .ok (.getfield 38, 3) := by decide +kernel
theorem dX2_running_4 : decode cX2_running 4 = .ok (.ireturn, 1) := by decide +kernel
set_option maxRecDepth 20000 in
theorem ggX2_next_X2_nextEntry : GoodIn wsX2_next wsX2_nextEntry := goodIn_r _ [5, 6, 7, 8, 9, 10, 4, 11, 12, 13, 14, 15, 16, 17, 18, 19, 20, 21, 22, 23, 24, 25, 26, 27, 28, 29, 30, 31, 32, 33, 34, 35, 36, 37, 38, 39, 40, 41, 42, 43, 44, 45, 46, 47, 48, 49, 50, 51, 52, 53, 54, 55, 64, 65, 66, 67, 68, 69, 70, 71, 72, 56, 57, 58, 59, 60, 61, 62, 63] (by decide +kernel) (by decide +kernel)
set_option maxRecDepth 20000 in
theorem gX2_next_X2_nextEntry : GoodIn wsX2_next (wsV RX2 104 RX2 yX2_nextEntry wsX2_nextEntry) := goodIn_app (goodIn_of _ (by decide +kernel)) ggX2_next_X2_nextEntry
theorem dX2_next_0 : decode cX2_next 0 = .ok (.aload_n 0, 1) := by decide +kernel
theorem dX2_next_1 : decode cX2_next 1 = .ok (.invokevirtual 104, 3) := by decide +kernel
theorem dX2_next_4 : decode cX2_next 4 = .ok (.astore_n 1, 1) := by decide +kernel
theorem dX2_next_5 : decode cX2_next 5 = .ok (.aload_n 1, 1) := by decide +kernel
theorem dX2_next_6 : decode cX2_next 6 = .ok (.ifnonnull 7, 3) := by decide +kernel
theorem dX2_next_9 : decode cX2_next 9 = .ok (.iconst (-1), 1) := by decide +kernel
theorem dX2_next_10 : decode cX2_next 10 = .ok (.goto 7, 3) := by decide +kernel
theorem dX2_next_13 : decode cX2_next 13 = .ok (.aload_n 1, 1) := by decide +kernel
theorem dX2_next_14 : decode cX2_next 14 = .ok (.getfield 72, 3) := by decide +kernel
theorem dX2_next_17 : decode cX2_next 17 = .ok (.ireturn, 1) := by decide +kernel
set_option maxRecDepth 20000 in
theorem ggX2_lock_X2_isWithin : GoodIn wsX2_lock wsX2_isWithin := goodIn_r _ [7] (by decide +kernel) (by decide +kernel)
set_option maxRecDepth 20000 in
theorem gX2_lock_X2_isWithin : GoodIn wsX2_lock (va_wsS RX2 45 yX2_isWithin wsX2_isWithin) := goodIn_app (goodIn_of _ (by decide +kernel)) ggX2_lock_X2_isWithin
set_option maxRecDepth 20000 in
theorem ggX2_lock_X2_highestCode : GoodIn wsX2_lock wsX2_highestCode := goodIn_r _ [10] (by decide +kernel) (by decide +kernel)
set_option maxRecDepth 20000 in
theorem gX2_lock_X2_highestCode : GoodIn wsX2_lock (va_wsS RX2 129 yX2_highestCode wsX2_highestCode) := goodIn_app (goodIn_of _ (by decide +kernel)) ggX2_lock_X2_highestCode
set_option maxRecDepth 20000 in
theorem ggX2_lock_X2_refuseIfLocked : GoodIn wsX2_lock wsX2_refuseIfLocked := goodIn_ca (goodIn_r _ [14, 15, 16, 3, 29, 30, 31, 32, 33, 34, 35, 36, 37, 38, 39, 40, 41, 42] (by decide +kernel) (by decide +kernel)) (goodIn_sub (fun _ h => List.mem_cons_of_mem _ (List.mem_append_right _ h)) (by decide +kernel))
set_option maxRecDepth 20000 in
theorem gX2_lock_X2_refuseIfLocked : GoodIn wsX2_lock (wsV RX2 89 RX2 yX2_refuseIfLocked wsX2_refuseIfLocked) := goodIn_app (goodIn_of _ (by decide +kernel)) ggX2_lock_X2_refuseIfLocked
set_option maxRecDepth 20000 in
theorem ggX2_lock_X0_close : GoodIn wsX2_lock wsX0_close := goodIn_r _ [20, 21, 22, 23, 24, 25, 26, 18, 27, 28, 38, 39, 40, 41, 42] (by decide +kernel) (by decide +kernel)
set_option maxRecDepth 20000 in
theorem gX2_lock_X0_close_n135 : GoodIn wsX2_lock (wsX0_close) := ggX2_lock_X0_close
theorem dX2_lock_0 : decode cX2_lock 0 = .ok (.iload_n 2, 1) := by decide +kernel
theorem dX2_lock_1 : decode cX2_lock 1 = .ok (.iconst 1, 1) := by decide +kernel
theorem dX2_lock_2 : decode cX2_lock 2 = .ok (.bipush 6, 2) := by decide +kernel
theorem dX2_lock_4 : decode cX2_lock 4 = .ok (.invokestatic 45, 3) := by decide +kernel
theorem dX2_lock_7 : decode cX2_lock 7 = .ok (.ifCond .ne 13, 3) := by decide +kernel
theorem dX2_lock_10 : decode cX2_lock 10 = .ok (.new 50, 3) := by decide +kernel
theorem dX2_lock_13 : decode cX2_lock 13 = .ok (.dup, 1) := by decide +kernel
theorem dX2_lock_14 : decode cX2_lock 14 = .ok (.ldc 127, 2) := by decide +kernel
theorem dX2_lock_16 : decode cX2_lock 16 = .ok (.invokespecial 54, 3) := by decide +kernel
theorem dX2_lock_19 : decode cX2_lock 19 = .ok (.athrow, 1) := by decide +kernel
theorem dX2_lock_20 : decode cX2_lock 20 = .ok (.iload_n 1, 1) := by decide +kernel
theorem dX2_lock_21 : decode cX2_lock 21 = .ok (.iconst 0, 1) := by decide +kernel
theorem dX2_lock_22 : decode cX2_lock 22 = .ok (.iload_n 2, 1) := by decide +kernel
theorem dX2_lock_23 : decode cX2_lock 23 = .ok (.invokestatic 129, 3) := by decide +kernel
theorem dX2_lock_26 : decode cX2_lock 26 = .ok (.invokestatic 45, 3) := by decide +kernel
theorem dX2_lock_29 : decode cX2_lock 29 = .ok (.ifCond .ne 13, 3) := by decide +kernel
theorem dX2_lock_32 : decode cX2_lock 32 = .ok (.new 50, 3) := by decide +kernel
theorem dX2_lock_35 : decode cX2_lock 35 = .ok (.dup, 1) := by decide +kernel
theorem dX2_lock_36 : decode cX2_lock 36 = .ok (.ldc 133, 2) := by decide +kernel
theorem dX2_lock_38 : decode cX2_lock 38 = .ok (.invokespecial 54, 3) := by decide +kernel
theorem dX2_lock_41 : decode cX2_lock 41 = .ok (.athrow, 1) := by decide +kernel
theorem dX2_lock_42 : decode cX2_lock 42 = .ok (.aload_n 0, 1) := by decide +kernel
theorem dX2_lock_43 : decode cX2_lock 43 = .ok (.invokevirtual 89, 3) := by decide +kernel
theorem dX2_lock_46 : decode cX2_lock 46 = .ok (.aload_n 0, 1) := by decide +kernel
theorem dX2_lock_47 : decode cX2_lock 47 = .ok (.getfield 18, 3) := by decide +kernel
theorem dX2_lock_50 : decode cX2_lock 50 = .ok (.iload_n 1, 1) := by decide +kernel
theorem dX2_lock_51 : decode cX2_lock 51 = .ok (.iload_n 2, 1) := by decide +kernel
theorem dX2_lock_52 : decode cX2_lock 52 = .ok (.invokevirtual 135, 3) := by decide +kernel
theorem dX2_lock_55 : decode cX2_lock 55 = .ok (.return_, 1) := by decide +kernel
set_option maxRecDepth 20000 in
theorem ggX2_enter_X2_isWithin : GoodIn wsX2_enter wsX2_isWithin := goodIn_r _ [7] (by decide +kernel) (by decide +kernel)
set_option maxRecDepth 20000 in
theorem gX2_enter_X2_isWithin : GoodIn wsX2_enter (va_wsS RX2 45 yX2_isWithin wsX2_isWithin) := goodIn_app (goodIn_of _ (by decide +kernel)) ggX2_enter_X2_isWithin
set_option maxRecDepth 20000 in
theorem ggX2_enter_X0_takeDigit : GoodIn wsX2_enter wsX0_takeDigit := goodIn_ca (goodIn_r _ [11, 12, 13, 14, 15, 16, 17, 18, 19, 9, 20, 21, 22, 32, 33, 34, 35, 36] (by decide +kernel) (by decide +kernel)) (goodIn_sub (fun _ h => List.mem_cons_of_mem _ (List.mem_append_right _ h)) (by decide +kernel))
set_option maxRecDepth 20000 in
theorem gX2_enter_X0_takeDigit_n141 : GoodIn wsX2_enter (wsX0_takeDigit) := ggX2_enter_X0_takeDigit
theorem dX2_enter_0 : decode cX2_enter 0 = .ok (.iload_n 1, 1) := by decide +kernel
theorem dX2_enter_1 : decode cX2_enter 1 = .ok (.iconst 0, 1) := by decide +kernel
theorem dX2_enter_2 : decode cX2_enter 2 = .ok (.bipush 9, 2) := by decide +kernel
theorem dX2_enter_4 : decode cX2_enter 4 = .ok (.invokestatic 45, 3) := by decide +kernel
theorem dX2_enter_7 : decode cX2_enter 7 = .ok (.ifCond .ne 13, 3) := by decide +kernel
theorem dX2_enter_10 : decode cX2_enter 10 = .ok (.new 50, 3) := by decide +kernel
theorem dX2_enter_13 : decode cX2_enter 13 = .ok (.dup, 1) := by decide +kernel
theorem dX2_enter_14 : decode cX2_enter 14 = .ok (.ldc 139, 2) := by decide +kernel
theorem dX2_enter_16 : decode cX2_enter 16 = .ok (.invokespecial 54, 3) := by decide +kernel
theorem dX2_enter_19 : decode cX2_enter 19 = .ok (.athrow, 1) := by decide +kernel
theorem dX2_enter_20 : decode cX2_enter 20 = .ok (.aload_n 0, 1) := by decide +kernel
theorem dX2_enter_21 : decode cX2_enter 21 = .ok (.getfield 18, 3) := by decide +kernel
theorem dX2_enter_24 : decode cX2_enter 24 = .ok (.iload_n 1, 1) := by decide +kernel
theorem dX2_enter_25 : decode cX2_enter 25 = .ok (.invokevirtual 141, 3) := by decide +kernel
theorem dX2_enter_28 : decode cX2_enter 28 = .ok (.ireturn, 1) := by decide +kernel
theorem dX2_isLocked_0 : decode cX2_isLocked 0 = .ok (.aload_n 0, 1) := by decide +kernel
theorem dX2_isLocked_1 : decode cX2_isLocked 1 = .ok (.getfield 18, 3) := by decide +kernel
theorem dX2_isLocked_4 : decode cX2_isLocked 4 = .ok (.getfield 145, 3) := by decide +kernel
theorem dX2_isLocked_7 : decode cX2_isLocked 7 = .ok (.ireturn, 1) := by decide +kernel
set_option maxRecDepth 20000 in
theorem ggX2_entries_X2_countEntries : GoodIn wsX2_entries wsX2_countEntries := goodIn_r _ [5, 6, 7, 8, 9, 10, 11, 12, 13, 14, 15, 16, 17, 18, 19, 20, 21, 22, 23] (by decide +kernel) (by decide +kernel)
set_option maxRecDepth 20000 in
theorem gX2_entries_X2_countEntries : GoodIn wsX2_entries (wsV RX2 83 RX2 yX2_countEntries wsX2_countEntries) := goodIn_app (goodIn_of _ (by decide +kernel)) ggX2_entries_X2_countEntries
theorem dX2_entries_0 : decode cX2_entries 0 = .ok (.aload_n 0, 1) := by decide +kernel
theorem dX2_entries_1 : decode cX2_entries 1 = .ok (.invokevirtual 83, 3) := by decide +kernel
theorem dX2_entries_4 : decode cX2_entries 4 = .ok (.ireturn, 1) := by decide +kernel
set_option maxRecDepth 20000 in
theorem ggX2_at_X2_entryWithPlace : GoodIn wsX2_at wsX2_entryWithPlace := goodIn_r _ [7, 8, 9, 10, 11, 6, 12, 13, 14, 15, 16, 17, 18, 19, 20, 21, 22, 23, 24, 25, 26, 27, 28, 29, 30, 31, 32, 33, 34, 43, 44, 45, 46, 47, 48, 49, 50, 51, 35, 36, 37, 38, 39, 40, 41, 42] (by decide +kernel) (by decide +kernel)
set_option maxRecDepth 20000 in
theorem gX2_at_X2_entryWithPlace : GoodIn wsX2_at (wsV RX2 148 RX2 yX2_entryWithPlace wsX2_entryWithPlace) := goodIn_app (goodIn_of _ (by decide +kernel)) ggX2_at_X2_entryWithPlace
theorem dX2_at_0 : decode cX2_at 0 = .ok (.aload_n 0, 1) := by decide +kernel
theorem dX2_at_1 : decode cX2_at 1 = .ok (.iload_n 1, 1) := by decide +kernel
theorem dX2_at_2 : decode cX2_at 2 = .ok (.invokevirtual 148, 3) := by decide +kernel
theorem dX2_at_5 : decode cX2_at 5 = .ok (.astore_n 2, 1) := by decide +kernel
theorem dX2_at_6 : decode cX2_at 6 = .ok (.aload_n 2, 1) := by decide +kernel
theorem dX2_at_7 : decode cX2_at 7 = .ok (.ifnonnull 13, 3) := by decide +kernel
theorem dX2_at_10 : decode cX2_at 10 = .ok (.new 151, 3) := by decide +kernel
theorem dX2_at_13 : decode cX2_at 13 = .ok (.dup, 1) := by decide +kernel
theorem dX2_at_14 : decode cX2_at 14 = .ok (.ldc 153, 2) := by decide +kernel
theorem dX2_at_16 : decode cX2_at 16 = .ok (.invokespecial 155, 3) := by decide +kernel
theorem dX2_at_19 : decode cX2_at 19 = .ok (.athrow, 1) := by decide +kernel
theorem dX2_at_20 : decode cX2_at 20 = .ok (.aload_n 2, 1) := by decide +kernel
theorem dX2_at_21 : decode cX2_at 21 = .ok (.getfield 72, 3) := by decide +kernel
theorem dX2_at_24 : decode cX2_at 24 = .ok (.ireturn, 1) := by decide +kernel
set_option maxRecDepth 20000 in
theorem ggX2_placeOf_X2_presentEntry : GoodIn wsX2_placeOf wsX2_presentEntry := goodIn_ca (goodIn_r _ [5, 6, 7, 8, 9, 10, 4, 11, 12, 39, 40, 41, 42, 43, 44, 45, 46, 47, 48, 49, 50, 51, 52, 53, 54, 55] (by decide +kernel) (by decide +kernel)) (goodIn_sub (fun _ h => List.mem_cons_of_mem _ (List.mem_append_right _ h)) (by decide +kernel))
set_option maxRecDepth 20000 in
theorem gX2_placeOf_X2_presentEntry : GoodIn wsX2_placeOf (wsV RX2 75 RX2 yX2_presentEntry wsX2_presentEntry) := goodIn_app (goodIn_of _ (by decide +kernel)) ggX2_placeOf_X2_presentEntry
set_option maxRecDepth 20000 in
theorem ggX2_placeOf_X2_countAhead : GoodIn wsX2_placeOf wsX2_countAhead := goodIn_r _ [16, 12, 17, 18, 19, 20, 21, 22, 23, 24, 25, 26, 27, 28, 29, 30, 31, 32, 33, 34, 35, 36, 37, 38, 39, 40, 41, 42, 43, 44, 45, 46, 47, 48, 49, 50, 51, 52, 53, 54, 55] (by decide +kernel) (by decide +kernel)
set_option maxRecDepth 20000 in
theorem gX2_placeOf_X2_countAhead : GoodIn wsX2_placeOf (wsV RX2 156 RX2 yX2_countAhead wsX2_countAhead) := goodIn_app (goodIn_of _ (by decide +kernel)) ggX2_placeOf_X2_countAhead
theorem dX2_placeOf_0 : decode cX2_placeOf 0 = .ok (.aload_n 0, 1) := by decide +kernel
theorem dX2_placeOf_1 : decode cX2_placeOf 1 = .ok (.aload_n 0, 1) := by decide +kernel
theorem dX2_placeOf_2 : decode cX2_placeOf 2 = .ok (.iload_n 1, 1) := by decide +kernel
theorem dX2_placeOf_3 : decode cX2_placeOf 3 = .ok (.invokevirtual 75, 3) := by decide +kernel
theorem dX2_placeOf_6 : decode cX2_placeOf 6 = .ok (.invokevirtual 156, 3) := by decide +kernel
theorem dX2_placeOf_9 : decode cX2_placeOf 9 = .ok (.ireturn, 1) := by decide +kernel
set_option maxRecDepth 20000 in
theorem ggX2_tries_X2_presentEntry : GoodIn wsX2_tries wsX2_presentEntry := goodIn_ca (goodIn_r _ [5, 6, 7, 8, 9, 10, 4, 11, 12, 21, 22, 23, 24, 25, 26, 27, 28, 29, 13, 14, 15, 16, 17, 18, 19, 20] (by decide +kernel) (by decide +kernel)) (goodIn_sub (fun _ h => List.mem_cons_of_mem _ (List.mem_append_right _ h)) (by decide +kernel))
set_option maxRecDepth 20000 in
theorem gX2_tries_X2_presentEntry : GoodIn wsX2_tries (wsV RX2 75 RX2 yX2_presentEntry wsX2_presentEntry) := goodIn_app (goodIn_of _ (by decide +kernel)) ggX2_tries_X2_presentEntry
theorem dX2_tries_0 : decode cX2_tries 0 = .ok (.aload_n 0, 1) := by decide +kernel
theorem dX2_tries_1 : decode cX2_tries 1 = .ok (.iload_n 1, 1) := by decide +kernel
theorem dX2_tries_2 : decode cX2_tries 2 = .ok (.invokevirtual 75, 3) := by decide +kernel
theorem dX2_tries_5 : decode cX2_tries 5 = .ok (.getfield 124, 3) := by decide +kernel
theorem dX2_tries_8 : decode cX2_tries 8 = .ok (.ireturn, 1) := by decide +kernel
set_option maxRecDepth 20000 in
theorem ggX2_compare_X2_presentEntry : GoodIn wsX2_compare wsX2_presentEntry := goodIn_ca (goodIn_r _ [5, 6, 7, 8, 9, 10, 4, 11, 12, 23, 24, 25, 26, 27, 28, 29, 30, 31, 32, 33, 34, 35, 36, 37, 38, 39] (by decide +kernel) (by decide +kernel)) (goodIn_sub (fun _ h => List.mem_cons_of_mem _ (List.mem_append_right _ h)) (by decide +kernel))
set_option maxRecDepth 20000 in
theorem gX2_compare_X2_presentEntry : GoodIn wsX2_compare (wsV RX2 75 RX2 yX2_presentEntry wsX2_presentEntry) := goodIn_app (goodIn_of _ (by decide +kernel)) ggX2_compare_X2_presentEntry
set_option maxRecDepth 20000 in
theorem ggX2_compare_X1_compareVersion : GoodIn wsX2_compare wsX1_compareVersion := goodIn_r _ [16, 17, 18, 19, 20, 21, 22, 32, 33, 34, 35, 36, 37, 38, 39] (by decide +kernel) (by decide +kernel)
set_option maxRecDepth 20000 in
theorem gX2_compare_X1_compareVersion_n159 : GoodIn wsX2_compare (wsX1_compareVersion) := ggX2_compare_X1_compareVersion
theorem dX2_compare_0 : decode cX2_compare 0 = .ok (.aload_n 0, 1) := by decide +kernel
theorem dX2_compare_1 : decode cX2_compare 1 = .ok (.iload_n 1, 1) := by decide +kernel
theorem dX2_compare_2 : decode cX2_compare 2 = .ok (.invokevirtual 75, 3) := by decide +kernel
theorem dX2_compare_5 : decode cX2_compare 5 = .ok (.astore_n 3, 1) := by decide +kernel
theorem dX2_compare_6 : decode cX2_compare 6 = .ok (.aload_n 0, 1) := by decide +kernel
theorem dX2_compare_7 : decode cX2_compare 7 = .ok (.iload_n 2, 1) := by decide +kernel
theorem dX2_compare_8 : decode cX2_compare 8 = .ok (.invokevirtual 75, 3) := by decide +kernel
theorem dX2_compare_11 : decode cX2_compare 11 = .ok (.astore 4, 2) := by decide +kernel
theorem dX2_compare_13 : decode cX2_compare 13 = .ok (.aload_n 3, 1) := by decide +kernel
theorem dX2_compare_14 : decode cX2_compare 14 = .ok (.aload 4, 2) := by decide +kernel
theorem dX2_compare_16 : decode cX2_compare 16 = .ok (.invokevirtual 159, 3) := by decide +kernel
theorem dX2_compare_19 : decode cX2_compare 19 = .ok (.ireturn, 1) := by decide +kernel
set_option maxRecDepth 20000 in
theorem ggX2_foretold_X2_presentEntry : GoodIn wsX2_foretold wsX2_presentEntry := goodIn_ca (goodIn_r _ [5, 6, 7, 8, 9, 10, 4, 11, 12, 23, 24, 25, 26, 27, 28, 29, 30, 31, 32, 33, 34, 35, 36, 37, 38, 39] (by decide +kernel) (by decide +kernel)) (goodIn_sub (fun _ h => List.mem_cons_of_mem _ (List.mem_append_right _ h)) (by decide +kernel))
set_option maxRecDepth 20000 in
theorem gX2_foretold_X2_presentEntry : GoodIn wsX2_foretold (wsV RX2 75 RX2 yX2_presentEntry wsX2_presentEntry) := goodIn_app (goodIn_of _ (by decide +kernel)) ggX2_foretold_X2_presentEntry
set_option maxRecDepth 20000 in
theorem ggX2_foretold_X2_measure : GoodIn wsX2_foretold wsX2_measure := goodIn_r _ [16, 17, 18, 19, 20, 4, 21, 22, 23, 24, 25, 26, 27, 28, 29, 30, 31, 40, 41, 42, 43, 44, 32, 33, 34, 35, 36, 37, 38, 39] (by decide +kernel) (by decide +kernel)
set_option maxRecDepth 20000 in
theorem gX2_foretold_X2_measure : GoodIn wsX2_foretold (wsV RX2 109 RX2 yX2_measure wsX2_measure) := goodIn_app (goodIn_of _ (by decide +kernel)) ggX2_foretold_X2_measure
theorem dX2_foretold_0 : decode cX2_foretold 0 = .ok (.aload_n 0, 1) := by decide +kernel
theorem dX2_foretold_1 : decode cX2_foretold 1 = .ok (.aload_n 0, 1) := by decide +kernel
theorem dX2_foretold_2 : decode cX2_foretold 2 = .ok (.iload_n 1, 1) := by decide +kernel
theorem dX2_foretold_3 : decode cX2_foretold 3 = .ok (.invokevirtual 75, 3) := by decide +kernel
theorem dX2_foretold_6 : decode cX2_foretold 6 = .ok (.invokevirtual 109, 3) := by decide +kernel
theorem dX2_foretold_9 : decode cX2_foretold 9 = .ok (.ireturn, 1) := by decide +kernel
theorem dX2_register_0 : decode cX2_register 0 = .ok (.aload_n 0, 1) := by decide +kernel
theorem dX2_register_1 : decode cX2_register 1 = .ok (.getfield 41, 3) := by decide +kernel
theorem dX2_register_4 : decode cX2_register 4 = .ok (.ireturn, 1) := by decide +kernel
set_option maxRecDepth 20000 in
theorem ggX2_presentEntry_X2_findEntry : GoodIn wsX2_presentEntry wsX2_findEntry := goodIn_r _ [7, 8, 9, 10, 11, 12, 13, 14, 15, 16, 17, 18, 19, 20, 21, 22, 23, 24, 25] (by decide +kernel) (by decide +kernel)
set_option maxRecDepth 20000 in
theorem gX2_presentEntry_X2_findEntry : GoodIn wsX2_presentEntry (wsV RX2 121 RX2 yX2_findEntry wsX2_findEntry) := goodIn_app (goodIn_of _ (by decide +kernel)) ggX2_presentEntry_X2_findEntry
theorem dX2_presentEntry_0 : decode cX2_presentEntry 0 = .ok (.aload_n 0, 1) := by decide +kernel
theorem dX2_presentEntry_1 : decode cX2_presentEntry 1 = .ok (.iload_n 1, 1) := by decide +kernel
theorem dX2_presentEntry_2 : decode cX2_presentEntry 2 = .ok (.invokevirtual 121, 3) := by decide +kernel
theorem dX2_presentEntry_5 : decode cX2_presentEntry 5 = .ok (.astore_n 2, 1) := by decide +kernel
theorem dX2_presentEntry_6 : decode cX2_presentEntry 6 = .ok (.aload_n 2, 1) := by decide +kernel
theorem dX2_presentEntry_7 : decode cX2_presentEntry 7 = .ok (.ifnonnull 13, 3) := by decide +kernel
theorem dX2_presentEntry_10 : decode cX2_presentEntry 10 = .ok (.new 151, 3) := by decide +kernel
theorem dX2_presentEntry_13 : decode cX2_presentEntry 13 = .ok (.dup, 1) := by decide +kernel
theorem dX2_presentEntry_14 : decode cX2_presentEntry 14 = .ok (.ldc 162, 2) := by decide +kernel
theorem dX2_presentEntry_16 : decode cX2_presentEntry 16 = .ok (.invokespecial 155, 3) := by decide +kernel
theorem dX2_presentEntry_19 : decode cX2_presentEntry 19 = .ok (.athrow, 1) := by decide +kernel
theorem dX2_presentEntry_20 : decode cX2_presentEntry 20 = .ok (.aload_n 2, 1) := by decide +kernel
theorem dX2_presentEntry_21 : decode cX2_presentEntry 21 = .ok (.areturn, 1) := by decide +kernel
set_option maxRecDepth 20000 in
theorem ggX2_refuseAsChoice_X2_findEntry : GoodIn wsX2_refuseAsChoice wsX2_findEntry := goodIn_r _ [7, 8, 9, 10, 11, 12, 13, 14, 15, 16, 17, 18, 19, 20, 21, 22, 23, 24, 25] (by decide +kernel) (by decide +kernel)
set_option maxRecDepth 20000 in
theorem gX2_refuseAsChoice_X2_findEntry : GoodIn wsX2_refuseAsChoice (wsV RX2 121 RX2 yX2_findEntry wsX2_findEntry) := goodIn_app (goodIn_of _ (by decide +kernel)) ggX2_refuseAsChoice_X2_findEntry
theorem dX2_refuseAsChoice_0 : decode cX2_refuseAsChoice 0 = .ok (.iload_n 1, 1) := by decide +kernel
theorem dX2_refuseAsChoice_1 : decode cX2_refuseAsChoice 1 = .ok (.iconst (-1), 1) := by decide +kernel
theorem dX2_refuseAsChoice_2 : decode cX2_refuseAsChoice 2 = .ok (.if_icmp .eq 21, 3) := by decide +kernel
theorem dX2_refuseAsChoice_5 : decode cX2_refuseAsChoice 5 = .ok (.aload_n 0, 1) := by decide +kernel
theorem dX2_refuseAsChoice_6 : decode cX2_refuseAsChoice 6 = .ok (.iload_n 1, 1) := by decide +kernel
theorem dX2_refuseAsChoice_7 : decode cX2_refuseAsChoice 7 = .ok (.invokevirtual 121, 3) := by decide +kernel
theorem dX2_refuseAsChoice_10 : decode cX2_refuseAsChoice 10 = .ok (.ifnonnull 13, 3) := by decide +kernel
theorem dX2_refuseAsChoice_13 : decode cX2_refuseAsChoice 13 = .ok (.new 151, 3) := by decide +kernel
theorem dX2_refuseAsChoice_16 : decode cX2_refuseAsChoice 16 = .ok (.dup, 1) := by decide +kernel
theorem dX2_refuseAsChoice_17 : decode cX2_refuseAsChoice 17 = .ok (.ldc 162, 2) := by decide +kernel
theorem dX2_refuseAsChoice_19 : decode cX2_refuseAsChoice 19 = .ok (.invokespecial 155, 3) := by decide +kernel
theorem dX2_refuseAsChoice_22 : decode cX2_refuseAsChoice 22 = .ok (.athrow, 1) := by decide +kernel
theorem dX2_refuseAsChoice_23 : decode cX2_refuseAsChoice 23 = .ok (.return_, 1) := by decide +kernel
theorem dX2_refuseIfLocked_0 : decode cX2_refuseIfLocked 0 = .ok (.aload_n 0, 1) := by decide +kernel
theorem dX2_refuseIfLocked_1 : decode cX2_refuseIfLocked 1 = .ok (.getfield 18, 3) := by decide +kernel
theorem dX2_refuseIfLocked_4 : decode cX2_refuseIfLocked 4 = .ok (.getfield 145, 3) := by decide +kernel
theorem dX2_refuseIfLocked_7 : decode cX2_refuseIfLocked 7 = .ok (.ifCond .eq 13, 3) := by decide +kernel
theorem dX2_refuseIfLocked_10 : decode cX2_refuseIfLocked 10 = .ok (.new 63, 3) := by decide +kernel
theorem dX2_refuseIfLocked_13 : decode cX2_refuseIfLocked 13 = .ok (.dup, 1) := by decide +kernel
theorem dX2_refuseIfLocked_14 : decode cX2_refuseIfLocked 14 = .ok (.ldc 164, 2) := by decide +kernel
theorem dX2_refuseIfLocked_16 : decode cX2_refuseIfLocked 16 = .ok (.invokespecial 67, 3) := by decide +kernel
theorem dX2_refuseIfLocked_19 : decode cX2_refuseIfLocked 19 = .ok (.athrow, 1) := by decide +kernel
theorem dX2_refuseIfLocked_20 : decode cX2_refuseIfLocked 20 = .ok (.return_, 1) := by decide +kernel
theorem dX2_isWithin_0 : decode cX2_isWithin 0 = .ok (.iload_n 0, 1) := by decide +kernel
theorem dX2_isWithin_1 : decode cX2_isWithin 1 = .ok (.iload_n 1, 1) := by decide +kernel
theorem dX2_isWithin_2 : decode cX2_isWithin 2 = .ok (.if_icmp .lt 12, 3) := by decide +kernel
theorem dX2_isWithin_5 : decode cX2_isWithin 5 = .ok (.iload_n 0, 1) := by decide +kernel
theorem dX2_isWithin_6 : decode cX2_isWithin 6 = .ok (.iload_n 2, 1) := by decide +kernel
theorem dX2_isWithin_7 : decode cX2_isWithin 7 = .ok (.if_icmp .gt 7, 3) := by decide +kernel
theorem dX2_isWithin_10 : decode cX2_isWithin 10 = .ok (.iconst 1, 1) := by decide +kernel
theorem dX2_isWithin_11 : decode cX2_isWithin 11 = .ok (.goto 4, 3) := by decide +kernel
theorem dX2_isWithin_14 : decode cX2_isWithin 14 = .ok (.iconst 0, 1) := by decide +kernel
theorem dX2_isWithin_15 : decode cX2_isWithin 15 = .ok (.ireturn, 1) := by decide +kernel
theorem dX2_highestCode_0 : decode cX2_highestCode 0 = .ok (.iconst 1, 1) := by decide +kernel
theorem dX2_highestCode_1 : decode cX2_highestCode 1 = .ok (.istore_n 1, 1) := by decide +kernel
theorem dX2_highestCode_2 : decode cX2_highestCode 2 = .ok (.iconst 0, 1) := by decide +kernel
theorem dX2_highestCode_3 : decode cX2_highestCode 3 = .ok (.istore_n 2, 1) := by decide +kernel
theorem dX2_highestCode_4 : decode cX2_highestCode 4 = .ok (.iload_n 2, 1) := by decide +kernel
theorem dX2_highestCode_5 : decode cX2_highestCode 5 = .ok (.iload_n 0, 1) := by decide +kernel
theorem dX2_highestCode_6 : decode cX2_highestCode 6 = .ok (.if_icmp .ge 14, 3) := by decide +kernel
theorem dX2_highestCode_9 : decode cX2_highestCode 9 = .ok (.iload_n 1, 1) := by decide +kernel
theorem dX2_highestCode_10 : decode cX2_highestCode 10 = .ok (.bipush 10, 2) := by decide +kernel
theorem dX2_highestCode_12 : decode cX2_highestCode 12 = .ok (.imul, 1) := by decide +kernel
theorem dX2_highestCode_13 : decode cX2_highestCode 13 = .ok (.istore_n 1, 1) := by decide +kernel
theorem dX2_highestCode_14 : decode cX2_highestCode 14 = .ok (.iinc 2 1, 3) := by decide +kernel
theorem dX2_highestCode_17 : decode cX2_highestCode 17 = .ok (.goto (-13), 3) := by decide +kernel
theorem dX2_highestCode_20 : decode cX2_highestCode 20 = .ok (.iload_n 1, 1) := by decide +kernel
theorem dX2_highestCode_21 : decode cX2_highestCode 21 = .ok (.iconst 1, 1) := by decide +kernel
theorem dX2_highestCode_22 : decode cX2_highestCode 22 = .ok (.isub, 1) := by decide +kernel
theorem dX2_highestCode_23 : decode cX2_highestCode 23 = .ok (.ireturn, 1) := by decide +kernel
theorem dX2_freeRow_0 : decode cX2_freeRow 0 = .ok (.aload_n 0, 1) := by decide +kernel
theorem dX2_freeRow_1 : decode cX2_freeRow 1 = .ok (.getfield 11, 3) := by decide +kernel
theorem dX2_freeRow_4 : decode cX2_freeRow 4 = .ok (.astore_n 1, 1) := by decide +kernel
theorem dX2_freeRow_5 : decode cX2_freeRow 5 = .ok (.aload_n 1, 1) := by decide +kernel
theorem dX2_freeRow_6 : decode cX2_freeRow 6 = .ok (.arraylength, 1) := by decide +kernel
theorem dX2_freeRow_7 : decode cX2_freeRow 7 = .ok (.istore_n 2, 1) := by decide +kernel
theorem dX2_freeRow_8 : decode cX2_freeRow 8 = .ok (.iconst 0, 1) := by decide +kernel
theorem dX2_freeRow_9 : decode cX2_freeRow 9 = .ok (.istore_n 3, 1) := by decide +kernel
theorem dX2_freeRow_10 : decode cX2_freeRow 10 = .ok (.iload_n 3, 1) := by decide +kernel
theorem dX2_freeRow_11 : decode cX2_freeRow 11 = .ok (.iload_n 2, 1) := by decide +kernel
theorem dX2_freeRow_12 : decode cX2_freeRow 12 = .ok (.if_icmp .ge 25, 3) := by decide +kernel
theorem dX2_freeRow_15 : decode cX2_freeRow 15 = .ok (.aload_n 1, 1) := by decide +kernel
theorem dX2_freeRow_16 : decode cX2_freeRow 16 = .ok (.iload_n 3, 1) := by decide +kernel
theorem dX2_freeRow_17 : decode cX2_freeRow 17 = .ok (.aaload, 1) := by decide +kernel
theorem dX2_freeRow_18 : decode cX2_freeRow 18 = .ok (.astore 4, 2) := by decide +kernel
theorem dX2_freeRow_20 : decode cX2_freeRow 20 = .ok (.aload 4, 2) := by decide +kernel
theorem dX2_freeRow_22 : decode cX2_freeRow 22 = .ok (.getfield 79, 3) := by decide +kernel
theorem dX2_freeRow_25 : decode cX2_freeRow 25 = .ok (.ifCond .ne 6, 3) := by decide +kernel
theorem dX2_freeRow_28 : decode cX2_freeRow 28 = .ok (.aload 4, 2) := by decide +kernel
theorem dX2_freeRow_30 : decode cX2_freeRow 30 = .ok (.areturn, 1) := by decide +kernel
theorem dX2_freeRow_31 : decode cX2_freeRow 31 = .ok (.iinc 3 1, 3) := by decide +kernel
theorem dX2_freeRow_34 : decode cX2_freeRow 34 = .ok (.goto (-24), 3) := by decide +kernel
theorem dX2_freeRow_37 : decode cX2_freeRow 37 = .ok (.aconst_null, 1) := by decide +kernel
theorem dX2_freeRow_38 : decode cX2_freeRow 38 = .ok (.areturn, 1) := by decide +kernel
theorem dX2_findEntry_0 : decode cX2_findEntry 0 = .ok (.aload_n 0, 1) := by decide +kernel
theorem dX2_findEntry_1 : decode cX2_findEntry 1 = .ok (.getfield 11, 3) := by decide +kernel
theorem dX2_findEntry_4 : decode cX2_findEntry 4 = .ok (.astore_n 2, 1) := by decide +kernel
theorem dX2_findEntry_5 : decode cX2_findEntry 5 = .ok (.aload_n 2, 1) := by decide +kernel
theorem dX2_findEntry_6 : decode cX2_findEntry 6 = .ok (.arraylength, 1) := by decide +kernel
theorem dX2_findEntry_7 : decode cX2_findEntry 7 = .ok (.istore_n 3, 1) := by decide +kernel
theorem dX2_findEntry_8 : decode cX2_findEntry 8 = .ok (.iconst 0, 1) := by decide +kernel
theorem dX2_findEntry_9 : decode cX2_findEntry 9 = .ok (.istore 4, 2) := by decide +kernel
theorem dX2_findEntry_11 : decode cX2_findEntry 11 = .ok (.iload 4, 2) := by decide +kernel
theorem dX2_findEntry_13 : decode cX2_findEntry 13 = .ok (.iload_n 3, 1) := by decide +kernel
theorem dX2_findEntry_14 : decode cX2_findEntry 14 = .ok (.if_icmp .ge 35, 3) := by decide +kernel
theorem dX2_findEntry_17 : decode cX2_findEntry 17 = .ok (.aload_n 2, 1) := by decide +kernel
theorem dX2_findEntry_18 : decode cX2_findEntry 18 = .ok (.iload 4, 2) := by decide +kernel
theorem dX2_findEntry_20 : decode cX2_findEntry 20 = .ok (.aaload, 1) := by decide +kernel
theorem dX2_findEntry_21 : decode cX2_findEntry 21 = .ok (.astore 5, 2) := by decide +kernel
theorem dX2_findEntry_23 : decode cX2_findEntry 23 = .ok (.aload 5, 2) := by decide +kernel
theorem dX2_findEntry_25 : decode cX2_findEntry 25 = .ok (.getfield 79, 3) := by decide +kernel
theorem dX2_findEntry_28 : decode cX2_findEntry 28 = .ok (.ifCond .eq 15, 3) := by decide +kernel
theorem dX2_findEntry_31 : decode cX2_findEntry 31 = .ok (.aload 5, 2) := by decide +kernel
theorem dX2_findEntry_33 : decode cX2_findEntry 33 = .ok (.getfield 72, 3) := by decide +kernel
theorem dX2_findEntry_36 : decode cX2_findEntry 36 = .ok (.iload_n 1, 1) := by decide +kernel
theorem dX2_findEntry_37 : decode cX2_findEntry 37 = .ok (.if_icmp .ne 6, 3) := by decide +kernel
theorem dX2_findEntry_40 : decode cX2_findEntry 40 = .ok (.aload 5, 2) := by decide +kernel
theorem dX2_findEntry_42 : decode cX2_findEntry 42 = .ok (.areturn, 1) := by decide +kernel
theorem dX2_findEntry_43 : decode cX2_findEntry 43 = .ok (.iinc 4 1, 3) := by decide +kernel
theorem dX2_findEntry_46 : decode cX2_findEntry 46 = .ok (.goto (-35), 3) := by decide +kernel
theorem dX2_findEntry_49 : decode cX2_findEntry 49 = .ok (.aconst_null, 1) := by decide +kernel
theorem dX2_findEntry_50 : decode cX2_findEntry 50 = .ok (.areturn, 1) := by decide +kernel
theorem dX2_countEntries_0 : decode cX2_countEntries 0 = .ok (.iconst 0, 1) := by decide +kernel
theorem dX2_countEntries_1 : decode cX2_countEntries 1 = .ok (.istore_n 1, 1) := by decide +kernel
theorem dX2_countEntries_2 : decode cX2_countEntries 2 = .ok (.aload_n 0, 1) := by decide +kernel
theorem dX2_countEntries_3 : decode cX2_countEntries 3 = .ok (.getfield 11, 3) := by decide +kernel
theorem dX2_countEntries_6 : decode cX2_countEntries 6 = .ok (.astore_n 2, 1) := by decide +kernel
theorem dX2_countEntries_7 : decode cX2_countEntries 7 = .ok (.aload_n 2, 1) := by decide +kernel
theorem dX2_countEntries_8 : decode cX2_countEntries 8 = .ok (.arraylength, 1) := by decide +kernel
theorem dX2_countEntries_9 : decode cX2_countEntries 9 = .ok (.istore_n 3, 1) := by decide +kernel
theorem dX2_countEntries_10 : decode cX2_countEntries 10 = .ok (.iconst 0, 1) := by decide +kernel
theorem dX2_countEntries_11 : decode cX2_countEntries 11 = .ok (.istore 4, 2) := by decide +kernel
theorem dX2_countEntries_13 : decode cX2_countEntries 13 = .ok (.iload 4, 2) := by decide +kernel
theorem dX2_countEntries_15 : decode cX2_countEntries 15 = .ok (.iload_n 3, 1) := by decide +kernel
theorem dX2_countEntries_16 : decode cX2_countEntries 16 = .ok (.if_icmp .ge 26, 3) := by decide +kernel
theorem dX2_countEntries_19 : decode cX2_countEntries 19 = .ok (.aload_n 2, 1) := by decide +kernel
theorem dX2_countEntries_20 : decode cX2_countEntries 20 = .ok (.iload 4, 2) := by decide +kernel
theorem dX2_countEntries_22 : decode cX2_countEntries 22 = .ok (.aaload, 1) := by decide +kernel
theorem dX2_countEntries_23 : decode cX2_countEntries 23 = .ok (.astore 5, 2) := by decide +kernel
theorem dX2_countEntries_25 : decode cX2_countEntries 25 = .ok (.aload 5, 2) := by decide +kernel
theorem dX2_countEntries_27 : decode cX2_countEntries 27 = .ok (.getfield 79, 3) := by decide +kernel
theorem dX2_countEntries_30 : decode cX2_countEntries 30 = .ok (.ifCond .eq 6, 3) := by decide +kernel
theorem dX2_countEntries_33 : decode cX2_countEntries 33 = .ok (.iinc 1 1, 3) := by decide +kernel
theorem dX2_countEntries_36 : decode cX2_countEntries 36 = .ok (.iinc 4 1, 3) := by decide +kernel
theorem dX2_countEntries_39 : decode cX2_countEntries 39 = .ok (.goto (-26), 3) := by decide +kernel
theorem dX2_countEntries_42 : decode cX2_countEntries 42 = .ok (.iload_n 1, 1) := by decide +kernel
theorem dX2_countEntries_43 : decode cX2_countEntries 43 = .ok (.ireturn, 1) := by decide +kernel
set_option maxRecDepth 20000 in
theorem ggX2_countFitting_X2_isFitting : GoodIn wsX2_countFitting wsX2_isFitting := goodIn_r _ [6, 7, 8, 9, 10, 5, 11, 21, 22, 23, 24, 25, 26, 27, 28, 12, 13, 14, 15, 16, 17, 18, 19, 20] (by decide +kernel) (by decide +kernel)
set_option maxRecDepth 20000 in
theorem gX2_countFitting_X2_isFitting : GoodIn wsX2_countFitting (wsV RX2 166 RX2 yX2_isFitting wsX2_isFitting) := goodIn_app (goodIn_of _ (by decide +kernel)) ggX2_countFitting_X2_isFitting
theorem dX2_countFitting_0 : decode cX2_countFitting 0 = .ok (.iconst 0, 1) := by decide +kernel
theorem dX2_countFitting_1 : decode cX2_countFitting 1 = .ok (.istore_n 1, 1) := by decide +kernel
theorem dX2_countFitting_2 : decode cX2_countFitting 2 = .ok (.aload_n 0, 1) := by decide +kernel
theorem dX2_countFitting_3 : decode cX2_countFitting 3 = .ok (.getfield 11, 3) := by decide +kernel
theorem dX2_countFitting_6 : decode cX2_countFitting 6 = .ok (.astore_n 2, 1) := by decide +kernel
theorem dX2_countFitting_7 : decode cX2_countFitting 7 = .ok (.aload_n 2, 1) := by decide +kernel
theorem dX2_countFitting_8 : decode cX2_countFitting 8 = .ok (.arraylength, 1) := by decide +kernel
theorem dX2_countFitting_9 : decode cX2_countFitting 9 = .ok (.istore_n 3, 1) := by decide +kernel
theorem dX2_countFitting_10 : decode cX2_countFitting 10 = .ok (.iconst 0, 1) := by decide +kernel
theorem dX2_countFitting_11 : decode cX2_countFitting 11 = .ok (.istore 4, 2) := by decide +kernel
theorem dX2_countFitting_13 : decode cX2_countFitting 13 = .ok (.iload 4, 2) := by decide +kernel
theorem dX2_countFitting_15 : decode cX2_countFitting 15 = .ok (.iload_n 3, 1) := by decide +kernel
theorem dX2_countFitting_16 : decode cX2_countFitting 16 = .ok (.if_icmp .ge 35, 3) := by decide +kernel
theorem dX2_countFitting_19 : decode cX2_countFitting 19 = .ok (.aload_n 2, 1) := by decide +kernel
theorem dX2_countFitting_20 : decode cX2_countFitting 20 = .ok (.iload 4, 2) := by decide +kernel
theorem dX2_countFitting_22 : decode cX2_countFitting 22 = .ok (.aaload, 1) := by decide +kernel
theorem dX2_countFitting_23 : decode cX2_countFitting 23 = .ok (.astore 5, 2) := by decide +kernel
theorem dX2_countFitting_25 : decode cX2_countFitting 25 = .ok (.aload 5, 2) := by decide +kernel
theorem dX2_countFitting_27 : decode cX2_countFitting 27 = .ok (.getfield 79, 3) := by decide +kernel
theorem dX2_countFitting_30 : decode cX2_countFitting 30 = .ok (.ifCond .eq 15, 3) := by decide +kernel
theorem dX2_countFitting_33 : decode cX2_countFitting 33 = .ok (.aload_n 0, 1) := by decide +kernel
theorem dX2_countFitting_34 : decode cX2_countFitting 34 = .ok (.aload 5, 2) := by decide +kernel
theorem dX2_countFitting_36 : decode cX2_countFitting 36 = .ok (.invokevirtual 166, 3) := by decide +kernel
theorem dX2_countFitting_39 : decode cX2_countFitting 39 = .ok (.ifCond .eq 6, 3) := by decide +kernel
theorem dX2_countFitting_42 : decode cX2_countFitting 42 = .ok (.iinc 1 1, 3) := by decide +kernel
theorem dX2_countFitting_45 : decode cX2_countFitting 45 = .ok (.iinc 4 1, 3) := by decide +kernel
theorem dX2_countFitting_48 : decode cX2_countFitting 48 = .ok (.goto (-35), 3) := by decide +kernel
theorem dX2_countFitting_51 : decode cX2_countFitting 51 = .ok (.iload_n 1, 1) := by decide +kernel
theorem dX2_countFitting_52 : decode cX2_countFitting 52 = .ok (.ireturn, 1) := by decide +kernel
set_option maxRecDepth 20000 in
theorem ggX2_isFitting_X2_isWithin : GoodIn wsX2_isFitting wsX2_isWithin := goodIn_r _ [6] (by decide +kernel) (by decide +kernel)
set_option maxRecDepth 20000 in
theorem gX2_isFitting_X2_isWithin : GoodIn wsX2_isFitting (va_wsS RX2 45 yX2_isWithin wsX2_isWithin) := goodIn_app (goodIn_of _ (by decide +kernel)) ggX2_isFitting_X2_isWithin
theorem dX2_isFitting_0 : decode cX2_isFitting 0 = .ok (.aload_n 1, 1) := by decide +kernel
theorem dX2_isFitting_1 : decode cX2_isFitting 1 = .ok (.getfield 170, 3) := by decide +kernel
theorem dX2_isFitting_4 : decode cX2_isFitting 4 = .ok (.aload_n 0, 1) := by decide +kernel
theorem dX2_isFitting_5 : decode cX2_isFitting 5 = .ok (.getfield 32, 3) := by decide +kernel
theorem dX2_isFitting_8 : decode cX2_isFitting 8 = .ok (.aload_n 0, 1) := by decide +kernel
theorem dX2_isFitting_9 : decode cX2_isFitting 9 = .ok (.getfield 35, 3) := by decide +kernel
theorem dX2_isFitting_12 : decode cX2_isFitting 12 = .ok (.invokestatic 45, 3) := by decide +kernel
theorem dX2_isFitting_15 : decode cX2_isFitting 15 = .ok (.ireturn, 1) := by decide +kernel
set_option maxRecDepth 20000 in
theorem ggX2_countAhead_X1_isAheadOf : GoodIn wsX2_countAhead wsX1_isAheadOf := goodIn_r _ [5, 6, 7, 8, 9, 10, 11, 3, 12, 13, 14, 15, 16, 17, 18, 19, 20, 21, 22, 23, 33, 34, 35, 36, 37, 38, 39, 40] (by decide +kernel) (by decide +kernel)
set_option maxRecDepth 20000 in
theorem gX2_countAhead_X1_isAheadOf_n173 : GoodIn wsX2_countAhead (wsX1_isAheadOf) := ggX2_countAhead_X1_isAheadOf
theorem dX2_countAhead_0 : decode cX2_countAhead 0 = .ok (.iconst 0, 1) := by decide +kernel
theorem dX2_countAhead_1 : decode cX2_countAhead 1 = .ok (.istore_n 2, 1) := by decide +kernel
theorem dX2_countAhead_2 : decode cX2_countAhead 2 = .ok (.aload_n 0, 1) := by decide +kernel
theorem dX2_countAhead_3 : decode cX2_countAhead 3 = .ok (.getfield 11, 3) := by decide +kernel
theorem dX2_countAhead_6 : decode cX2_countAhead 6 = .ok (.astore_n 3, 1) := by decide +kernel
theorem dX2_countAhead_7 : decode cX2_countAhead 7 = .ok (.aload_n 3, 1) := by decide +kernel
theorem dX2_countAhead_8 : decode cX2_countAhead 8 = .ok (.arraylength, 1) := by decide +kernel
theorem dX2_countAhead_9 : decode cX2_countAhead 9 = .ok (.istore 4, 2) := by decide +kernel
theorem dX2_countAhead_11 : decode cX2_countAhead 11 = .ok (.iconst 0, 1) := by decide +kernel
theorem dX2_countAhead_12 : decode cX2_countAhead 12 = .ok (.istore 5, 2) := by decide +kernel
theorem dX2_countAhead_14 : decode cX2_countAhead 14 = .ok (.iload 5, 2) := by decide +kernel
theorem dX2_countAhead_16 : decode cX2_countAhead 16 = .ok (.iload 4, 2) := by decide +kernel
theorem dX2_countAhead_18 : decode cX2_countAhead 18 = .ok (.if_icmp .ge 35, 3) := by decide +kernel
theorem dX2_countAhead_21 : decode cX2_countAhead 21 = .ok (.aload_n 3, 1) := by decide +kernel
theorem dX2_countAhead_22 : decode cX2_countAhead 22 = .ok (.iload 5, 2) := by decide +kernel
theorem dX2_countAhead_24 : decode cX2_countAhead 24 = .ok (.aaload, 1) := by decide +kernel
theorem dX2_countAhead_25 : decode cX2_countAhead 25 = .ok (.astore 6, 2) := by decide +kernel
theorem dX2_countAhead_27 : decode cX2_countAhead 27 = .ok (.aload 6, 2) := by decide +kernel
theorem dX2_countAhead_29 : decode cX2_countAhead 29 = .ok (.getfield 79, 3) := by decide +kernel
theorem dX2_countAhead_32 : decode cX2_countAhead 32 = .ok (.ifCond .eq 15, 3) := by decide +kernel
theorem dX2_countAhead_35 : decode cX2_countAhead 35 = .ok (.aload 6, 2) := by decide +kernel
theorem dX2_countAhead_37 : decode cX2_countAhead 37 = .ok (.aload_n 1, 1) := by decide +kernel
theorem dX2_countAhead_38 : decode cX2_countAhead 38 = .ok (.invokevirtual 173, 3) := by decide +kernel
theorem dX2_countAhead_41 : decode cX2_countAhead 41 = .ok (.ifCond .eq 6, 3) := by decide +kernel
theorem dX2_countAhead_44 : decode cX2_countAhead 44 = .ok (.iinc 2 1, 3) := by decide +kernel
theorem dX2_countAhead_47 : decode cX2_countAhead 47 = .ok (.iinc 5 1, 3) := by decide +kernel
theorem dX2_countAhead_50 : decode cX2_countAhead 50 = .ok (.goto (-36), 3) := by decide +kernel
theorem dX2_countAhead_53 : decode cX2_countAhead 53 = .ok (.iload_n 2, 1) := by decide +kernel
theorem dX2_countAhead_54 : decode cX2_countAhead 54 = .ok (.ireturn, 1) := by decide +kernel
set_option maxRecDepth 20000 in
theorem ggX2_entryWithPlace_X2_countAhead : GoodIn wsX2_entryWithPlace wsX2_countAhead := goodIn_r _ [6, 1, 7, 8, 9, 10, 11, 12, 13, 14, 15, 16, 17, 18, 19, 20, 21, 22, 23, 24, 25, 26, 27, 28, 29, 30, 31, 32, 33, 34, 35, 36, 37, 38, 39, 40, 41, 42, 43, 44, 45] (by decide +kernel) (by decide +kernel)
set_option maxRecDepth 20000 in
theorem gX2_entryWithPlace_X2_countAhead : GoodIn wsX2_entryWithPlace (wsV RX2 156 RX2 yX2_countAhead wsX2_countAhead) := goodIn_app (goodIn_of _ (by decide +kernel)) ggX2_entryWithPlace_X2_countAhead
theorem dX2_entryWithPlace_0 : decode cX2_entryWithPlace 0 = .ok (.aload_n 0, 1) := by decide +kernel
theorem dX2_entryWithPlace_1 : decode cX2_entryWithPlace 1 = .ok (.getfield 11, 3) := by decide +kernel
theorem dX2_entryWithPlace_4 : decode cX2_entryWithPlace 4 = .ok (.astore_n 2, 1) := by decide +kernel
theorem dX2_entryWithPlace_5 : decode cX2_entryWithPlace 5 = .ok (.aload_n 2, 1) := by decide +kernel
theorem dX2_entryWithPlace_6 : decode cX2_entryWithPlace 6 = .ok (.arraylength, 1) := by decide +kernel
theorem dX2_entryWithPlace_7 : decode cX2_entryWithPlace 7 = .ok (.istore_n 3, 1) := by decide +kernel
theorem dX2_entryWithPlace_8 : decode cX2_entryWithPlace 8 = .ok (.iconst 0, 1) := by decide +kernel
theorem dX2_entryWithPlace_9 : decode cX2_entryWithPlace 9 = .ok (.istore 4, 2) := by decide +kernel
theorem dX2_entryWithPlace_11 : decode cX2_entryWithPlace 11 = .ok (.iload 4, 2) := by decide +kernel
theorem dX2_entryWithPlace_13 : decode cX2_entryWithPlace 13 = .ok (.iload_n 3, 1) := by decide +kernel
theorem dX2_entryWithPlace_14 : decode cX2_entryWithPlace 14 = .ok (.if_icmp .ge 36, 3) := by decide +kernel
theorem dX2_entryWithPlace_17 : decode cX2_entryWithPlace 17 = .ok (.aload_n 2, 1) := by decide +kernel
theorem dX2_entryWithPlace_18 : decode cX2_entryWithPlace 18 = .ok (.iload 4, 2) := by decide +kernel
theorem dX2_entryWithPlace_20 : decode cX2_entryWithPlace 20 = .ok (.aaload, 1) := by decide +kernel
theorem dX2_entryWithPlace_21 : decode cX2_entryWithPlace 21 = .ok (.astore 5, 2) := by decide +kernel
theorem dX2_entryWithPlace_23 : decode cX2_entryWithPlace 23 = .ok (.aload 5, 2) := by decide +kernel
theorem dX2_entryWithPlace_25 : decode cX2_entryWithPlace 25 = .ok (.getfield 79, 3) := by decide +kernel
theorem dX2_entryWithPlace_28 : decode cX2_entryWithPlace 28 = .ok (.ifCond .eq 16, 3) := by decide +kernel
theorem dX2_entryWithPlace_31 : decode cX2_entryWithPlace 31 = .ok (.aload_n 0, 1) := by decide +kernel
theorem dX2_entryWithPlace_32 : decode cX2_entryWithPlace 32 = .ok (.aload 5, 2) := by decide +kernel
theorem dX2_entryWithPlace_34 : decode cX2_entryWithPlace 34 = .ok (.invokevirtual 156, 3) := by decide +kernel
theorem dX2_entryWithPlace_37 : decode cX2_entryWithPlace 37 = .ok (.iload_n 1, 1) := by decide +kernel
theorem dX2_entryWithPlace_38 : decode cX2_entryWithPlace 38 = .ok (.if_icmp .ne 6, 3) := by decide +kernel
theorem dX2_entryWithPlace_41 : decode cX2_entryWithPlace 41 = .ok (.aload 5, 2) := by decide +kernel
theorem dX2_entryWithPlace_43 : decode cX2_entryWithPlace 43 = .ok (.areturn, 1) := by decide +kernel
theorem dX2_entryWithPlace_44 : decode cX2_entryWithPlace 44 = .ok (.iinc 4 1, 3) := by decide +kernel
theorem dX2_entryWithPlace_47 : decode cX2_entryWithPlace 47 = .ok (.goto (-36), 3) := by decide +kernel
theorem dX2_entryWithPlace_50 : decode cX2_entryWithPlace 50 = .ok (.aconst_null, 1) := by decide +kernel
theorem dX2_entryWithPlace_51 : decode cX2_entryWithPlace 51 = .ok (.areturn, 1) := by decide +kernel
set_option maxRecDepth 20000 in
theorem ggX2_nextEntry_X2_findEntry : GoodIn wsX2_nextEntry wsX2_findEntry := goodIn_r _ [7, 8, 52, 53, 54, 55, 56, 57, 58, 59, 60, 61, 62, 63, 64, 65, 66, 67, 68] (by decide +kernel) (by decide +kernel)
set_option maxRecDepth 20000 in
theorem gX2_nextEntry_X2_findEntry : GoodIn wsX2_nextEntry (wsV RX2 121 RX2 yX2_findEntry wsX2_findEntry) := goodIn_app (goodIn_of _ (by decide +kernel)) ggX2_nextEntry_X2_findEntry
set_option maxRecDepth 20000 in
theorem ggX2_nextEntry_X1_isBad : GoodIn wsX2_nextEntry wsX1_isBad := goodIn_r _ [12, 13, 61, 62, 63, 64, 65, 66, 67, 68] (by decide +kernel) (by decide +kernel)
set_option maxRecDepth 20000 in
theorem gX2_nextEntry_X1_isBad_n176 : GoodIn wsX2_nextEntry (wsX1_isBad) := ggX2_nextEntry_X1_isBad
set_option maxRecDepth 20000 in
theorem ggX2_nextEntry_X2_firstFittingNotBad : GoodIn wsX2_nextEntry wsX2_firstFittingNotBad := goodIn_r _ [17, 8, 18, 19, 20, 6, 21, 22, 23, 24, 25, 26, 9, 10, 11, 12, 13, 27, 28, 29, 30, 31, 32, 33, 34, 35, 36, 37, 38, 39, 40, 41, 42, 43, 52, 53, 54, 55, 56, 57, 58, 59, 60, 61, 62, 63, 64, 65, 66, 67, 68] (by decide +kernel) (by decide +kernel)
set_option maxRecDepth 20000 in
theorem gX2_nextEntry_X2_firstFittingNotBad : GoodIn wsX2_nextEntry (wsV RX2 180 RX2 yX2_firstFittingNotBad wsX2_firstFittingNotBad) := goodIn_app (goodIn_of _ (by decide +kernel)) ggX2_nextEntry_X2_firstFittingNotBad
set_option maxRecDepth 20000 in
theorem ggX2_nextEntry_X2_entryWithPlace : GoodIn wsX2_nextEntry wsX2_entryWithPlace := goodIn_r _ [47, 8, 48, 49, 50, 6, 51, 27, 10, 28, 29, 30, 31, 32, 33, 9, 11, 12, 13, 34, 35, 36, 37, 38, 39, 40, 41, 42, 43, 52, 53, 54, 55, 56, 57, 58, 59, 60, 61, 62, 63, 64, 65, 66, 67, 68] (by decide +kernel) (by decide +kernel)
set_option maxRecDepth 20000 in
theorem gX2_nextEntry_X2_entryWithPlace : GoodIn wsX2_nextEntry (wsV RX2 148 RX2 yX2_entryWithPlace wsX2_entryWithPlace) := goodIn_app (goodIn_of _ (by decide +kernel)) ggX2_nextEntry_X2_entryWithPlace
theorem dX2_nextEntry_0 : decode cX2_nextEntry 0 = .ok (.aload_n 0, 1) := by decide +kernel
theorem dX2_nextEntry_1 : decode cX2_nextEntry 1 = .ok (.aload_n 0, 1) := by decide +kernel
theorem dX2_nextEntry_2 : decode cX2_nextEntry 2 = .ok (.getfield 29, 3) := by decide +kernel
theorem dX2_nextEntry_5 : decode cX2_nextEntry 5 = .ok (.invokevirtual 121, 3) := by decide +kernel
theorem dX2_nextEntry_8 : decode cX2_nextEntry 8 = .ok (.astore_n 1, 1) := by decide +kernel
theorem dX2_nextEntry_9 : decode cX2_nextEntry 9 = .ok (.aload_n 1, 1) := by decide +kernel
theorem dX2_nextEntry_10 : decode cX2_nextEntry 10 = .ok (.ifnull 5, 3) := by decide +kernel
theorem dX2_nextEntry_13 : decode cX2_nextEntry 13 = .ok (.aload_n 1, 1) := by decide +kernel
theorem dX2_nextEntry_14 : decode cX2_nextEntry 14 = .ok (.areturn, 1) := by decide +kernel
theorem dX2_nextEntry_15 : decode cX2_nextEntry 15 = .ok (.aload_n 0, 1) := by decide +kernel
theorem dX2_nextEntry_16 : decode cX2_nextEntry 16 = .ok (.aload_n 0, 1) := by decide +kernel
theorem dX2_nextEntry_17 : decode cX2_nextEntry 17 = .ok (.getfield 26, 3) := by decide +kernel
theorem dX2_nextEntry_20 : decode cX2_nextEntry 20 = .ok (.invokevirtual 121, 3) := by decide +kernel
theorem dX2_nextEntry_23 : decode cX2_nextEntry 23 = .ok (.astore_n 2, 1) := by decide +kernel
theorem dX2_nextEntry_24 : decode cX2_nextEntry 24 = .ok (.aload_n 2, 1) := by decide +kernel
theorem dX2_nextEntry_25 : decode cX2_nextEntry 25 = .ok (.ifnull 12, 3) := by decide +kernel
theorem dX2_nextEntry_28 : decode cX2_nextEntry 28 = .ok (.aload_n 2, 1) := by decide +kernel
theorem dX2_nextEntry_29 : decode cX2_nextEntry 29 = .ok (.invokevirtual 176, 3) := by decide +kernel
theorem dX2_nextEntry_32 : decode cX2_nextEntry 32 = .ok (.ifCond .ne 5, 3) := by decide +kernel
theorem dX2_nextEntry_35 : decode cX2_nextEntry 35 = .ok (.aload_n 2, 1) := by decide +kernel
theorem dX2_nextEntry_36 : decode cX2_nextEntry 36 = .ok (.areturn, 1) := by decide +kernel
theorem dX2_nextEntry_37 : decode cX2_nextEntry 37 = .ok (.aload_n 0, 1) := by decide +kernel
theorem dX2_nextEntry_38 : decode cX2_nextEntry 38 = .ok (.invokevirtual 180, 3) := by decide +kernel
theorem dX2_nextEntry_41 : decode cX2_nextEntry 41 = .ok (.astore_n 3, 1) := by decide +kernel
theorem dX2_nextEntry_42 : decode cX2_nextEntry 42 = .ok (.aload_n 3, 1) := by decide +kernel
theorem dX2_nextEntry_43 : decode cX2_nextEntry 43 = .ok (.ifnull 7, 3) := by decide +kernel
theorem dX2_nextEntry_46 : decode cX2_nextEntry 46 = .ok (.aload_n 3, 1) := by decide +kernel
theorem dX2_nextEntry_47 : decode cX2_nextEntry 47 = .ok (.goto 8, 3) := by decide +kernel
theorem dX2_nextEntry_50 : decode cX2_nextEntry 50 = .ok (.aload_n 0, 1) := by decide +kernel
theorem dX2_nextEntry_51 : decode cX2_nextEntry 51 = .ok (.iconst 0, 1) := by decide +kernel
theorem dX2_nextEntry_52 : decode cX2_nextEntry 52 = .ok (.invokevirtual 148, 3) := by decide +kernel
theorem dX2_nextEntry_55 : decode cX2_nextEntry 55 = .ok (.areturn, 1) := by decide +kernel
set_option maxRecDepth 20000 in
theorem ggX2_firstFittingNotBad_X2_isFitting : GoodIn wsX2_firstFittingNotBad wsX2_isFitting := goodIn_r _ [6, 7, 8, 9, 10, 5, 11, 43, 44, 45, 46, 47, 48, 49, 50, 34, 35, 36, 37, 38, 39, 40, 41, 42] (by decide +kernel) (by decide +kernel)
set_option maxRecDepth 20000 in
theorem gX2_firstFittingNotBad_X2_isFitting : GoodIn wsX2_firstFittingNotBad (wsV RX2 166 RX2 yX2_isFitting wsX2_isFitting) := goodIn_app (goodIn_of _ (by decide +kernel)) ggX2_firstFittingNotBad_X2_isFitting
set_option maxRecDepth 20000 in
theorem ggX2_firstFittingNotBad_X1_isBad : GoodIn wsX2_firstFittingNotBad wsX1_isBad := goodIn_r _ [15, 16, 43, 44, 45, 46, 47, 48, 49, 50] (by decide +kernel) (by decide +kernel)
set_option maxRecDepth 20000 in
theorem gX2_firstFittingNotBad_X1_isBad_n176 : GoodIn wsX2_firstFittingNotBad (wsX1_isBad) := ggX2_firstFittingNotBad_X1_isBad
set_option maxRecDepth 20000 in
theorem ggX2_firstFittingNotBad_X1_isAheadOf : GoodIn wsX2_firstFittingNotBad wsX1_isAheadOf := goodIn_r _ [19, 20, 21, 22, 23, 12, 14, 13, 15, 16, 24, 25, 26, 27, 28, 29, 30, 31, 32, 33, 43, 44, 45, 46, 47, 48, 49, 50] (by decide +kernel) (by decide +kernel)
set_option maxRecDepth 20000 in
theorem gX2_firstFittingNotBad_X1_isAheadOf_n173 : GoodIn wsX2_firstFittingNotBad (wsX1_isAheadOf) := ggX2_firstFittingNotBad_X1_isAheadOf
theorem dX2_firstFittingNotBad_0 : decode cX2_firstFittingNotBad 0 = .ok (.aconst_null, 1) := by decide +kernel
theorem dX2_firstFittingNotBad_1 : decode cX2_firstFittingNotBad 1 = .ok (.astore_n 1, 1) := by decide +kernel
theorem dX2_firstFittingNotBad_2 : decode cX2_firstFittingNotBad 2 = .ok (.aload_n 0, 1) := by decide +kernel
theorem dX2_firstFittingNotBad_3 : decode cX2_firstFittingNotBad 3 = .ok (.getfield 11, 3) := by decide +kernel
theorem dX2_firstFittingNotBad_6 : decode cX2_firstFittingNotBad 6 = .ok (.astore_n 2, 1) := by decide +kernel
theorem dX2_firstFittingNotBad_7 : decode cX2_firstFittingNotBad 7 = .ok (.aload_n 2, 1) := by decide +kernel
theorem dX2_firstFittingNotBad_8 : decode cX2_firstFittingNotBad 8 = .ok (.arraylength, 1) := by decide +kernel
theorem dX2_firstFittingNotBad_9 : decode cX2_firstFittingNotBad 9 = .ok (.istore_n 3, 1) := by decide +kernel
theorem dX2_firstFittingNotBad_10 : decode cX2_firstFittingNotBad 10 = .ok (.iconst 0, 1) := by decide +kernel
theorem dX2_firstFittingNotBad_11 : decode cX2_firstFittingNotBad 11 = .ok (.istore 4, 2) := by decide +kernel
theorem dX2_firstFittingNotBad_13 : decode cX2_firstFittingNotBad 13 = .ok (.iload 4, 2) := by decide +kernel
theorem dX2_firstFittingNotBad_15 : decode cX2_firstFittingNotBad 15 = .ok (.iload_n 3, 1) := by decide +kernel
theorem dX2_firstFittingNotBad_16 : decode cX2_firstFittingNotBad 16 = .ok (.if_icmp .ge 56, 3) := by decide +kernel
theorem dX2_firstFittingNotBad_19 : decode cX2_firstFittingNotBad 19 = .ok (.aload_n 2, 1) := by decide +kernel
theorem dX2_firstFittingNotBad_20 : decode cX2_firstFittingNotBad 20 = .ok (.iload 4, 2) := by decide +kernel
theorem dX2_firstFittingNotBad_22 : decode cX2_firstFittingNotBad 22 = .ok (.aaload, 1) := by decide +kernel
theorem dX2_firstFittingNotBad_23 : decode cX2_firstFittingNotBad 23 = .ok (.astore 5, 2) := by decide +kernel
theorem dX2_firstFittingNotBad_25 : decode cX2_firstFittingNotBad 25 = .ok (.aload 5, 2) := by decide +kernel
theorem dX2_firstFittingNotBad_27 : decode cX2_firstFittingNotBad 27 = .ok (.getfield 79, 3) := by decide +kernel
theorem dX2_firstFittingNotBad_30 : decode cX2_firstFittingNotBad 30 = .ok (.ifCond .eq 36, 3) := by decide +kernel
theorem dX2_firstFittingNotBad_33 : decode cX2_firstFittingNotBad 33 = .ok (.aload_n 0, 1) := by decide +kernel
theorem dX2_firstFittingNotBad_34 : decode cX2_firstFittingNotBad 34 = .ok (.aload 5, 2) := by decide +kernel
theorem dX2_firstFittingNotBad_36 : decode cX2_firstFittingNotBad 36 = .ok (.invokevirtual 166, 3) := by decide +kernel
theorem dX2_firstFittingNotBad_39 : decode cX2_firstFittingNotBad 39 = .ok (.ifCond .eq 27, 3) := by decide +kernel
theorem dX2_firstFittingNotBad_42 : decode cX2_firstFittingNotBad 42 = .ok (.aload 5, 2) := by decide +kernel
theorem dX2_firstFittingNotBad_44 : decode cX2_firstFittingNotBad 44 = .ok (.invokevirtual 176, 3) := by decide +kernel
theorem dX2_firstFittingNotBad_47 : decode cX2_firstFittingNotBad 47 = .ok (.ifCond .ne 19, 3) := by decide +kernel
theorem dX2_firstFittingNotBad_50 : decode cX2_firstFittingNotBad 50 = .ok (.aload_n 1, 1) := by decide +kernel
theorem dX2_firstFittingNotBad_51 : decode cX2_firstFittingNotBad 51 = .ok (.ifnull 12, 3) := by decide +kernel
theorem dX2_firstFittingNotBad_54 : decode cX2_firstFittingNotBad 54 = .ok (.aload 5, 2) := by decide +kernel
theorem dX2_firstFittingNotBad_56 : decode cX2_firstFittingNotBad 56 = .ok (.aload_n 1, 1) := by decide +kernel
theorem dX2_firstFittingNotBad_57 : decode cX2_firstFittingNotBad 57 = .ok (.invokevirtual 173, 3) := by decide +kernel
theorem dX2_firstFittingNotBad_60 : decode cX2_firstFittingNotBad 60 = .ok (.ifCond .eq 6, 3) := by decide +kernel
theorem dX2_firstFittingNotBad_63 : decode cX2_firstFittingNotBad 63 = .ok (.aload 5, 2) := by decide +kernel
theorem dX2_firstFittingNotBad_65 : decode cX2_firstFittingNotBad 65 = .ok (.astore_n 1, 1) := by decide +kernel
theorem dX2_firstFittingNotBad_66 : decode cX2_firstFittingNotBad 66 = .ok (.iinc 4 1, 3) := by decide +kernel
theorem dX2_firstFittingNotBad_69 : decode cX2_firstFittingNotBad 69 = .ok (.goto (-56), 3) := by decide +kernel
theorem dX2_firstFittingNotBad_72 : decode cX2_firstFittingNotBad 72 = .ok (.aload_n 1, 1) := by decide +kernel
theorem dX2_firstFittingNotBad_73 : decode cX2_firstFittingNotBad 73 = .ok (.areturn, 1) := by decide +kernel
set_option maxRecDepth 20000 in
theorem ggX2_measure_X2_step : GoodIn wsX2_measure wsX2_step := goodIn_r _ [6, 7] (by decide +kernel) (by decide +kernel)
set_option maxRecDepth 20000 in
theorem gX2_measure_X2_step : GoodIn wsX2_measure (va_wsS RX2 183 yX2_step wsX2_step) := goodIn_app (goodIn_of _ (by decide +kernel)) ggX2_measure_X2_step
theorem dX2_measure_0 : decode cX2_measure 0 = .ok (.iconst 0, 1) := by decide +kernel
theorem dX2_measure_1 : decode cX2_measure 1 = .ok (.aload_n 0, 1) := by decide +kernel
theorem dX2_measure_2 : decode cX2_measure 2 = .ok (.getfield 18, 3) := by decide +kernel
theorem dX2_measure_5 : decode cX2_measure 5 = .ok (.getfield 145, 3) := by decide +kernel
theorem dX2_measure_8 : decode cX2_measure 8 = .ok (.ifCond .eq 7, 3) := by decide +kernel
theorem dX2_measure_11 : decode cX2_measure 11 = .ok (.iconst 1, 1) := by decide +kernel
theorem dX2_measure_12 : decode cX2_measure 12 = .ok (.goto 4, 3) := by decide +kernel
theorem dX2_measure_15 : decode cX2_measure 15 = .ok (.iconst 0, 1) := by decide +kernel
theorem dX2_measure_16 : decode cX2_measure 16 = .ok (.invokestatic 183, 3) := by decide +kernel
theorem dX2_measure_19 : decode cX2_measure 19 = .ok (.istore_n 2, 1) := by decide +kernel
theorem dX2_measure_20 : decode cX2_measure 20 = .ok (.iload_n 2, 1) := by decide +kernel
theorem dX2_measure_21 : decode cX2_measure 21 = .ok (.aload_n 1, 1) := by decide +kernel
theorem dX2_measure_22 : decode cX2_measure 22 = .ok (.getfield 187, 3) := by decide +kernel
theorem dX2_measure_25 : decode cX2_measure 25 = .ok (.invokestatic 183, 3) := by decide +kernel
theorem dX2_measure_28 : decode cX2_measure 28 = .ok (.istore_n 2, 1) := by decide +kernel
theorem dX2_measure_29 : decode cX2_measure 29 = .ok (.iload_n 2, 1) := by decide +kernel
theorem dX2_measure_30 : decode cX2_measure 30 = .ok (.aload_n 1, 1) := by decide +kernel
theorem dX2_measure_31 : decode cX2_measure 31 = .ok (.getfield 190, 3) := by decide +kernel
theorem dX2_measure_34 : decode cX2_measure 34 = .ok (.ldc 193, 2) := by decide +kernel
theorem dX2_measure_36 : decode cX2_measure 36 = .ok (.idiv, 1) := by decide +kernel
theorem dX2_measure_37 : decode cX2_measure 37 = .ok (.invokestatic 183, 3) := by decide +kernel
theorem dX2_measure_40 : decode cX2_measure 40 = .ok (.istore_n 2, 1) := by decide +kernel
theorem dX2_measure_41 : decode cX2_measure 41 = .ok (.iload_n 2, 1) := by decide +kernel
theorem dX2_measure_42 : decode cX2_measure 42 = .ok (.aload_n 1, 1) := by decide +kernel
theorem dX2_measure_43 : decode cX2_measure 43 = .ok (.getfield 190, 3) := by decide +kernel
theorem dX2_measure_46 : decode cX2_measure 46 = .ok (.sipush 1000, 3) := by decide +kernel
theorem dX2_measure_49 : decode cX2_measure 49 = .ok (.idiv, 1) := by decide +kernel
theorem dX2_measure_50 : decode cX2_measure 50 = .ok (.sipush 1000, 3) := by decide +kernel
theorem dX2_measure_53 : decode cX2_measure 53 = .ok (.irem, 1) := by decide +kernel
theorem dX2_measure_54 : decode cX2_measure 54 = .ok (.invokestatic 183, 3) := by decide +kernel
theorem dX2_measure_57 : decode cX2_measure 57 = .ok (.istore_n 2, 1) := by decide +kernel
theorem dX2_measure_58 : decode cX2_measure 58 = .ok (.iload_n 2, 1) := by decide +kernel
theorem dX2_measure_59 : decode cX2_measure 59 = .ok (.aload_n 1, 1) := by decide +kernel
theorem dX2_measure_60 : decode cX2_measure 60 = .ok (.getfield 190, 3) := by decide +kernel
theorem dX2_measure_63 : decode cX2_measure 63 = .ok (.sipush 1000, 3) := by decide +kernel
theorem dX2_measure_66 : decode cX2_measure 66 = .ok (.irem, 1) := by decide +kernel
theorem dX2_measure_67 : decode cX2_measure 67 = .ok (.invokestatic 183, 3) := by decide +kernel
theorem dX2_measure_70 : decode cX2_measure 70 = .ok (.istore_n 2, 1) := by decide +kernel
theorem dX2_measure_71 : decode cX2_measure 71 = .ok (.iload_n 2, 1) := by decide +kernel
theorem dX2_measure_72 : decode cX2_measure 72 = .ok (.aload_n 1, 1) := by decide +kernel
theorem dX2_measure_73 : decode cX2_measure 73 = .ok (.getfield 194, 3) := by decide +kernel
theorem dX2_measure_76 : decode cX2_measure 76 = .ok (.invokestatic 183, 3) := by decide +kernel
theorem dX2_measure_79 : decode cX2_measure 79 = .ok (.istore_n 2, 1) := by decide +kernel
theorem dX2_measure_80 : decode cX2_measure 80 = .ok (.iload_n 2, 1) := by decide +kernel
theorem dX2_measure_81 : decode cX2_measure 81 = .ok (.aload_n 1, 1) := by decide +kernel
theorem dX2_measure_82 : decode cX2_measure 82 = .ok (.getfield 170, 3) := by decide +kernel
theorem dX2_measure_85 : decode cX2_measure 85 = .ok (.invokestatic 183, 3) := by decide +kernel
theorem dX2_measure_88 : decode cX2_measure 88 = .ok (.istore_n 2, 1) := by decide +kernel
theorem dX2_measure_89 : decode cX2_measure 89 = .ok (.iload_n 2, 1) := by decide +kernel
theorem dX2_measure_90 : decode cX2_measure 90 = .ok (.aload_n 1, 1) := by decide +kernel
theorem dX2_measure_91 : decode cX2_measure 91 = .ok (.getfield 92, 3) := by decide +kernel
theorem dX2_measure_94 : decode cX2_measure 94 = .ok (.invokestatic 183, 3) := by decide +kernel
theorem dX2_measure_97 : decode cX2_measure 97 = .ok (.ireturn, 1) := by decide +kernel
theorem dX2_step_0 : decode cX2_step 0 = .ok (.iload_n 0, 1) := by decide +kernel
theorem dX2_step_1 : decode cX2_step 1 = .ok (.bipush 31, 2) := by decide +kernel
theorem dX2_step_3 : decode cX2_step 3 = .ok (.imul, 1) := by decide +kernel
theorem dX2_step_4 : decode cX2_step 4 = .ok (.iload_n 1, 1) := by decide +kernel
theorem dX2_step_5 : decode cX2_step 5 = .ok (.iadd, 1) := by decide +kernel
theorem dX2_step_6 : decode cX2_step 6 = .ok (.bipush 7, 2) := by decide +kernel
theorem dX2_step_8 : decode cX2_step 8 = .ok (.iadd, 1) := by decide +kernel
theorem dX2_step_9 : decode cX2_step 9 = .ok (.ldc 197, 2) := by decide +kernel
theorem dX2_step_11 : decode cX2_step 11 = .ok (.irem, 1) := by decide +kernel
theorem dX2_step_12 : decode cX2_step 12 = .ok (.ireturn, 1) := by decide +kernel
theorem dJ6_compare_7cf53_0 : decode cJ6_compare_7cf53 0 = .ok (.iload_n 0, 1) := by decide +kernel
theorem dJ6_compare_7cf53_1 : decode cJ6_compare_7cf53 1 = .ok (.iload_n 1, 1) := by decide +kernel
theorem dJ6_compare_7cf53_2 : decode cJ6_compare_7cf53 2 = .ok (.if_icmp .ge 7, 3) := by decide +kernel
theorem dJ6_compare_7cf53_5 : decode cJ6_compare_7cf53 5 = .ok (.iconst (-1), 1) := by decide +kernel
theorem dJ6_compare_7cf53_6 : decode cJ6_compare_7cf53 6 = .ok (.goto 13, 3) := by decide +kernel
theorem dJ6_compare_7cf53_9 : decode cJ6_compare_7cf53 9 = .ok (.iload_n 0, 1) := by decide +kernel
theorem dJ6_compare_7cf53_10 : decode cJ6_compare_7cf53 10 = .ok (.iload_n 1, 1) := by decide +kernel
theorem dJ6_compare_7cf53_11 : decode cJ6_compare_7cf53 11 = .ok (.if_icmp .ne 7, 3) := by decide +kernel
theorem dJ6_compare_7cf53_14 : decode cJ6_compare_7cf53 14 = .ok (.iconst 0, 1) := by decide +kernel
theorem dJ6_compare_7cf53_15 : decode cJ6_compare_7cf53 15 = .ok (.goto 4, 3) := by decide +kernel
theorem dJ6_compare_7cf53_18 : decode cJ6_compare_7cf53 18 = .ok (.iconst 1, 1) := by decide +kernel
theorem dJ6_compare_7cf53_19 : decode cJ6_compare_7cf53 19 = .ok (.ireturn, 1) := by decide +kernel
set_option maxRecDepth 20000 in
theorem ggL_lock_X2_lock : GoodIn wsL_lock wsX2_lock := goodIn_ca (goodIn_ca (goodIn_r _ [7, 8, 9, 10, 11, 12, 6, 13, 14, 15, 16, 17, 18, 19, 20, 21, 22, 23, 24, 25, 26, 27, 28, 29, 30, 31, 32, 33, 34, 35, 36, 37, 38, 39, 40, 41, 42, 43, 44, 45, 46, 47, 48] (by decide +kernel) (by decide +kernel)) (goodIn_sub (fun _ h => List.mem_cons_of_mem _ (List.mem_append_left _ (List.mem_append_right _ h))) (by decide +kernel))) (goodIn_sub (fun _ h => List.mem_cons_of_mem _ (List.mem_append_right _ h)) (by decide +kernel))
set_option maxRecDepth 20000 in
theorem gL_lock_X2_lock : GoodIn wsL_lock (wsV RL 7 RX2 yX2_lock wsX2_lock) := goodIn_app (goodIn_of _ (by decide +kernel)) ggL_lock_X2_lock
