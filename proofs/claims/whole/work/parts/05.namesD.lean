theorem dX6_init_0 : decode cX6_init 0 = .ok (.aload_n 0, 1) := by decide +kernel
theorem dX6_init_1 : decode cX6_init 1 = .ok (.invokespecial 1, 3) := by decide +kernel
theorem dX6_init_4 : decode cX6_init 4 = .ok (.aload_n 0, 1) := by decide +kernel
theorem dX6_init_5 : decode cX6_init 5 = .ok (.sipush 9600, 3) := by decide +kernel
theorem dX6_init_8 : decode cX6_init 8 = .ok (.newarray .boolean, 2) := by decide +kernel
theorem dX6_init_10 : decode cX6_init 10 = .ok (.putfield 7, 3) := by decide +kernel
theorem dX6_init_13 : decode cX6_init 13 = .ok (.aload_n 0, 1) := by decide +kernel
theorem dX6_init_14 : decode cX6_init 14 = .ok (.bipush 40, 2) := by decide +kernel
theorem dX6_init_16 : decode cX6_init 16 = .ok (.newarray .int, 2) := by decide +kernel
theorem dX6_init_18 : decode cX6_init 18 = .ok (.putfield 13, 3) := by decide +kernel
theorem dX6_init_21 : decode cX6_init 21 = .ok (.aload_n 0, 1) := by decide +kernel
theorem dX6_init_22 : decode cX6_init 22 = .ok (.bipush 16, 2) := by decide +kernel
theorem dX6_init_24 : decode cX6_init 24 = .ok (.putfield 17, 3) := by decide +kernel
theorem dX6_init_27 : decode cX6_init 27 = .ok (.aload_n 0, 1) := by decide +kernel
theorem dX6_init_28 : decode cX6_init 28 = .ok (.iconst (-1), 1) := by decide +kernel
theorem dX6_init_29 : decode cX6_init 29 = .ok (.putfield 21, 3) := by decide +kernel
theorem dX6_init_32 : decode cX6_init 32 = .ok (.aload_n 0, 1) := by decide +kernel
theorem dX6_init_33 : decode cX6_init 33 = .ok (.sipush 200, 3) := by decide +kernel
theorem dX6_init_36 : decode cX6_init 36 = .ok (.newarray .int, 2) := by decide +kernel
theorem dX6_init_38 : decode cX6_init 38 = .ok (.putfield 24, 3) := by decide +kernel
theorem dX6_init_41 : decode cX6_init 41 = .ok (.return_, 1) := by decide +kernel
theorem dX6_step_0 : decode cX6_step 0 = .ok (.iload_n 0, 1) := by decide +kernel
theorem dX6_step_1 : decode cX6_step 1 = .ok (.iload_n 1, 1) := by decide +kernel
theorem dX6_step_2 : decode cX6_step 2 = .ok (.bipush 8, 2) := by decide +kernel
theorem dX6_step_4 : decode cX6_step 4 = .ok (.ishl, 1) := by decide +kernel
theorem dX6_step_5 : decode cX6_step 5 = .ok (.ixor, 1) := by decide +kernel
theorem dX6_step_6 : decode cX6_step 6 = .ok (.istore_n 2, 1) := by decide +kernel
theorem dX6_step_7 : decode cX6_step 7 = .ok (.iconst 0, 1) := by decide +kernel
theorem dX6_step_8 : decode cX6_step 8 = .ok (.istore_n 3, 1) := by decide +kernel
theorem dX6_step_9 : decode cX6_step 9 = .ok (.iload_n 3, 1) := by decide +kernel
theorem dX6_step_10 : decode cX6_step 10 = .ok (.bipush 8, 2) := by decide +kernel
theorem dX6_step_12 : decode cX6_step 12 = .ok (.if_icmp .ge 32, 3) := by decide +kernel
theorem dX6_step_15 : decode cX6_step 15 = .ok (.iload_n 2, 1) := by decide +kernel
theorem dX6_step_16 : decode cX6_step 16 = .ok (.iconst 1, 1) := by decide +kernel
theorem dX6_step_17 : decode cX6_step 17 = .ok (.ishl, 1) := by decide +kernel
theorem dX6_step_18 : decode cX6_step 18 = .ok (.istore_n 2, 1) := by decide +kernel
theorem dX6_step_19 : decode cX6_step 19 = .ok (.iload_n 2, 1) := by decide +kernel
theorem dX6_step_20 : decode cX6_step 20 = .ok (.ldc 27, 2) := by decide +kernel
theorem dX6_step_22 : decode cX6_step 22 = .ok (.if_icmp .le 14, 3) := by decide +kernel
theorem dX6_step_25 : decode cX6_step 25 = .ok (.iload_n 2, 1) := by decide +kernel
theorem dX6_step_26 : decode cX6_step 26 = .ok (.sipush 4129, 3) := by decide +kernel
theorem dX6_step_29 : decode cX6_step 29 = .ok (.ixor, 1) := by decide +kernel
theorem dX6_step_30 : decode cX6_step 30 = .ok (.ldc 27, 2) := by decide +kernel
theorem dX6_step_32 : decode cX6_step 32 = .ok (.iand, 1) := by decide +kernel
theorem dX6_step_33 : decode cX6_step 33 = .ok (.goto 4, 3) := by decide +kernel
theorem dX6_step_36 : decode cX6_step 36 = .ok (.iload_n 2, 1) := by decide +kernel
theorem dX6_step_37 : decode cX6_step 37 = .ok (.istore_n 2, 1) := by decide +kernel
theorem dX6_step_38 : decode cX6_step 38 = .ok (.iinc 3 1, 3) := by decide +kernel
theorem dX6_step_41 : decode cX6_step 41 = .ok (.goto (-32), 3) := by decide +kernel
theorem dX6_step_44 : decode cX6_step 44 = .ok (.iload_n 2, 1) := by decide +kernel
theorem dX6_step_45 : decode cX6_step 45 = .ok (.ireturn, 1) := by decide +kernel
set_option maxRecDepth 20000 in
theorem ggX6_isRight_X6_step : GoodIn wsX6_isRight wsX6_step := goodIn_r _ [8, 1] (by decide +kernel) (by decide +kernel)
set_option maxRecDepth 20000 in
theorem gX6_isRight_X6_step : GoodIn wsX6_isRight (va_wsS RX6 28 yX6_step wsX6_step) := goodIn_app (goodIn_of _ (by decide +kernel)) ggX6_isRight_X6_step
theorem dX6_isRight_0 : decode cX6_isRight 0 = .ok (.ldc 27, 2) := by decide +kernel
theorem dX6_isRight_2 : decode cX6_isRight 2 = .ok (.istore_n 1, 1) := by decide +kernel
theorem dX6_isRight_3 : decode cX6_isRight 3 = .ok (.iconst 0, 1) := by decide +kernel
theorem dX6_isRight_4 : decode cX6_isRight 4 = .ok (.istore_n 2, 1) := by decide +kernel
theorem dX6_isRight_5 : decode cX6_isRight 5 = .ok (.iload_n 2, 1) := by decide +kernel
theorem dX6_isRight_6 : decode cX6_isRight 6 = .ok (.iconst 3, 1) := by decide +kernel
theorem dX6_isRight_7 : decode cX6_isRight 7 = .ok (.if_icmp .ge 17, 3) := by decide +kernel
theorem dX6_isRight_10 : decode cX6_isRight 10 = .ok (.iload_n 1, 1) := by decide +kernel
theorem dX6_isRight_11 : decode cX6_isRight 11 = .ok (.sipush 161, 3) := by decide +kernel
theorem dX6_isRight_14 : decode cX6_isRight 14 = .ok (.invokestatic 28, 3) := by decide +kernel
theorem dX6_isRight_17 : decode cX6_isRight 17 = .ok (.istore_n 1, 1) := by decide +kernel
theorem dX6_isRight_18 : decode cX6_isRight 18 = .ok (.iinc 2 1, 3) := by decide +kernel
theorem dX6_isRight_21 : decode cX6_isRight 21 = .ok (.goto (-16), 3) := by decide +kernel
theorem dX6_isRight_24 : decode cX6_isRight 24 = .ok (.iload_n 1, 1) := by decide +kernel
theorem dX6_isRight_25 : decode cX6_isRight 25 = .ok (.aload_n 0, 1) := by decide +kernel
theorem dX6_isRight_26 : decode cX6_isRight 26 = .ok (.getfield 32, 3) := by decide +kernel
theorem dX6_isRight_29 : decode cX6_isRight 29 = .ok (.invokestatic 28, 3) := by decide +kernel
theorem dX6_isRight_32 : decode cX6_isRight 32 = .ok (.istore_n 1, 1) := by decide +kernel
theorem dX6_isRight_33 : decode cX6_isRight 33 = .ok (.iconst 0, 1) := by decide +kernel
theorem dX6_isRight_34 : decode cX6_isRight 34 = .ok (.istore_n 2, 1) := by decide +kernel
theorem dX6_isRight_35 : decode cX6_isRight 35 = .ok (.iload_n 2, 1) := by decide +kernel
theorem dX6_isRight_36 : decode cX6_isRight 36 = .ok (.aload_n 0, 1) := by decide +kernel
theorem dX6_isRight_37 : decode cX6_isRight 37 = .ok (.getfield 35, 3) := by decide +kernel
theorem dX6_isRight_40 : decode cX6_isRight 40 = .ok (.iconst 2, 1) := by decide +kernel
theorem dX6_isRight_41 : decode cX6_isRight 41 = .ok (.isub, 1) := by decide +kernel
theorem dX6_isRight_42 : decode cX6_isRight 42 = .ok (.if_icmp .ge 20, 3) := by decide +kernel
theorem dX6_isRight_45 : decode cX6_isRight 45 = .ok (.iload_n 1, 1) := by decide +kernel
theorem dX6_isRight_46 : decode cX6_isRight 46 = .ok (.aload_n 0, 1) := by decide +kernel
theorem dX6_isRight_47 : decode cX6_isRight 47 = .ok (.getfield 13, 3) := by decide +kernel
theorem dX6_isRight_50 : decode cX6_isRight 50 = .ok (.iload_n 2, 1) := by decide +kernel
theorem dX6_isRight_51 : decode cX6_isRight 51 = .ok (.iaload, 1) := by decide +kernel
theorem dX6_isRight_52 : decode cX6_isRight 52 = .ok (.invokestatic 28, 3) := by decide +kernel
theorem dX6_isRight_55 : decode cX6_isRight 55 = .ok (.istore_n 1, 1) := by decide +kernel
theorem dX6_isRight_56 : decode cX6_isRight 56 = .ok (.iinc 2 1, 3) := by decide +kernel
theorem dX6_isRight_59 : decode cX6_isRight 59 = .ok (.goto (-24), 3) := by decide +kernel
theorem dX6_isRight_62 : decode cX6_isRight 62 = .ok (.aload_n 0, 1) := by decide +kernel
theorem dX6_isRight_63 : decode cX6_isRight 63 = .ok (.getfield 13, 3) := by decide +kernel
theorem dX6_isRight_66 : decode cX6_isRight 66 = .ok (.aload_n 0, 1) := by decide +kernel
theorem dX6_isRight_67 : decode cX6_isRight 67 = .ok (.getfield 35, 3) := by decide +kernel
theorem dX6_isRight_70 : decode cX6_isRight 70 = .ok (.iconst 2, 1) := by decide +kernel
theorem dX6_isRight_71 : decode cX6_isRight 71 = .ok (.isub, 1) := by decide +kernel
theorem dX6_isRight_72 : decode cX6_isRight 72 = .ok (.iaload, 1) := by decide +kernel
theorem dX6_isRight_73 : decode cX6_isRight 73 = .ok (.iload_n 1, 1) := by decide +kernel
theorem dX6_isRight_74 : decode cX6_isRight 74 = .ok (.bipush 8, 2) := by decide +kernel
theorem dX6_isRight_76 : decode cX6_isRight 76 = .ok (.ishr, 1) := by decide +kernel
theorem dX6_isRight_77 : decode cX6_isRight 77 = .ok (.if_icmp .ne 26, 3) := by decide +kernel
theorem dX6_isRight_80 : decode cX6_isRight 80 = .ok (.aload_n 0, 1) := by decide +kernel
theorem dX6_isRight_81 : decode cX6_isRight 81 = .ok (.getfield 13, 3) := by decide +kernel
theorem dX6_isRight_84 : decode cX6_isRight 84 = .ok (.aload_n 0, 1) := by decide +kernel
theorem dX6_isRight_85 : decode cX6_isRight 85 = .ok (.getfield 35, 3) := by decide +kernel
theorem dX6_isRight_88 : decode cX6_isRight 88 = .ok (.iconst 1, 1) := by decide +kernel
theorem dX6_isRight_89 : decode cX6_isRight 89 = .ok (.isub, 1) := by decide +kernel
theorem dX6_isRight_90 : decode cX6_isRight 90 = .ok (.iaload, 1) := by decide +kernel
theorem dX6_isRight_91 : decode cX6_isRight 91 = .ok (.iload_n 1, 1) := by decide +kernel
theorem dX6_isRight_92 : decode cX6_isRight 92 = .ok (.sipush 255, 3) := by decide +kernel
theorem dX6_isRight_95 : decode cX6_isRight 95 = .ok (.iand, 1) := by decide +kernel
theorem dX6_isRight_96 : decode cX6_isRight 96 = .ok (.if_icmp .ne 7, 3) := by decide +kernel
theorem dX6_isRight_99 : decode cX6_isRight 99 = .ok (.iconst 1, 1) := by decide +kernel
theorem dX6_isRight_100 : decode cX6_isRight 100 = .ok (.goto 4, 3) := by decide +kernel
theorem dX6_isRight_103 : decode cX6_isRight 103 = .ok (.iconst 0, 1) := by decide +kernel
theorem dX6_isRight_104 : decode cX6_isRight 104 = .ok (.ireturn, 1) := by decide +kernel
theorem dX6_raise_0 : decode cX6_raise 0 = .ok (.aload_n 0, 1) := by decide +kernel
theorem dX6_raise_1 : decode cX6_raise 1 = .ok (.aload_n 0, 1) := by decide +kernel
theorem dX6_raise_2 : decode cX6_raise 2 = .ok (.getfield 38, 3) := by decide +kernel
theorem dX6_raise_5 : decode cX6_raise 5 = .ok (.iload_n 1, 1) := by decide +kernel
theorem dX6_raise_6 : decode cX6_raise 6 = .ok (.ior, 1) := by decide +kernel
theorem dX6_raise_7 : decode cX6_raise 7 = .ok (.putfield 38, 3) := by decide +kernel
theorem dX6_raise_10 : decode cX6_raise 10 = .ok (.return_, 1) := by decide +kernel
theorem dX6_drop_0 : decode cX6_drop 0 = .ok (.aload_n 0, 1) := by decide +kernel
theorem dX6_drop_1 : decode cX6_drop 1 = .ok (.aload_n 0, 1) := by decide +kernel
theorem dX6_drop_2 : decode cX6_drop 2 = .ok (.getfield 38, 3) := by decide +kernel
theorem dX6_drop_5 : decode cX6_drop 5 = .ok (.iload_n 1, 1) := by decide +kernel
theorem dX6_drop_6 : decode cX6_drop 6 = .ok (.iconst (-1), 1) := by decide +kernel
theorem dX6_drop_7 : decode cX6_drop 7 = .ok (.ixor, 1) := by decide +kernel
theorem dX6_drop_8 : decode cX6_drop 8 = .ok (.iand, 1) := by decide +kernel
theorem dX6_drop_9 : decode cX6_drop 9 = .ok (.putfield 38, 3) := by decide +kernel
theorem dX6_drop_12 : decode cX6_drop 12 = .ok (.return_, 1) := by decide +kernel
theorem dX6_has_0 : decode cX6_has 0 = .ok (.aload_n 0, 1) := by decide +kernel
theorem dX6_has_1 : decode cX6_has 1 = .ok (.getfield 38, 3) := by decide +kernel
theorem dX6_has_4 : decode cX6_has 4 = .ok (.iload_n 1, 1) := by decide +kernel
theorem dX6_has_5 : decode cX6_has 5 = .ok (.iand, 1) := by decide +kernel
theorem dX6_has_6 : decode cX6_has 6 = .ok (.ifCond .eq 7, 3) := by decide +kernel
theorem dX6_has_9 : decode cX6_has 9 = .ok (.iconst 1, 1) := by decide +kernel
theorem dX6_has_10 : decode cX6_has 10 = .ok (.goto 4, 3) := by decide +kernel
theorem dX6_has_13 : decode cX6_has 13 = .ok (.iconst 0, 1) := by decide +kernel
theorem dX6_has_14 : decode cX6_has 14 = .ok (.ireturn, 1) := by decide +kernel
theorem dX6_reset_0 : decode cX6_reset 0 = .ok (.aload_n 0, 1) := by decide +kernel
theorem dX6_reset_1 : decode cX6_reset 1 = .ok (.iconst 0, 1) := by decide +kernel
theorem dX6_reset_2 : decode cX6_reset 2 = .ok (.putfield 41, 3) := by decide +kernel
theorem dX6_reset_5 : decode cX6_reset 5 = .ok (.aload_n 0, 1) := by decide +kernel
theorem dX6_reset_6 : decode cX6_reset 6 = .ok (.iconst 0, 1) := by decide +kernel
theorem dX6_reset_7 : decode cX6_reset 7 = .ok (.putfield 45, 3) := by decide +kernel
theorem dX6_reset_10 : decode cX6_reset 10 = .ok (.aload_n 0, 1) := by decide +kernel
theorem dX6_reset_11 : decode cX6_reset 11 = .ok (.iconst 0, 1) := by decide +kernel
theorem dX6_reset_12 : decode cX6_reset 12 = .ok (.putfield 48, 3) := by decide +kernel
theorem dX6_reset_15 : decode cX6_reset 15 = .ok (.return_, 1) := by decide +kernel
set_option maxRecDepth 20000 in
theorem ggX6_end_X6_drop : GoodIn wsX6_end wsX6_drop := goodIn_r _ [7, 8, 9, 10, 11, 12, 13, 14, 15, 16, 17, 18, 19, 20, 21, 22, 23, 24, 25, 26, 27, 28, 29, 30, 31, 32, 33, 34, 35, 36, 37, 38, 39, 40] (by decide +kernel) (by decide +kernel)
set_option maxRecDepth 20000 in
theorem gX6_end_X6_drop : GoodIn wsX6_end (wsV RX6 51 RX6 yX6_drop wsX6_drop) := goodIn_app (goodIn_of _ (by decide +kernel)) ggX6_end_X6_drop
theorem dX6_end_0 : decode cX6_end 0 = .ok (.aload_n 0, 1) := by decide +kernel
theorem dX6_end_1 : decode cX6_end 1 = .ok (.iconst 1, 1) := by decide +kernel
theorem dX6_end_2 : decode cX6_end 2 = .ok (.invokevirtual 51, 3) := by decide +kernel
theorem dX6_end_5 : decode cX6_end 5 = .ok (.aload_n 0, 1) := by decide +kernel
theorem dX6_end_6 : decode cX6_end 6 = .ok (.iconst 2, 1) := by decide +kernel
theorem dX6_end_7 : decode cX6_end 7 = .ok (.invokevirtual 51, 3) := by decide +kernel
theorem dX6_end_10 : decode cX6_end 10 = .ok (.aload_n 0, 1) := by decide +kernel
theorem dX6_end_11 : decode cX6_end 11 = .ok (.getfield 55, 3) := by decide +kernel
theorem dX6_end_14 : decode cX6_end 14 = .ok (.bipush 6, 2) := by decide +kernel
theorem dX6_end_16 : decode cX6_end 16 = .ok (.if_icmp .eq 12, 3) := by decide +kernel
theorem dX6_end_19 : decode cX6_end 19 = .ok (.aload_n 0, 1) := by decide +kernel
theorem dX6_end_20 : decode cX6_end 20 = .ok (.getfield 55, 3) := by decide +kernel
theorem dX6_end_23 : decode cX6_end 23 = .ok (.bipush 8, 2) := by decide +kernel
theorem dX6_end_25 : decode cX6_end 25 = .ok (.if_icmp .ne 8, 3) := by decide +kernel
theorem dX6_end_28 : decode cX6_end 28 = .ok (.aload_n 0, 1) := by decide +kernel
theorem dX6_end_29 : decode cX6_end 29 = .ok (.iconst 0, 1) := by decide +kernel
theorem dX6_end_30 : decode cX6_end 30 = .ok (.putfield 58, 3) := by decide +kernel
theorem dX6_end_33 : decode cX6_end 33 = .ok (.aload_n 0, 1) := by decide +kernel
theorem dX6_end_34 : decode cX6_end 34 = .ok (.iconst 0, 1) := by decide +kernel
theorem dX6_end_35 : decode cX6_end 35 = .ok (.putfield 55, 3) := by decide +kernel
theorem dX6_end_38 : decode cX6_end 38 = .ok (.return_, 1) := by decide +kernel
set_option maxRecDepth 20000 in
theorem ggX6_receive_X6_has : GoodIn wsX6_receive wsX6_has := goodIn_r _ [6, 7, 12, 13, 14, 15, 16, 17, 18, 19, 20, 21, 22, 23, 24, 25, 26, 27, 28, 29, 30, 31, 32, 33, 34, 35, 36, 37, 38, 39, 40, 41, 42, 43] (by decide +kernel) (by decide +kernel)
set_option maxRecDepth 20000 in
theorem gX6_receive_X6_has : GoodIn wsX6_receive (wsV RX6 64 RX6 yX6_has wsX6_has) := goodIn_app (goodIn_of _ (by decide +kernel)) ggX6_receive_X6_has
set_option maxRecDepth 20000 in
theorem ggX6_receive_X6_raise : GoodIn wsX6_receive wsX6_raise := goodIn_r _ [11, 7, 12, 13, 14, 15, 16, 17, 18, 19, 20, 21, 22, 23, 24, 25, 26, 27, 28, 29, 30, 31, 32, 33, 34, 35, 36, 37, 38, 39, 40, 41, 42, 43] (by decide +kernel) (by decide +kernel)
set_option maxRecDepth 20000 in
theorem gX6_receive_X6_raise : GoodIn wsX6_receive (wsV RX6 68 RX6 yX6_raise wsX6_raise) := goodIn_app (goodIn_of _ (by decide +kernel)) ggX6_receive_X6_raise
theorem dX6_receive_0 : decode cX6_receive 0 = .ok (.aload_n 0, 1) := by decide +kernel
theorem dX6_receive_1 : decode cX6_receive 1 = .ok (.iload_n 1, 1) := by decide +kernel
theorem dX6_receive_2 : decode cX6_receive 2 = .ok (.putfield 61, 3) := by decide +kernel
theorem dX6_receive_5 : decode cX6_receive 5 = .ok (.aload_n 0, 1) := by decide +kernel
theorem dX6_receive_6 : decode cX6_receive 6 = .ok (.iconst 2, 1) := by decide +kernel
theorem dX6_receive_7 : decode cX6_receive 7 = .ok (.invokevirtual 64, 3) := by decide +kernel
theorem dX6_receive_10 : decode cX6_receive 10 = .ok (.ifCond .eq 8, 3) := by decide +kernel
theorem dX6_receive_13 : decode cX6_receive 13 = .ok (.aload_n 0, 1) := by decide +kernel
theorem dX6_receive_14 : decode cX6_receive 14 = .ok (.iconst 4, 1) := by decide +kernel
theorem dX6_receive_15 : decode cX6_receive 15 = .ok (.invokevirtual 68, 3) := by decide +kernel
theorem dX6_receive_18 : decode cX6_receive 18 = .ok (.aload_n 0, 1) := by decide +kernel
theorem dX6_receive_19 : decode cX6_receive 19 = .ok (.iconst 2, 1) := by decide +kernel
theorem dX6_receive_20 : decode cX6_receive 20 = .ok (.invokevirtual 68, 3) := by decide +kernel
theorem dX6_receive_23 : decode cX6_receive 23 = .ok (.return_, 1) := by decide +kernel
set_option maxRecDepth 20000 in
theorem ggX6_ask_X6_has : GoodIn wsX6_ask wsX6_has := goodIn_r _ [6, 7, 12, 13, 14, 15, 16, 17, 18, 19, 20, 21, 22, 23, 24, 25, 26, 27, 28, 29, 30, 31, 32, 33, 34, 35, 36, 37, 38, 39, 40, 41, 42, 43] (by decide +kernel) (by decide +kernel)
set_option maxRecDepth 20000 in
theorem gX6_ask_X6_has : GoodIn wsX6_ask (wsV RX6 64 RX6 yX6_has wsX6_has) := goodIn_app (goodIn_of _ (by decide +kernel)) ggX6_ask_X6_has
set_option maxRecDepth 20000 in
theorem ggX6_ask_X6_raise : GoodIn wsX6_ask wsX6_raise := goodIn_r _ [11, 7, 12, 13, 14, 15, 16, 17, 18, 19, 20, 21, 22, 23, 24, 25, 26, 27, 28, 29, 30, 31, 32, 33, 34, 35, 36, 37, 38, 39, 40, 41, 42, 43] (by decide +kernel) (by decide +kernel)
set_option maxRecDepth 20000 in
theorem gX6_ask_X6_raise : GoodIn wsX6_ask (wsV RX6 68 RX6 yX6_raise wsX6_raise) := goodIn_app (goodIn_of _ (by decide +kernel)) ggX6_ask_X6_raise
theorem dX6_ask_0 : decode cX6_ask 0 = .ok (.aload_n 0, 1) := by decide +kernel
theorem dX6_ask_1 : decode cX6_ask 1 = .ok (.iconst 2, 1) := by decide +kernel
theorem dX6_ask_2 : decode cX6_ask 2 = .ok (.invokevirtual 64, 3) := by decide +kernel
theorem dX6_ask_5 : decode cX6_ask 5 = .ok (.ifCond .eq 10, 3) := by decide +kernel
theorem dX6_ask_8 : decode cX6_ask 8 = .ok (.aload_n 0, 1) := by decide +kernel
theorem dX6_ask_9 : decode cX6_ask 9 = .ok (.iconst 4, 1) := by decide +kernel
theorem dX6_ask_10 : decode cX6_ask 10 = .ok (.invokevirtual 68, 3) := by decide +kernel
theorem dX6_ask_13 : decode cX6_ask 13 = .ok (.iconst 0, 1) := by decide +kernel
theorem dX6_ask_14 : decode cX6_ask 14 = .ok (.ireturn, 1) := by decide +kernel
theorem dX6_ask_15 : decode cX6_ask 15 = .ok (.aload_n 0, 1) := by decide +kernel
theorem dX6_ask_16 : decode cX6_ask 16 = .ok (.getfield 61, 3) := by decide +kernel
theorem dX6_ask_19 : decode cX6_ask 19 = .ok (.ireturn, 1) := by decide +kernel
set_option maxRecDepth 20000 in
theorem ggX6_begins_X6_raise : GoodIn wsX6_begins wsX6_raise := goodIn_r _ [10, 11, 12, 13, 14, 15, 16, 17, 18, 19, 20, 21, 22, 23, 24, 25, 26, 27, 28, 29, 30, 31, 32, 33, 34, 35, 36, 37, 38, 39, 40, 41, 42, 43] (by decide +kernel) (by decide +kernel)
set_option maxRecDepth 20000 in
theorem gX6_begins_X6_raise : GoodIn wsX6_begins (wsV RX6 68 RX6 yX6_raise wsX6_raise) := goodIn_app (goodIn_of _ (by decide +kernel)) ggX6_begins_X6_raise
theorem dX6_begins_0 : decode cX6_begins 0 = .ok (.aload_n 0, 1) := by decide +kernel
theorem dX6_begins_1 : decode cX6_begins 1 = .ok (.iload_n 1, 1) := by decide +kernel
theorem dX6_begins_2 : decode cX6_begins 2 = .ok (.putfield 48, 3) := by decide +kernel
theorem dX6_begins_5 : decode cX6_begins 5 = .ok (.aload_n 0, 1) := by decide +kernel
theorem dX6_begins_6 : decode cX6_begins 6 = .ok (.iload_n 2, 1) := by decide +kernel
theorem dX6_begins_7 : decode cX6_begins 7 = .ok (.putfield 32, 3) := by decide +kernel
theorem dX6_begins_10 : decode cX6_begins 10 = .ok (.aload_n 0, 1) := by decide +kernel
theorem dX6_begins_11 : decode cX6_begins 11 = .ok (.iconst 0, 1) := by decide +kernel
theorem dX6_begins_12 : decode cX6_begins 12 = .ok (.putfield 35, 3) := by decide +kernel
theorem dX6_begins_15 : decode cX6_begins 15 = .ok (.iload_n 1, 1) := by decide +kernel
theorem dX6_begins_16 : decode cX6_begins 16 = .ok (.iconst 1, 1) := by decide +kernel
theorem dX6_begins_17 : decode cX6_begins 17 = .ok (.if_icmp .ne 24, 3) := by decide +kernel
theorem dX6_begins_20 : decode cX6_begins 20 = .ok (.aload_n 0, 1) := by decide +kernel
theorem dX6_begins_21 : decode cX6_begins 21 = .ok (.getfield 21, 3) := by decide +kernel
theorem dX6_begins_24 : decode cX6_begins 24 = .ok (.iconst 4, 1) := by decide +kernel
theorem dX6_begins_25 : decode cX6_begins 25 = .ok (.if_icmp .ne 16, 3) := by decide +kernel
theorem dX6_begins_28 : decode cX6_begins 28 = .ok (.aload_n 0, 1) := by decide +kernel
theorem dX6_begins_29 : decode cX6_begins 29 = .ok (.getfield 55, 3) := by decide +kernel
theorem dX6_begins_32 : decode cX6_begins 32 = .ok (.iconst 2, 1) := by decide +kernel
theorem dX6_begins_33 : decode cX6_begins 33 = .ok (.if_icmp .ne 8, 3) := by decide +kernel
theorem dX6_begins_36 : decode cX6_begins 36 = .ok (.aload_n 0, 1) := by decide +kernel
theorem dX6_begins_37 : decode cX6_begins 37 = .ok (.iconst 4, 1) := by decide +kernel
theorem dX6_begins_38 : decode cX6_begins 38 = .ok (.putfield 55, 3) := by decide +kernel
theorem dX6_begins_41 : decode cX6_begins 41 = .ok (.iload_n 1, 1) := by decide +kernel
theorem dX6_begins_42 : decode cX6_begins 42 = .ok (.iconst 2, 1) := by decide +kernel
theorem dX6_begins_43 : decode cX6_begins 43 = .ok (.if_icmp .ne 37, 3) := by decide +kernel
theorem dX6_begins_46 : decode cX6_begins 46 = .ok (.aload_n 0, 1) := by decide +kernel
theorem dX6_begins_47 : decode cX6_begins 47 = .ok (.getfield 21, 3) := by decide +kernel
theorem dX6_begins_50 : decode cX6_begins 50 = .ok (.iconst 2, 1) := by decide +kernel
theorem dX6_begins_51 : decode cX6_begins 51 = .ok (.if_icmp .ne 29, 3) := by decide +kernel
theorem dX6_begins_54 : decode cX6_begins 54 = .ok (.aload_n 0, 1) := by decide +kernel
theorem dX6_begins_55 : decode cX6_begins 55 = .ok (.getfield 55, 3) := by decide +kernel
theorem dX6_begins_58 : decode cX6_begins 58 = .ok (.iconst 3, 1) := by decide +kernel
theorem dX6_begins_59 : decode cX6_begins 59 = .ok (.if_icmp .ne 21, 3) := by decide +kernel
theorem dX6_begins_62 : decode cX6_begins 62 = .ok (.aload_n 0, 1) := by decide +kernel
theorem dX6_begins_63 : decode cX6_begins 63 = .ok (.iconst 4, 1) := by decide +kernel
theorem dX6_begins_64 : decode cX6_begins 64 = .ok (.putfield 55, 3) := by decide +kernel
theorem dX6_begins_67 : decode cX6_begins 67 = .ok (.iload_n 2, 1) := by decide +kernel
theorem dX6_begins_68 : decode cX6_begins 68 = .ok (.sipush 248, 3) := by decide +kernel
theorem dX6_begins_71 : decode cX6_begins 71 = .ok (.if_icmp .ne 9, 3) := by decide +kernel
theorem dX6_begins_74 : decode cX6_begins 74 = .ok (.aload_n 0, 1) := by decide +kernel
theorem dX6_begins_75 : decode cX6_begins 75 = .ok (.bipush 32, 2) := by decide +kernel
theorem dX6_begins_77 : decode cX6_begins 77 = .ok (.invokevirtual 68, 3) := by decide +kernel
theorem dX6_begins_80 : decode cX6_begins 80 = .ok (.return_, 1) := by decide +kernel
set_option maxRecDepth 20000 in
theorem ggX6_idOver_X6_raise : GoodIn wsX6_idOver wsX6_raise := goodIn_r _ [12, 13, 23, 24, 25, 26, 27, 28, 29, 30, 31, 32, 33, 34, 35, 36, 37, 38, 39, 40, 41, 42, 43, 44, 45, 46, 47, 48, 49, 50, 51, 52, 53, 54] (by decide +kernel) (by decide +kernel)
set_option maxRecDepth 20000 in
theorem gX6_idOver_X6_raise : GoodIn wsX6_idOver (wsV RX6 68 RX6 yX6_raise wsX6_raise) := goodIn_app (goodIn_of _ (by decide +kernel)) ggX6_idOver_X6_raise
set_option maxRecDepth 20000 in
theorem ggX6_idOver_X6_end : GoodIn wsX6_idOver wsX6_end := goodIn_r _ [17, 4, 18, 19, 20, 21, 11, 22, 13, 23, 24, 25, 26, 27, 28, 29, 30, 31, 32, 33, 34, 35, 36, 37, 38, 39, 40, 41, 42, 43, 44, 45, 46, 47, 48, 49, 50, 51, 52, 53, 54] (by decide +kernel) (by decide +kernel)
set_option maxRecDepth 20000 in
theorem gX6_idOver_X6_end : GoodIn wsX6_idOver (wsV RX6 74 RX6 yX6_end wsX6_end) := goodIn_app (goodIn_of _ (by decide +kernel)) ggX6_idOver_X6_end
set_option maxRecDepth 20000 in
theorem ggX6_idOver_X6_drop : GoodIn wsX6_idOver wsX6_drop := goodIn_r _ [22, 13, 23, 24, 25, 26, 27, 28, 29, 30, 31, 32, 33, 34, 35, 36, 37, 38, 39, 40, 41, 42, 43, 44, 45, 46, 47, 48, 49, 50, 51, 52, 53, 54] (by decide +kernel) (by decide +kernel)
set_option maxRecDepth 20000 in
theorem gX6_idOver_X6_drop : GoodIn wsX6_idOver (wsV RX6 51 RX6 yX6_drop wsX6_drop) := goodIn_app (goodIn_of _ (by decide +kernel)) ggX6_idOver_X6_drop
theorem dX6_idOver_0 : decode cX6_idOver 0 = .ok (.iload_n 1, 1) := by decide +kernel
theorem dX6_idOver_1 : decode cX6_idOver 1 = .ok (.ifCond .eq 18, 3) := by decide +kernel
theorem dX6_idOver_4 : decode cX6_idOver 4 = .ok (.aload_n 0, 1) := by decide +kernel
theorem dX6_idOver_5 : decode cX6_idOver 5 = .ok (.bipush 16, 2) := by decide +kernel
theorem dX6_idOver_7 : decode cX6_idOver 7 = .ok (.aload_n 0, 1) := by decide +kernel
theorem dX6_idOver_8 : decode cX6_idOver 8 = .ok (.getfield 13, 3) := by decide +kernel
theorem dX6_idOver_11 : decode cX6_idOver 11 = .ok (.iconst 3, 1) := by decide +kernel
theorem dX6_idOver_12 : decode cX6_idOver 12 = .ok (.iaload, 1) := by decide +kernel
theorem dX6_idOver_13 : decode cX6_idOver 13 = .ok (.iconst 1, 1) := by decide +kernel
theorem dX6_idOver_14 : decode cX6_idOver 14 = .ok (.iand, 1) := by decide +kernel
theorem dX6_idOver_15 : decode cX6_idOver 15 = .ok (.ishl, 1) := by decide +kernel
theorem dX6_idOver_16 : decode cX6_idOver 16 = .ok (.putfield 17, 3) := by decide +kernel
theorem dX6_idOver_19 : decode cX6_idOver 19 = .ok (.aload_n 0, 1) := by decide +kernel
theorem dX6_idOver_20 : decode cX6_idOver 20 = .ok (.getfield 21, 3) := by decide +kernel
theorem dX6_idOver_23 : decode cX6_idOver 23 = .ok (.iconst 4, 1) := by decide +kernel
theorem dX6_idOver_24 : decode cX6_idOver 24 = .ok (.if_icmp .ne 36, 3) := by decide +kernel
theorem dX6_idOver_27 : decode cX6_idOver 27 = .ok (.aload_n 0, 1) := by decide +kernel
theorem dX6_idOver_28 : decode cX6_idOver 28 = .ok (.getfield 55, 3) := by decide +kernel
theorem dX6_idOver_31 : decode cX6_idOver 31 = .ok (.iconst 4, 1) := by decide +kernel
theorem dX6_idOver_32 : decode cX6_idOver 32 = .ok (.if_icmp .ne 28, 3) := by decide +kernel
theorem dX6_idOver_35 : decode cX6_idOver 35 = .ok (.aload_n 0, 1) := by decide +kernel
theorem dX6_idOver_36 : decode cX6_idOver 36 = .ok (.aload_n 0, 1) := by decide +kernel
theorem dX6_idOver_37 : decode cX6_idOver 37 = .ok (.getfield 13, 3) := by decide +kernel
theorem dX6_idOver_40 : decode cX6_idOver 40 = .ok (.iconst 0, 1) := by decide +kernel
theorem dX6_idOver_41 : decode cX6_idOver 41 = .ok (.iaload, 1) := by decide +kernel
theorem dX6_idOver_42 : decode cX6_idOver 42 = .ok (.putfield 71, 3) := by decide +kernel
theorem dX6_idOver_45 : decode cX6_idOver 45 = .ok (.iload_n 1, 1) := by decide +kernel
theorem dX6_idOver_46 : decode cX6_idOver 46 = .ok (.ifCond .ne 9, 3) := by decide +kernel
theorem dX6_idOver_49 : decode cX6_idOver 49 = .ok (.aload_n 0, 1) := by decide +kernel
theorem dX6_idOver_50 : decode cX6_idOver 50 = .ok (.bipush 8, 2) := by decide +kernel
theorem dX6_idOver_52 : decode cX6_idOver 52 = .ok (.invokevirtual 68, 3) := by decide +kernel
theorem dX6_idOver_55 : decode cX6_idOver 55 = .ok (.aload_n 0, 1) := by decide +kernel
theorem dX6_idOver_56 : decode cX6_idOver 56 = .ok (.invokevirtual 74, 3) := by decide +kernel
theorem dX6_idOver_59 : decode cX6_idOver 59 = .ok (.return_, 1) := by decide +kernel
theorem dX6_idOver_60 : decode cX6_idOver 60 = .ok (.aload_n 0, 1) := by decide +kernel
theorem dX6_idOver_61 : decode cX6_idOver 61 = .ok (.getfield 21, 3) := by decide +kernel
theorem dX6_idOver_64 : decode cX6_idOver 64 = .ok (.iconst 2, 1) := by decide +kernel
theorem dX6_idOver_65 : decode cX6_idOver 65 = .ok (.if_icmp .ne 19, 3) := by decide +kernel
theorem dX6_idOver_68 : decode cX6_idOver 68 = .ok (.aload_n 0, 1) := by decide +kernel
theorem dX6_idOver_69 : decode cX6_idOver 69 = .ok (.getfield 55, 3) := by decide +kernel
theorem dX6_idOver_72 : decode cX6_idOver 72 = .ok (.iconst 2, 1) := by decide +kernel
theorem dX6_idOver_73 : decode cX6_idOver 73 = .ok (.if_icmp .eq 27, 3) := by decide +kernel
theorem dX6_idOver_76 : decode cX6_idOver 76 = .ok (.aload_n 0, 1) := by decide +kernel
theorem dX6_idOver_77 : decode cX6_idOver 77 = .ok (.getfield 55, 3) := by decide +kernel
theorem dX6_idOver_80 : decode cX6_idOver 80 = .ok (.iconst 3, 1) := by decide +kernel
theorem dX6_idOver_81 : decode cX6_idOver 81 = .ok (.if_icmp .eq 19, 3) := by decide +kernel
theorem dX6_idOver_84 : decode cX6_idOver 84 = .ok (.aload_n 0, 1) := by decide +kernel
theorem dX6_idOver_85 : decode cX6_idOver 85 = .ok (.getfield 21, 3) := by decide +kernel
theorem dX6_idOver_88 : decode cX6_idOver 88 = .ok (.iconst 3, 1) := by decide +kernel
theorem dX6_idOver_89 : decode cX6_idOver 89 = .ok (.if_icmp .ne 15, 3) := by decide +kernel
theorem dX6_idOver_92 : decode cX6_idOver 92 = .ok (.aload_n 0, 1) := by decide +kernel
theorem dX6_idOver_93 : decode cX6_idOver 93 = .ok (.getfield 55, 3) := by decide +kernel
theorem dX6_idOver_96 : decode cX6_idOver 96 = .ok (.iconst 2, 1) := by decide +kernel
theorem dX6_idOver_97 : decode cX6_idOver 97 = .ok (.if_icmp .ne 7, 3) := by decide +kernel
theorem dX6_idOver_100 : decode cX6_idOver 100 = .ok (.iconst 1, 1) := by decide +kernel
theorem dX6_idOver_101 : decode cX6_idOver 101 = .ok (.goto 4, 3) := by decide +kernel
theorem dX6_idOver_104 : decode cX6_idOver 104 = .ok (.iconst 0, 1) := by decide +kernel
theorem dX6_idOver_105 : decode cX6_idOver 105 = .ok (.istore_n 2, 1) := by decide +kernel
theorem dX6_idOver_106 : decode cX6_idOver 106 = .ok (.iload_n 2, 1) := by decide +kernel
theorem dX6_idOver_107 : decode cX6_idOver 107 = .ok (.ifCond .ne 4, 3) := by decide +kernel
theorem dX6_idOver_110 : decode cX6_idOver 110 = .ok (.return_, 1) := by decide +kernel
theorem dX6_idOver_111 : decode cX6_idOver 111 = .ok (.iload_n 1, 1) := by decide +kernel
theorem dX6_idOver_112 : decode cX6_idOver 112 = .ok (.ifCond .ne 10, 3) := by decide +kernel
theorem dX6_idOver_115 : decode cX6_idOver 115 = .ok (.aload_n 0, 1) := by decide +kernel
theorem dX6_idOver_116 : decode cX6_idOver 116 = .ok (.bipush 8, 2) := by decide +kernel
theorem dX6_idOver_118 : decode cX6_idOver 118 = .ok (.invokevirtual 68, 3) := by decide +kernel
theorem dX6_idOver_121 : decode cX6_idOver 121 = .ok (.return_, 1) := by decide +kernel
theorem dX6_idOver_122 : decode cX6_idOver 122 = .ok (.aload_n 0, 1) := by decide +kernel
theorem dX6_idOver_123 : decode cX6_idOver 123 = .ok (.bipush 8, 2) := by decide +kernel
theorem dX6_idOver_125 : decode cX6_idOver 125 = .ok (.invokevirtual 51, 3) := by decide +kernel
theorem dX6_idOver_128 : decode cX6_idOver 128 = .ok (.aload_n 0, 1) := by decide +kernel
theorem dX6_idOver_129 : decode cX6_idOver 129 = .ok (.getfield 13, 3) := by decide +kernel
theorem dX6_idOver_132 : decode cX6_idOver 132 = .ok (.iconst 0, 1) := by decide +kernel
theorem dX6_idOver_133 : decode cX6_idOver 133 = .ok (.iaload, 1) := by decide +kernel
theorem dX6_idOver_134 : decode cX6_idOver 134 = .ok (.aload_n 0, 1) := by decide +kernel
theorem dX6_idOver_135 : decode cX6_idOver 135 = .ok (.getfield 77, 3) := by decide +kernel
theorem dX6_idOver_138 : decode cX6_idOver 138 = .ok (.if_icmp .ne 51, 3) := by decide +kernel
theorem dX6_idOver_141 : decode cX6_idOver 141 = .ok (.aload_n 0, 1) := by decide +kernel
theorem dX6_idOver_142 : decode cX6_idOver 142 = .ok (.getfield 13, 3) := by decide +kernel
theorem dX6_idOver_145 : decode cX6_idOver 145 = .ok (.iconst 2, 1) := by decide +kernel
theorem dX6_idOver_146 : decode cX6_idOver 146 = .ok (.iaload, 1) := by decide +kernel
theorem dX6_idOver_147 : decode cX6_idOver 147 = .ok (.aload_n 0, 1) := by decide +kernel
theorem dX6_idOver_148 : decode cX6_idOver 148 = .ok (.getfield 71, 3) := by decide +kernel
theorem dX6_idOver_151 : decode cX6_idOver 151 = .ok (.if_icmp .ne 38, 3) := by decide +kernel
theorem dX6_idOver_154 : decode cX6_idOver 154 = .ok (.aload_n 0, 1) := by decide +kernel
theorem dX6_idOver_155 : decode cX6_idOver 155 = .ok (.aload_n 0, 1) := by decide +kernel
theorem dX6_idOver_156 : decode cX6_idOver 156 = .ok (.getfield 21, 3) := by decide +kernel
theorem dX6_idOver_159 : decode cX6_idOver 159 = .ok (.iconst 2, 1) := by decide +kernel
theorem dX6_idOver_160 : decode cX6_idOver 160 = .ok (.if_icmp .ne 7, 3) := by decide +kernel
theorem dX6_idOver_163 : decode cX6_idOver 163 = .ok (.iconst 3, 1) := by decide +kernel
theorem dX6_idOver_164 : decode cX6_idOver 164 = .ok (.goto 4, 3) := by decide +kernel
theorem dX6_idOver_167 : decode cX6_idOver 167 = .ok (.iconst 5, 1) := by decide +kernel
theorem dX6_idOver_168 : decode cX6_idOver 168 = .ok (.putfield 55, 3) := by decide +kernel
theorem dX6_idOver_171 : decode cX6_idOver 171 = .ok (.aload_n 0, 1) := by decide +kernel
theorem dX6_idOver_172 : decode cX6_idOver 172 = .ok (.iconst 1, 1) := by decide +kernel
theorem dX6_idOver_173 : decode cX6_idOver 173 = .ok (.putfield 80, 3) := by decide +kernel
theorem dX6_idOver_176 : decode cX6_idOver 176 = .ok (.aload_n 0, 1) := by decide +kernel
theorem dX6_idOver_177 : decode cX6_idOver 177 = .ok (.getfield 21, 3) := by decide +kernel
theorem dX6_idOver_180 : decode cX6_idOver 180 = .ok (.iconst 3, 1) := by decide +kernel
theorem dX6_idOver_181 : decode cX6_idOver 181 = .ok (.if_icmp .ne 8, 3) := by decide +kernel
theorem dX6_idOver_184 : decode cX6_idOver 184 = .ok (.aload_n 0, 1) := by decide +kernel
theorem dX6_idOver_185 : decode cX6_idOver 185 = .ok (.iconst 2, 1) := by decide +kernel
theorem dX6_idOver_186 : decode cX6_idOver 186 = .ok (.invokevirtual 68, 3) := by decide +kernel
theorem dX6_idOver_189 : decode cX6_idOver 189 = .ok (.return_, 1) := by decide +kernel
set_option maxRecDepth 20000 in
theorem ggX6_dataOver_X6_raise : GoodIn wsX6_dataOver wsX6_raise := goodIn_r _ [7, 8, 18, 19, 20, 21, 22, 23, 24, 25, 26, 27, 28, 29, 30, 31, 32, 33, 34, 35, 36, 37, 38, 39, 40, 41, 42, 43, 44, 45, 46, 47, 48, 49] (by decide +kernel) (by decide +kernel)
set_option maxRecDepth 20000 in
theorem gX6_dataOver_X6_raise : GoodIn wsX6_dataOver (wsV RX6 68 RX6 yX6_raise wsX6_raise) := goodIn_app (goodIn_of _ (by decide +kernel)) ggX6_dataOver_X6_raise
set_option maxRecDepth 20000 in
theorem ggX6_dataOver_X6_end : GoodIn wsX6_dataOver wsX6_end := goodIn_r _ [12, 2, 13, 14, 15, 16, 6, 17, 8, 18, 19, 20, 21, 22, 23, 24, 25, 26, 27, 28, 29, 30, 31, 32, 33, 34, 35, 36, 37, 38, 39, 40, 41, 42, 43, 44, 45, 46, 47, 48, 49] (by decide +kernel) (by decide +kernel)
set_option maxRecDepth 20000 in
theorem gX6_dataOver_X6_end : GoodIn wsX6_dataOver (wsV RX6 74 RX6 yX6_end wsX6_end) := goodIn_app (goodIn_of _ (by decide +kernel)) ggX6_dataOver_X6_end
theorem dX6_dataOver_0 : decode cX6_dataOver 0 = .ok (.aload_n 0, 1) := by decide +kernel
theorem dX6_dataOver_1 : decode cX6_dataOver 1 = .ok (.getfield 21, 3) := by decide +kernel
theorem dX6_dataOver_4 : decode cX6_dataOver 4 = .ok (.iconst 2, 1) := by decide +kernel
theorem dX6_dataOver_5 : decode cX6_dataOver 5 = .ok (.if_icmp .ne 25, 3) := by decide +kernel
theorem dX6_dataOver_8 : decode cX6_dataOver 8 = .ok (.aload_n 0, 1) := by decide +kernel
theorem dX6_dataOver_9 : decode cX6_dataOver 9 = .ok (.getfield 55, 3) := by decide +kernel
theorem dX6_dataOver_12 : decode cX6_dataOver 12 = .ok (.iconst 4, 1) := by decide +kernel
theorem dX6_dataOver_13 : decode cX6_dataOver 13 = .ok (.if_icmp .ne 17, 3) := by decide +kernel
theorem dX6_dataOver_16 : decode cX6_dataOver 16 = .ok (.iload_n 1, 1) := by decide +kernel
theorem dX6_dataOver_17 : decode cX6_dataOver 17 = .ok (.ifCond .ne 9, 3) := by decide +kernel
theorem dX6_dataOver_20 : decode cX6_dataOver 20 = .ok (.aload_n 0, 1) := by decide +kernel
theorem dX6_dataOver_21 : decode cX6_dataOver 21 = .ok (.bipush 8, 2) := by decide +kernel
theorem dX6_dataOver_23 : decode cX6_dataOver 23 = .ok (.invokevirtual 68, 3) := by decide +kernel
theorem dX6_dataOver_26 : decode cX6_dataOver 26 = .ok (.aload_n 0, 1) := by decide +kernel
theorem dX6_dataOver_27 : decode cX6_dataOver 27 = .ok (.invokevirtual 74, 3) := by decide +kernel
theorem dX6_dataOver_30 : decode cX6_dataOver 30 = .ok (.return_, 1) := by decide +kernel
set_option maxRecDepth 20000 in
theorem ggX6_comes_X6_begins : GoodIn wsX6_comes wsX6_begins := goodIn_r _ [13, 1, 14, 5, 8, 7, 15, 16, 17, 12, 18, 19, 57, 58, 59, 60, 61, 62, 63, 64, 65, 66, 67, 68, 69, 70, 71, 72, 73, 74, 75, 76, 77, 78, 79, 80, 81, 82, 83, 84, 85, 86, 87, 88] (by decide +kernel) (by decide +kernel)
set_option maxRecDepth 20000 in
theorem gX6_comes_X6_begins : GoodIn wsX6_comes (wsV RX6 83 RX6 yX6_begins wsX6_begins) := goodIn_app (goodIn_of _ (by decide +kernel)) ggX6_comes_X6_begins
set_option maxRecDepth 20000 in
theorem ggX6_comes_X6_receive : GoodIn wsX6_comes wsX6_receive := goodIn_r _ [23, 24, 25, 26, 27, 12, 28, 19, 15, 16, 17, 18, 57, 58, 59, 60, 61, 62, 63, 64, 65, 66, 67, 68, 69, 70, 71, 72, 73, 74, 75, 76, 77, 78, 79, 80, 81, 82, 83, 84, 85, 86, 87, 88] (by decide +kernel) (by decide +kernel)
set_option maxRecDepth 20000 in
theorem gX6_comes_X6_receive : GoodIn wsX6_comes (wsV RX6 87 RX6 yX6_receive wsX6_receive) := goodIn_app (goodIn_of _ (by decide +kernel)) ggX6_comes_X6_receive
set_option maxRecDepth 20000 in
theorem ggX6_comes_X6_isRight : GoodIn wsX6_comes wsX6_isRight := goodIn_r _ [32, 33, 14, 5, 4, 34, 35, 12, 36, 57, 58, 59, 60, 61, 62, 63, 64, 65, 66, 67, 68, 69, 70, 71, 72, 73, 74, 75, 76, 77, 78, 79, 80, 81, 82, 83, 84, 85, 86, 87, 88] (by decide +kernel) (by decide +kernel)
set_option maxRecDepth 20000 in
theorem gX6_comes_X6_isRight : GoodIn wsX6_comes (wsV RX6 90 RX6 yX6_isRight wsX6_isRight) := goodIn_app (goodIn_of _ (by decide +kernel)) ggX6_comes_X6_isRight
set_option maxRecDepth 20000 in
theorem ggX6_comes_X6_idOver : GoodIn wsX6_comes wsX6_idOver := goodIn_r _ [40, 4, 6, 8, 7, 41, 42, 43, 15, 16, 17, 12, 18, 19, 44, 45, 46, 47, 48, 49, 50, 51, 52, 57, 58, 59, 60, 61, 62, 63, 64, 65, 66, 67, 68, 69, 70, 71, 72, 73, 74, 75, 76, 77, 78, 79, 80, 81, 82, 83, 84, 85, 86, 87, 88] (by decide +kernel) (by decide +kernel)
set_option maxRecDepth 20000 in
theorem gX6_comes_X6_idOver : GoodIn wsX6_comes (wsV RX6 94 RX6 yX6_idOver wsX6_idOver) := goodIn_app (goodIn_of _ (by decide +kernel)) ggX6_comes_X6_idOver
set_option maxRecDepth 20000 in
theorem ggX6_comes_X6_dataOver : GoodIn wsX6_comes wsX6_dataOver := goodIn_r _ [56, 8, 7, 15, 16, 17, 12, 18, 19, 44, 45, 46, 47, 48, 49, 50, 51, 52, 57, 58, 59, 60, 61, 62, 63, 64, 65, 66, 67, 68, 69, 70, 71, 72, 73, 74, 75, 76, 77, 78, 79, 80, 81, 82, 83, 84, 85, 86, 87, 88] (by decide +kernel) (by decide +kernel)
set_option maxRecDepth 20000 in
theorem gX6_comes_X6_dataOver : GoodIn wsX6_comes (wsV RX6 98 RX6 yX6_dataOver wsX6_dataOver) := goodIn_app (goodIn_of _ (by decide +kernel)) ggX6_comes_X6_dataOver
theorem dX6_comes_0 : decode cX6_comes 0 = .ok (.aload_n 0, 1) := by decide +kernel
theorem dX6_comes_1 : decode cX6_comes 1 = .ok (.getfield 48, 3) := by decide +kernel
theorem dX6_comes_4 : decode cX6_comes 4 = .ok (.ifCond .ne 97, 3) := by decide +kernel
theorem dX6_comes_7 : decode cX6_comes 7 = .ok (.aload_n 0, 1) := by decide +kernel
theorem dX6_comes_8 : decode cX6_comes 8 = .ok (.getfield 45, 3) := by decide +kernel
theorem dX6_comes_11 : decode cX6_comes 11 = .ok (.iconst 2, 1) := by decide +kernel
theorem dX6_comes_12 : decode cX6_comes 12 = .ok (.if_icmp .le 14, 3) := by decide +kernel
theorem dX6_comes_15 : decode cX6_comes 15 = .ok (.iload_n 1, 1) := by decide +kernel
theorem dX6_comes_16 : decode cX6_comes 16 = .ok (.sipush 254, 3) := by decide +kernel
theorem dX6_comes_19 : decode cX6_comes 19 = .ok (.if_icmp .ne 7, 3) := by decide +kernel
theorem dX6_comes_22 : decode cX6_comes 22 = .ok (.iconst 1, 1) := by decide +kernel
theorem dX6_comes_23 : decode cX6_comes 23 = .ok (.goto 4, 3) := by decide +kernel
theorem dX6_comes_26 : decode cX6_comes 26 = .ok (.iconst 0, 1) := by decide +kernel
theorem dX6_comes_27 : decode cX6_comes 27 = .ok (.istore_n 2, 1) := by decide +kernel
theorem dX6_comes_28 : decode cX6_comes 28 = .ok (.aload_n 0, 1) := by decide +kernel
theorem dX6_comes_29 : decode cX6_comes 29 = .ok (.getfield 45, 3) := by decide +kernel
theorem dX6_comes_32 : decode cX6_comes 32 = .ok (.iconst 2, 1) := by decide +kernel
theorem dX6_comes_33 : decode cX6_comes 33 = .ok (.if_icmp .le 21, 3) := by decide +kernel
theorem dX6_comes_36 : decode cX6_comes 36 = .ok (.iload_n 1, 1) := by decide +kernel
theorem dX6_comes_37 : decode cX6_comes 37 = .ok (.sipush 251, 3) := by decide +kernel
theorem dX6_comes_40 : decode cX6_comes 40 = .ok (.if_icmp .eq 10, 3) := by decide +kernel
theorem dX6_comes_43 : decode cX6_comes 43 = .ok (.iload_n 1, 1) := by decide +kernel
theorem dX6_comes_44 : decode cX6_comes 44 = .ok (.sipush 248, 3) := by decide +kernel
theorem dX6_comes_47 : decode cX6_comes 47 = .ok (.if_icmp .ne 7, 3) := by decide +kernel
theorem dX6_comes_50 : decode cX6_comes 50 = .ok (.iconst 1, 1) := by decide +kernel
theorem dX6_comes_51 : decode cX6_comes 51 = .ok (.goto 4, 3) := by decide +kernel
theorem dX6_comes_54 : decode cX6_comes 54 = .ok (.iconst 0, 1) := by decide +kernel
theorem dX6_comes_55 : decode cX6_comes 55 = .ok (.istore_n 3, 1) := by decide +kernel
theorem dX6_comes_56 : decode cX6_comes 56 = .ok (.aload_n 0, 1) := by decide +kernel
theorem dX6_comes_57 : decode cX6_comes 57 = .ok (.iconst 0, 1) := by decide +kernel
theorem dX6_comes_58 : decode cX6_comes 58 = .ok (.putfield 45, 3) := by decide +kernel
theorem dX6_comes_61 : decode cX6_comes 61 = .ok (.aload_n 0, 1) := by decide +kernel
theorem dX6_comes_62 : decode cX6_comes 62 = .ok (.iload_n 2, 1) := by decide +kernel
theorem dX6_comes_63 : decode cX6_comes 63 = .ok (.ifCond .ne 7, 3) := by decide +kernel
theorem dX6_comes_66 : decode cX6_comes 66 = .ok (.iload_n 3, 1) := by decide +kernel
theorem dX6_comes_67 : decode cX6_comes 67 = .ok (.ifCond .eq 7, 3) := by decide +kernel
theorem dX6_comes_70 : decode cX6_comes 70 = .ok (.iconst 1, 1) := by decide +kernel
theorem dX6_comes_71 : decode cX6_comes 71 = .ok (.goto 4, 3) := by decide +kernel
theorem dX6_comes_74 : decode cX6_comes 74 = .ok (.iconst 0, 1) := by decide +kernel
theorem dX6_comes_75 : decode cX6_comes 75 = .ok (.putfield 41, 3) := by decide +kernel
theorem dX6_comes_78 : decode cX6_comes 78 = .ok (.iload_n 2, 1) := by decide +kernel
theorem dX6_comes_79 : decode cX6_comes 79 = .ok (.ifCond .ne 7, 3) := by decide +kernel
theorem dX6_comes_82 : decode cX6_comes 82 = .ok (.iload_n 3, 1) := by decide +kernel
theorem dX6_comes_83 : decode cX6_comes 83 = .ok (.ifCond .eq 17, 3) := by decide +kernel
theorem dX6_comes_86 : decode cX6_comes 86 = .ok (.aload_n 0, 1) := by decide +kernel
theorem dX6_comes_87 : decode cX6_comes 87 = .ok (.iload_n 2, 1) := by decide +kernel
theorem dX6_comes_88 : decode cX6_comes 88 = .ok (.ifCond .eq 7, 3) := by decide +kernel
theorem dX6_comes_91 : decode cX6_comes 91 = .ok (.iconst 1, 1) := by decide +kernel
theorem dX6_comes_92 : decode cX6_comes 92 = .ok (.goto 4, 3) := by decide +kernel
theorem dX6_comes_95 : decode cX6_comes 95 = .ok (.iconst 2, 1) := by decide +kernel
theorem dX6_comes_96 : decode cX6_comes 96 = .ok (.iload_n 1, 1) := by decide +kernel
theorem dX6_comes_97 : decode cX6_comes 97 = .ok (.invokevirtual 83, 3) := by decide +kernel
theorem dX6_comes_100 : decode cX6_comes 100 = .ok (.return_, 1) := by decide +kernel
theorem dX6_comes_101 : decode cX6_comes 101 = .ok (.aload_n 0, 1) := by decide +kernel
theorem dX6_comes_102 : decode cX6_comes 102 = .ok (.getfield 13, 3) := by decide +kernel
theorem dX6_comes_105 : decode cX6_comes 105 = .ok (.aload_n 0, 1) := by decide +kernel
theorem dX6_comes_106 : decode cX6_comes 106 = .ok (.getfield 35, 3) := by decide +kernel
theorem dX6_comes_109 : decode cX6_comes 109 = .ok (.iload_n 1, 1) := by decide +kernel
theorem dX6_comes_110 : decode cX6_comes 110 = .ok (.iastore, 1) := by decide +kernel
theorem dX6_comes_111 : decode cX6_comes 111 = .ok (.aload_n 0, 1) := by decide +kernel
theorem dX6_comes_112 : decode cX6_comes 112 = .ok (.dup, 1) := by decide +kernel
theorem dX6_comes_113 : decode cX6_comes 113 = .ok (.getfield 35, 3) := by decide +kernel
theorem dX6_comes_116 : decode cX6_comes 116 = .ok (.iconst 1, 1) := by decide +kernel
theorem dX6_comes_117 : decode cX6_comes 117 = .ok (.iadd, 1) := by decide +kernel
theorem dX6_comes_118 : decode cX6_comes 118 = .ok (.putfield 35, 3) := by decide +kernel
theorem dX6_comes_121 : decode cX6_comes 121 = .ok (.aload_n 0, 1) := by decide +kernel
theorem dX6_comes_122 : decode cX6_comes 122 = .ok (.getfield 48, 3) := by decide +kernel
theorem dX6_comes_125 : decode cX6_comes 125 = .ok (.iconst 1, 1) := by decide +kernel
theorem dX6_comes_126 : decode cX6_comes 126 = .ok (.if_icmp .ne 8, 3) := by decide +kernel
theorem dX6_comes_129 : decode cX6_comes 129 = .ok (.bipush 6, 2) := by decide +kernel
theorem dX6_comes_131 : decode cX6_comes 131 = .ok (.goto 9, 3) := by decide +kernel
theorem dX6_comes_134 : decode cX6_comes 134 = .ok (.aload_n 0, 1) := by decide +kernel
theorem dX6_comes_135 : decode cX6_comes 135 = .ok (.getfield 17, 3) := by decide +kernel
theorem dX6_comes_138 : decode cX6_comes 138 = .ok (.iconst 2, 1) := by decide +kernel
theorem dX6_comes_139 : decode cX6_comes 139 = .ok (.iadd, 1) := by decide +kernel
theorem dX6_comes_140 : decode cX6_comes 140 = .ok (.istore_n 2, 1) := by decide +kernel
theorem dX6_comes_141 : decode cX6_comes 141 = .ok (.aload_n 0, 1) := by decide +kernel
theorem dX6_comes_142 : decode cX6_comes 142 = .ok (.getfield 55, 3) := by decide +kernel
theorem dX6_comes_145 : decode cX6_comes 145 = .ok (.iconst 4, 1) := by decide +kernel
theorem dX6_comes_146 : decode cX6_comes 146 = .ok (.if_icmp .ne 27, 3) := by decide +kernel
theorem dX6_comes_149 : decode cX6_comes 149 = .ok (.aload_n 0, 1) := by decide +kernel
theorem dX6_comes_150 : decode cX6_comes 150 = .ok (.getfield 21, 3) := by decide +kernel
theorem dX6_comes_153 : decode cX6_comes 153 = .ok (.iconst 4, 1) := by decide +kernel
theorem dX6_comes_154 : decode cX6_comes 154 = .ok (.if_icmp .eq 14, 3) := by decide +kernel
theorem dX6_comes_157 : decode cX6_comes 157 = .ok (.aload_n 0, 1) := by decide +kernel
theorem dX6_comes_158 : decode cX6_comes 158 = .ok (.getfield 35, 3) := by decide +kernel
theorem dX6_comes_161 : decode cX6_comes 161 = .ok (.aload_n 0, 1) := by decide +kernel
theorem dX6_comes_162 : decode cX6_comes 162 = .ok (.getfield 17, 3) := by decide +kernel
theorem dX6_comes_165 : decode cX6_comes 165 = .ok (.if_icmp .gt 8, 3) := by decide +kernel
theorem dX6_comes_168 : decode cX6_comes 168 = .ok (.aload_n 0, 1) := by decide +kernel
theorem dX6_comes_169 : decode cX6_comes 169 = .ok (.iload_n 1, 1) := by decide +kernel
theorem dX6_comes_170 : decode cX6_comes 170 = .ok (.invokevirtual 87, 3) := by decide +kernel
theorem dX6_comes_173 : decode cX6_comes 173 = .ok (.aload_n 0, 1) := by decide +kernel
theorem dX6_comes_174 : decode cX6_comes 174 = .ok (.getfield 35, 3) := by decide +kernel
theorem dX6_comes_177 : decode cX6_comes 177 = .ok (.iload_n 2, 1) := by decide +kernel
theorem dX6_comes_178 : decode cX6_comes 178 = .ok (.if_icmp .ne 44, 3) := by decide +kernel
theorem dX6_comes_181 : decode cX6_comes 181 = .ok (.aload_n 0, 1) := by decide +kernel
theorem dX6_comes_182 : decode cX6_comes 182 = .ok (.getfield 48, 3) := by decide +kernel
theorem dX6_comes_185 : decode cX6_comes 185 = .ok (.istore_n 3, 1) := by decide +kernel
theorem dX6_comes_186 : decode cX6_comes 186 = .ok (.aload_n 0, 1) := by decide +kernel
theorem dX6_comes_187 : decode cX6_comes 187 = .ok (.iconst 0, 1) := by decide +kernel
theorem dX6_comes_188 : decode cX6_comes 188 = .ok (.putfield 48, 3) := by decide +kernel
theorem dX6_comes_191 : decode cX6_comes 191 = .ok (.aload_n 0, 1) := by decide +kernel
theorem dX6_comes_192 : decode cX6_comes 192 = .ok (.iconst 0, 1) := by decide +kernel
theorem dX6_comes_193 : decode cX6_comes 193 = .ok (.putfield 41, 3) := by decide +kernel
theorem dX6_comes_196 : decode cX6_comes 196 = .ok (.aload_n 0, 1) := by decide +kernel
theorem dX6_comes_197 : decode cX6_comes 197 = .ok (.invokevirtual 90, 3) := by decide +kernel
theorem dX6_comes_200 : decode cX6_comes 200 = .ok (.istore 4, 2) := by decide +kernel
theorem dX6_comes_202 : decode cX6_comes 202 = .ok (.iload_n 3, 1) := by decide +kernel
theorem dX6_comes_203 : decode cX6_comes 203 = .ok (.iconst 1, 1) := by decide +kernel
theorem dX6_comes_204 : decode cX6_comes 204 = .ok (.if_icmp .ne 12, 3) := by decide +kernel
theorem dX6_comes_207 : decode cX6_comes 207 = .ok (.aload_n 0, 1) := by decide +kernel
theorem dX6_comes_208 : decode cX6_comes 208 = .ok (.iload 4, 2) := by decide +kernel
theorem dX6_comes_210 : decode cX6_comes 210 = .ok (.invokevirtual 94, 3) := by decide +kernel
theorem dX6_comes_213 : decode cX6_comes 213 = .ok (.goto 9, 3) := by decide +kernel
theorem dX6_comes_216 : decode cX6_comes 216 = .ok (.aload_n 0, 1) := by decide +kernel
theorem dX6_comes_217 : decode cX6_comes 217 = .ok (.iload 4, 2) := by decide +kernel
theorem dX6_comes_219 : decode cX6_comes 219 = .ok (.invokevirtual 98, 3) := by decide +kernel
theorem dX6_comes_222 : decode cX6_comes 222 = .ok (.return_, 1) := by decide +kernel
set_option maxRecDepth 20000 in
theorem ggX6_readCell_X6_comes : GoodIn wsX6_readCell wsX6_comes := goodIn_r _ [14, 8, 9, 7, 15, 16, 17, 18, 19, 20, 21, 22, 13, 23, 24, 25, 26, 27, 28, 29, 30, 31, 32, 33, 34, 35, 36, 37, 38, 39, 40, 41, 42, 5, 43, 44, 45, 46, 47, 48, 49, 50, 51, 52, 53, 54, 55, 56, 1, 57, 58, 59, 60, 61, 62, 63, 64, 65, 66, 67, 68, 69, 70, 71, 72, 73, 74, 75, 76, 77, 78, 79, 80, 81, 82, 83, 84, 85, 86, 87, 88, 89, 90, 91, 92, 93, 94, 95, 96] (by decide +kernel) (by decide +kernel)
set_option maxRecDepth 20000 in
theorem gX6_readCell_X6_comes : GoodIn wsX6_readCell (wsV RX6 110 RX6 yX6_comes wsX6_comes) := goodIn_app (goodIn_of _ (by decide +kernel)) ggX6_readCell_X6_comes
theorem dX6_readCell_0 : decode cX6_readCell 0 = .ok (.aload_n 0, 1) := by decide +kernel
theorem dX6_readCell_1 : decode cX6_readCell 1 = .ok (.aload_n 0, 1) := by decide +kernel
theorem dX6_readCell_2 : decode cX6_readCell 2 = .ok (.getfield 58, 3) := by decide +kernel
theorem dX6_readCell_5 : decode cX6_readCell 5 = .ok (.iconst 1, 1) := by decide +kernel
theorem dX6_readCell_6 : decode cX6_readCell 6 = .ok (.ishl, 1) := by decide +kernel
theorem dX6_readCell_7 : decode cX6_readCell 7 = .ok (.aload_n 0, 1) := by decide +kernel
theorem dX6_readCell_8 : decode cX6_readCell 8 = .ok (.getfield 7, 3) := by decide +kernel
theorem dX6_readCell_11 : decode cX6_readCell 11 = .ok (.sipush 2400, 3) := by decide +kernel
theorem dX6_readCell_14 : decode cX6_readCell 14 = .ok (.aload_n 0, 1) := by decide +kernel
theorem dX6_readCell_15 : decode cX6_readCell 15 = .ok (.getfield 101, 3) := by decide +kernel
theorem dX6_readCell_18 : decode cX6_readCell 18 = .ok (.imul, 1) := by decide +kernel
theorem dX6_readCell_19 : decode cX6_readCell 19 = .ok (.aload_n 0, 1) := by decide +kernel
theorem dX6_readCell_20 : decode cX6_readCell 20 = .ok (.getfield 104, 3) := by decide +kernel
theorem dX6_readCell_23 : decode cX6_readCell 23 = .ok (.iadd, 1) := by decide +kernel
theorem dX6_readCell_24 : decode cX6_readCell 24 = .ok (.baload, 1) := by decide +kernel
theorem dX6_readCell_25 : decode cX6_readCell 25 = .ok (.ifCond .eq 7, 3) := by decide +kernel
theorem dX6_readCell_28 : decode cX6_readCell 28 = .ok (.iconst 1, 1) := by decide +kernel
theorem dX6_readCell_29 : decode cX6_readCell 29 = .ok (.goto 4, 3) := by decide +kernel
theorem dX6_readCell_32 : decode cX6_readCell 32 = .ok (.iconst 0, 1) := by decide +kernel
theorem dX6_readCell_33 : decode cX6_readCell 33 = .ok (.ior, 1) := by decide +kernel
theorem dX6_readCell_34 : decode cX6_readCell 34 = .ok (.ldc 27, 2) := by decide +kernel
theorem dX6_readCell_36 : decode cX6_readCell 36 = .ok (.iand, 1) := by decide +kernel
theorem dX6_readCell_37 : decode cX6_readCell 37 = .ok (.putfield 58, 3) := by decide +kernel
theorem dX6_readCell_40 : decode cX6_readCell 40 = .ok (.aload_n 0, 1) := by decide +kernel
theorem dX6_readCell_41 : decode cX6_readCell 41 = .ok (.dup, 1) := by decide +kernel
theorem dX6_readCell_42 : decode cX6_readCell 42 = .ok (.getfield 107, 3) := by decide +kernel
theorem dX6_readCell_45 : decode cX6_readCell 45 = .ok (.iconst 1, 1) := by decide +kernel
theorem dX6_readCell_46 : decode cX6_readCell 46 = .ok (.iadd, 1) := by decide +kernel
theorem dX6_readCell_47 : decode cX6_readCell 47 = .ok (.putfield 107, 3) := by decide +kernel
theorem dX6_readCell_50 : decode cX6_readCell 50 = .ok (.aload_n 0, 1) := by decide +kernel
theorem dX6_readCell_51 : decode cX6_readCell 51 = .ok (.getfield 58, 3) := by decide +kernel
theorem dX6_readCell_54 : decode cX6_readCell 54 = .ok (.sipush 17545, 3) := by decide +kernel
theorem dX6_readCell_57 : decode cX6_readCell 57 = .ok (.if_icmp .ne 40, 3) := by decide +kernel
theorem dX6_readCell_60 : decode cX6_readCell 60 = .ok (.aload_n 0, 1) := by decide +kernel
theorem dX6_readCell_61 : decode cX6_readCell 61 = .ok (.getfield 41, 3) := by decide +kernel
theorem dX6_readCell_64 : decode cX6_readCell 64 = .ok (.ifCond .eq 10, 3) := by decide +kernel
theorem dX6_readCell_67 : decode cX6_readCell 67 = .ok (.aload_n 0, 1) := by decide +kernel
theorem dX6_readCell_68 : decode cX6_readCell 68 = .ok (.getfield 48, 3) := by decide +kernel
theorem dX6_readCell_71 : decode cX6_readCell 71 = .ok (.ifCond .ne 26, 3) := by decide +kernel
theorem dX6_readCell_74 : decode cX6_readCell 74 = .ok (.aload_n 0, 1) := by decide +kernel
theorem dX6_readCell_75 : decode cX6_readCell 75 = .ok (.iconst 1, 1) := by decide +kernel
theorem dX6_readCell_76 : decode cX6_readCell 76 = .ok (.putfield 41, 3) := by decide +kernel
theorem dX6_readCell_79 : decode cX6_readCell 79 = .ok (.aload_n 0, 1) := by decide +kernel
theorem dX6_readCell_80 : decode cX6_readCell 80 = .ok (.dup, 1) := by decide +kernel
theorem dX6_readCell_81 : decode cX6_readCell 81 = .ok (.getfield 45, 3) := by decide +kernel
theorem dX6_readCell_84 : decode cX6_readCell 84 = .ok (.iconst 1, 1) := by decide +kernel
theorem dX6_readCell_85 : decode cX6_readCell 85 = .ok (.iadd, 1) := by decide +kernel
theorem dX6_readCell_86 : decode cX6_readCell 86 = .ok (.putfield 45, 3) := by decide +kernel
theorem dX6_readCell_89 : decode cX6_readCell 89 = .ok (.aload_n 0, 1) := by decide +kernel
theorem dX6_readCell_90 : decode cX6_readCell 90 = .ok (.iconst 0, 1) := by decide +kernel
theorem dX6_readCell_91 : decode cX6_readCell 91 = .ok (.putfield 107, 3) := by decide +kernel
theorem dX6_readCell_94 : decode cX6_readCell 94 = .ok (.goto 57, 3) := by decide +kernel
theorem dX6_readCell_97 : decode cX6_readCell 97 = .ok (.aload_n 0, 1) := by decide +kernel
theorem dX6_readCell_98 : decode cX6_readCell 98 = .ok (.getfield 41, 3) := by decide +kernel
theorem dX6_readCell_101 : decode cX6_readCell 101 = .ok (.ifCond .eq 50, 3) := by decide +kernel
theorem dX6_readCell_104 : decode cX6_readCell 104 = .ok (.aload_n 0, 1) := by decide +kernel
theorem dX6_readCell_105 : decode cX6_readCell 105 = .ok (.getfield 107, 3) := by decide +kernel
theorem dX6_readCell_108 : decode cX6_readCell 108 = .ok (.bipush 16, 2) := by decide +kernel
theorem dX6_readCell_110 : decode cX6_readCell 110 = .ok (.if_icmp .ne 41, 3) := by decide +kernel
theorem dX6_readCell_113 : decode cX6_readCell 113 = .ok (.aload_n 0, 1) := by decide +kernel
theorem dX6_readCell_114 : decode cX6_readCell 114 = .ok (.iconst 0, 1) := by decide +kernel
theorem dX6_readCell_115 : decode cX6_readCell 115 = .ok (.putfield 107, 3) := by decide +kernel
theorem dX6_readCell_118 : decode cX6_readCell 118 = .ok (.iconst 0, 1) := by decide +kernel
theorem dX6_readCell_119 : decode cX6_readCell 119 = .ok (.istore_n 1, 1) := by decide +kernel
theorem dX6_readCell_120 : decode cX6_readCell 120 = .ok (.bipush 14, 2) := by decide +kernel
theorem dX6_readCell_122 : decode cX6_readCell 122 = .ok (.istore_n 2, 1) := by decide +kernel
theorem dX6_readCell_123 : decode cX6_readCell 123 = .ok (.iload_n 2, 1) := by decide +kernel
theorem dX6_readCell_124 : decode cX6_readCell 124 = .ok (.ifCond .lt 22, 3) := by decide +kernel
theorem dX6_readCell_127 : decode cX6_readCell 127 = .ok (.iload_n 1, 1) := by decide +kernel
theorem dX6_readCell_128 : decode cX6_readCell 128 = .ok (.iconst 1, 1) := by decide +kernel
theorem dX6_readCell_129 : decode cX6_readCell 129 = .ok (.ishl, 1) := by decide +kernel
theorem dX6_readCell_130 : decode cX6_readCell 130 = .ok (.aload_n 0, 1) := by decide +kernel
theorem dX6_readCell_131 : decode cX6_readCell 131 = .ok (.getfield 58, 3) := by decide +kernel
theorem dX6_readCell_134 : decode cX6_readCell 134 = .ok (.iload_n 2, 1) := by decide +kernel
theorem dX6_readCell_135 : decode cX6_readCell 135 = .ok (.ishr, 1) := by decide +kernel
theorem dX6_readCell_136 : decode cX6_readCell 136 = .ok (.iconst 1, 1) := by decide +kernel
theorem dX6_readCell_137 : decode cX6_readCell 137 = .ok (.iand, 1) := by decide +kernel
theorem dX6_readCell_138 : decode cX6_readCell 138 = .ok (.ior, 1) := by decide +kernel
theorem dX6_readCell_139 : decode cX6_readCell 139 = .ok (.istore_n 1, 1) := by decide +kernel
theorem dX6_readCell_140 : decode cX6_readCell 140 = .ok (.iinc 2 (-2), 3) := by decide +kernel
theorem dX6_readCell_143 : decode cX6_readCell 143 = .ok (.goto (-20), 3) := by decide +kernel
theorem dX6_readCell_146 : decode cX6_readCell 146 = .ok (.aload_n 0, 1) := by decide +kernel
theorem dX6_readCell_147 : decode cX6_readCell 147 = .ok (.iload_n 1, 1) := by decide +kernel
theorem dX6_readCell_148 : decode cX6_readCell 148 = .ok (.invokevirtual 110, 3) := by decide +kernel
theorem dX6_readCell_151 : decode cX6_readCell 151 = .ok (.return_, 1) := by decide +kernel
set_option maxRecDepth 20000 in
theorem ggX6_startWriting_X6_reset : GoodIn wsX6_startWriting wsX6_reset := goodIn_r _ [13, 14, 15, 16, 17, 18, 19, 20, 21, 22, 23, 24, 25, 26, 27, 28, 29, 30, 31, 32, 33, 34, 35, 36, 37, 38, 39, 40, 41, 42, 43, 44, 45, 46, 47, 48] (by decide +kernel) (by decide +kernel)
set_option maxRecDepth 20000 in
theorem gX6_startWriting_X6_reset : GoodIn wsX6_startWriting (wsV RX6 113 RX6 yX6_reset wsX6_reset) := goodIn_app (goodIn_of _ (by decide +kernel)) ggX6_startWriting_X6_reset
theorem dX6_startWriting_0 : decode cX6_startWriting 0 = .ok (.aload_n 0, 1) := by decide +kernel
theorem dX6_startWriting_1 : decode cX6_startWriting 1 = .ok (.iload_n 1, 1) := by decide +kernel
theorem dX6_startWriting_2 : decode cX6_startWriting 2 = .ok (.putfield 55, 3) := by decide +kernel
theorem dX6_startWriting_5 : decode cX6_startWriting 5 = .ok (.aload_n 0, 1) := by decide +kernel
theorem dX6_startWriting_6 : decode cX6_startWriting 6 = .ok (.invokevirtual 113, 3) := by decide +kernel
theorem dX6_startWriting_9 : decode cX6_startWriting 9 = .ok (.aload_n 0, 1) := by decide +kernel
theorem dX6_startWriting_10 : decode cX6_startWriting 10 = .ok (.iconst 0, 1) := by decide +kernel
theorem dX6_startWriting_11 : decode cX6_startWriting 11 = .ok (.putfield 116, 3) := by decide +kernel
theorem dX6_startWriting_14 : decode cX6_startWriting 14 = .ok (.aload_n 0, 1) := by decide +kernel
theorem dX6_startWriting_15 : decode cX6_startWriting 15 = .ok (.iconst 0, 1) := by decide +kernel
theorem dX6_startWriting_16 : decode cX6_startWriting 16 = .ok (.putfield 119, 3) := by decide +kernel
theorem dX6_startWriting_19 : decode cX6_startWriting 19 = .ok (.aload_n 0, 1) := by decide +kernel
theorem dX6_startWriting_20 : decode cX6_startWriting 20 = .ok (.iconst 0, 1) := by decide +kernel
theorem dX6_startWriting_21 : decode cX6_startWriting 21 = .ok (.putfield 122, 3) := by decide +kernel
theorem dX6_startWriting_24 : decode cX6_startWriting 24 = .ok (.aload_n 0, 1) := by decide +kernel
theorem dX6_startWriting_25 : decode cX6_startWriting 25 = .ok (.ldc 27, 2) := by decide +kernel
theorem dX6_startWriting_27 : decode cX6_startWriting 27 = .ok (.putfield 125, 3) := by decide +kernel
theorem dX6_startWriting_30 : decode cX6_startWriting 30 = .ok (.aload_n 0, 1) := by decide +kernel
theorem dX6_startWriting_31 : decode cX6_startWriting 31 = .ok (.iconst 0, 1) := by decide +kernel
theorem dX6_startWriting_32 : decode cX6_startWriting 32 = .ok (.putfield 128, 3) := by decide +kernel
theorem dX6_startWriting_35 : decode cX6_startWriting 35 = .ok (.aload_n 0, 1) := by decide +kernel
theorem dX6_startWriting_36 : decode cX6_startWriting 36 = .ok (.iconst (-1), 1) := by decide +kernel
theorem dX6_startWriting_37 : decode cX6_startWriting 37 = .ok (.putfield 131, 3) := by decide +kernel
theorem dX6_startWriting_40 : decode cX6_startWriting 40 = .ok (.return_, 1) := by decide +kernel
theorem dX6_coded_0 : decode cX6_coded 0 = .ok (.iconst 0, 1) := by decide +kernel
theorem dX6_coded_1 : decode cX6_coded 1 = .ok (.istore_n 2, 1) := by decide +kernel
theorem dX6_coded_2 : decode cX6_coded 2 = .ok (.aload_n 0, 1) := by decide +kernel
theorem dX6_coded_3 : decode cX6_coded 3 = .ok (.getfield 122, 3) := by decide +kernel
theorem dX6_coded_6 : decode cX6_coded 6 = .ok (.istore_n 3, 1) := by decide +kernel
theorem dX6_coded_7 : decode cX6_coded 7 = .ok (.bipush 7, 2) := by decide +kernel
theorem dX6_coded_9 : decode cX6_coded 9 = .ok (.istore 4, 2) := by decide +kernel
theorem dX6_coded_11 : decode cX6_coded 11 = .ok (.iload 4, 2) := by decide +kernel
theorem dX6_coded_13 : decode cX6_coded 13 = .ok (.ifCond .lt 40, 3) := by decide +kernel
theorem dX6_coded_16 : decode cX6_coded 16 = .ok (.iload_n 1, 1) := by decide +kernel
theorem dX6_coded_17 : decode cX6_coded 17 = .ok (.iload 4, 2) := by decide +kernel
theorem dX6_coded_19 : decode cX6_coded 19 = .ok (.ishr, 1) := by decide +kernel
theorem dX6_coded_20 : decode cX6_coded 20 = .ok (.iconst 1, 1) := by decide +kernel
theorem dX6_coded_21 : decode cX6_coded 21 = .ok (.iand, 1) := by decide +kernel
theorem dX6_coded_22 : decode cX6_coded 22 = .ok (.istore 5, 2) := by decide +kernel
theorem dX6_coded_24 : decode cX6_coded 24 = .ok (.iload_n 2, 1) := by decide +kernel
theorem dX6_coded_25 : decode cX6_coded 25 = .ok (.iconst 2, 1) := by decide +kernel
theorem dX6_coded_26 : decode cX6_coded 26 = .ok (.ishl, 1) := by decide +kernel
theorem dX6_coded_27 : decode cX6_coded 27 = .ok (.iload_n 3, 1) := by decide +kernel
theorem dX6_coded_28 : decode cX6_coded 28 = .ok (.iload 5, 2) := by decide +kernel
theorem dX6_coded_30 : decode cX6_coded 30 = .ok (.iadd, 1) := by decide +kernel
theorem dX6_coded_31 : decode cX6_coded 31 = .ok (.ifCond .ne 7, 3) := by decide +kernel
theorem dX6_coded_34 : decode cX6_coded 34 = .ok (.iconst 2, 1) := by decide +kernel
theorem dX6_coded_35 : decode cX6_coded 35 = .ok (.goto 4, 3) := by decide +kernel
theorem dX6_coded_38 : decode cX6_coded 38 = .ok (.iconst 0, 1) := by decide +kernel
theorem dX6_coded_39 : decode cX6_coded 39 = .ok (.ior, 1) := by decide +kernel
theorem dX6_coded_40 : decode cX6_coded 40 = .ok (.iload 5, 2) := by decide +kernel
theorem dX6_coded_42 : decode cX6_coded 42 = .ok (.ior, 1) := by decide +kernel
theorem dX6_coded_43 : decode cX6_coded 43 = .ok (.istore_n 2, 1) := by decide +kernel
theorem dX6_coded_44 : decode cX6_coded 44 = .ok (.iload 5, 2) := by decide +kernel
theorem dX6_coded_46 : decode cX6_coded 46 = .ok (.istore_n 3, 1) := by decide +kernel
theorem dX6_coded_47 : decode cX6_coded 47 = .ok (.iinc 4 (-1), 3) := by decide +kernel
theorem dX6_coded_50 : decode cX6_coded 50 = .ok (.goto (-39), 3) := by decide +kernel
theorem dX6_coded_53 : decode cX6_coded 53 = .ok (.iload_n 2, 1) := by decide +kernel
theorem dX6_coded_54 : decode cX6_coded 54 = .ok (.ireturn, 1) := by decide +kernel
set_option maxRecDepth 20000 in
theorem ggX6_write_X6_coded : GoodIn wsX6_write wsX6_coded := goodIn_r _ [7, 2, 8, 9, 10, 11, 12, 13, 14, 15, 16, 17, 18, 19, 20, 21, 22, 23, 24, 25, 26, 27, 28, 29, 30, 31, 32, 33, 34, 35, 36, 37, 38, 39] (by decide +kernel) (by decide +kernel)
set_option maxRecDepth 20000 in
theorem gX6_write_X6_coded : GoodIn wsX6_write (wsV RX6 134 RX6 yX6_coded wsX6_coded) := goodIn_app (goodIn_of _ (by decide +kernel)) ggX6_write_X6_coded
theorem dX6_write_0 : decode cX6_write 0 = .ok (.aload_n 0, 1) := by decide +kernel
theorem dX6_write_1 : decode cX6_write 1 = .ok (.aload_n 0, 1) := by decide +kernel
theorem dX6_write_2 : decode cX6_write 2 = .ok (.iload_n 1, 1) := by decide +kernel
theorem dX6_write_3 : decode cX6_write 3 = .ok (.invokevirtual 134, 3) := by decide +kernel
theorem dX6_write_6 : decode cX6_write 6 = .ok (.putfield 138, 3) := by decide +kernel
theorem dX6_write_9 : decode cX6_write 9 = .ok (.aload_n 0, 1) := by decide +kernel
theorem dX6_write_10 : decode cX6_write 10 = .ok (.iload_n 1, 1) := by decide +kernel
theorem dX6_write_11 : decode cX6_write 11 = .ok (.iconst 1, 1) := by decide +kernel
theorem dX6_write_12 : decode cX6_write 12 = .ok (.iand, 1) := by decide +kernel
theorem dX6_write_13 : decode cX6_write 13 = .ok (.putfield 122, 3) := by decide +kernel
theorem dX6_write_16 : decode cX6_write 16 = .ok (.return_, 1) := by decide +kernel
theorem dX6_writeMark_0 : decode cX6_writeMark 0 = .ok (.aload_n 0, 1) := by decide +kernel
theorem dX6_writeMark_1 : decode cX6_writeMark 1 = .ok (.sipush 17545, 3) := by decide +kernel
theorem dX6_writeMark_4 : decode cX6_writeMark 4 = .ok (.putfield 138, 3) := by decide +kernel
theorem dX6_writeMark_7 : decode cX6_writeMark 7 = .ok (.aload_n 0, 1) := by decide +kernel
theorem dX6_writeMark_8 : decode cX6_writeMark 8 = .ok (.iconst 1, 1) := by decide +kernel
theorem dX6_writeMark_9 : decode cX6_writeMark 9 = .ok (.putfield 122, 3) := by decide +kernel
theorem dX6_writeMark_12 : decode cX6_writeMark 12 = .ok (.return_, 1) := by decide +kernel
set_option maxRecDepth 20000 in
theorem ggX6_sectorByte_X6_write : GoodIn wsX6_sectorByte wsX6_write := goodIn_r _ [9, 10, 11, 12, 13, 14, 8, 15, 38, 39, 40, 41, 42, 43, 44, 45, 46, 47, 48, 49, 50, 51, 52, 53, 54, 55, 56, 57, 58, 59, 60, 61, 62, 63, 64, 65, 66, 67, 68, 69] (by decide +kernel) (by decide +kernel)
set_option maxRecDepth 20000 in
theorem gX6_sectorByte_X6_write : GoodIn wsX6_sectorByte (wsV RX6 141 RX6 yX6_write wsX6_write) := goodIn_app (goodIn_of _ (by decide +kernel)) ggX6_sectorByte_X6_write
set_option maxRecDepth 20000 in
theorem ggX6_sectorByte_X6_writeMark : GoodIn wsX6_sectorByte wsX6_writeMark := goodIn_r _ [19, 10, 11, 38, 39, 40, 41, 42, 43, 44, 45, 46, 47, 48, 49, 50, 51, 52, 53, 54, 55, 56, 57, 58, 59, 60, 61, 62, 63, 64, 65, 66, 67, 68, 69] (by decide +kernel) (by decide +kernel)
set_option maxRecDepth 20000 in
theorem gX6_sectorByte_X6_writeMark : GoodIn wsX6_sectorByte (wsV RX6 144 RX6 yX6_writeMark wsX6_writeMark) := goodIn_app (goodIn_of _ (by decide +kernel)) ggX6_sectorByte_X6_writeMark
set_option maxRecDepth 20000 in
theorem ggX6_sectorByte_X6_step : GoodIn wsX6_sectorByte wsX6_step := goodIn_r _ [22, 23] (by decide +kernel) (by decide +kernel)
set_option maxRecDepth 20000 in
theorem gX6_sectorByte_X6_step : GoodIn wsX6_sectorByte (va_wsS RX6 28 yX6_step wsX6_step) := goodIn_app (goodIn_of _ (by decide +kernel)) ggX6_sectorByte_X6_step
set_option maxRecDepth 20000 in
theorem ggX6_sectorByte_X6_ask : GoodIn wsX6_sectorByte wsX6_ask := goodIn_r _ [27, 28, 29, 30, 31, 8, 32, 33, 34, 35, 36, 37, 38, 39, 40, 41, 42, 43, 44, 45, 46, 47, 48, 49, 50, 51, 52, 53, 54, 55, 56, 57, 58, 59, 60, 61, 62, 63, 64, 65, 66, 67, 68, 69] (by decide +kernel) (by decide +kernel)
set_option maxRecDepth 20000 in
theorem gX6_sectorByte_X6_ask : GoodIn wsX6_sectorByte (wsV RX6 150 RX6 yX6_ask wsX6_ask) := goodIn_app (goodIn_of _ (by decide +kernel)) ggX6_sectorByte_X6_ask
set_option maxRecDepth 20000 in
theorem ggX6_sectorByte_X6_raise : GoodIn wsX6_sectorByte wsX6_raise := goodIn_r _ [37, 33, 38, 39, 40, 41, 42, 43, 44, 45, 46, 47, 48, 49, 50, 51, 52, 53, 54, 55, 56, 57, 58, 59, 60, 61, 62, 63, 64, 65, 66, 67, 68, 69] (by decide +kernel) (by decide +kernel)
set_option maxRecDepth 20000 in
theorem gX6_sectorByte_X6_raise : GoodIn wsX6_sectorByte (wsV RX6 68 RX6 yX6_raise wsX6_raise) := goodIn_app (goodIn_of _ (by decide +kernel)) ggX6_sectorByte_X6_raise
theorem dX6_sectorByte_0 : decode cX6_sectorByte 0 = .ok (.aload_n 0, 1) := by decide +kernel
theorem dX6_sectorByte_1 : decode cX6_sectorByte 1 = .ok (.getfield 17, 3) := by decide +kernel
theorem dX6_sectorByte_4 : decode cX6_sectorByte 4 = .ok (.istore_n 1, 1) := by decide +kernel
theorem dX6_sectorByte_5 : decode cX6_sectorByte 5 = .ok (.aload_n 0, 1) := by decide +kernel
theorem dX6_sectorByte_6 : decode cX6_sectorByte 6 = .ok (.getfield 119, 3) := by decide +kernel
theorem dX6_sectorByte_9 : decode cX6_sectorByte 9 = .ok (.bipush 8, 2) := by decide +kernel
theorem dX6_sectorByte_11 : decode cX6_sectorByte 11 = .ok (.isub, 1) := by decide +kernel
theorem dX6_sectorByte_12 : decode cX6_sectorByte 12 = .ok (.istore_n 2, 1) := by decide +kernel
theorem dX6_sectorByte_13 : decode cX6_sectorByte 13 = .ok (.aload_n 0, 1) := by decide +kernel
theorem dX6_sectorByte_14 : decode cX6_sectorByte 14 = .ok (.getfield 119, 3) := by decide +kernel
theorem dX6_sectorByte_17 : decode cX6_sectorByte 17 = .ok (.iconst 4, 1) := by decide +kernel
theorem dX6_sectorByte_18 : decode cX6_sectorByte 18 = .ok (.if_icmp .ge 11, 3) := by decide +kernel
theorem dX6_sectorByte_21 : decode cX6_sectorByte 21 = .ok (.aload_n 0, 1) := by decide +kernel
theorem dX6_sectorByte_22 : decode cX6_sectorByte 22 = .ok (.iconst 0, 1) := by decide +kernel
theorem dX6_sectorByte_23 : decode cX6_sectorByte 23 = .ok (.invokevirtual 141, 3) := by decide +kernel
theorem dX6_sectorByte_26 : decode cX6_sectorByte 26 = .ok (.goto 160, 3) := by decide +kernel
theorem dX6_sectorByte_29 : decode cX6_sectorByte 29 = .ok (.aload_n 0, 1) := by decide +kernel
theorem dX6_sectorByte_30 : decode cX6_sectorByte 30 = .ok (.getfield 119, 3) := by decide +kernel
theorem dX6_sectorByte_33 : decode cX6_sectorByte 33 = .ok (.bipush 7, 2) := by decide +kernel
theorem dX6_sectorByte_35 : decode cX6_sectorByte 35 = .ok (.if_icmp .ge 24, 3) := by decide +kernel
theorem dX6_sectorByte_38 : decode cX6_sectorByte 38 = .ok (.aload_n 0, 1) := by decide +kernel
theorem dX6_sectorByte_39 : decode cX6_sectorByte 39 = .ok (.invokevirtual 144, 3) := by decide +kernel
theorem dX6_sectorByte_42 : decode cX6_sectorByte 42 = .ok (.aload_n 0, 1) := by decide +kernel
theorem dX6_sectorByte_43 : decode cX6_sectorByte 43 = .ok (.aload_n 0, 1) := by decide +kernel
theorem dX6_sectorByte_44 : decode cX6_sectorByte 44 = .ok (.getfield 125, 3) := by decide +kernel
theorem dX6_sectorByte_47 : decode cX6_sectorByte 47 = .ok (.sipush 161, 3) := by decide +kernel
theorem dX6_sectorByte_50 : decode cX6_sectorByte 50 = .ok (.invokestatic 28, 3) := by decide +kernel
theorem dX6_sectorByte_53 : decode cX6_sectorByte 53 = .ok (.putfield 125, 3) := by decide +kernel
theorem dX6_sectorByte_56 : decode cX6_sectorByte 56 = .ok (.goto 130, 3) := by decide +kernel
theorem dX6_sectorByte_59 : decode cX6_sectorByte 59 = .ok (.aload_n 0, 1) := by decide +kernel
theorem dX6_sectorByte_60 : decode cX6_sectorByte 60 = .ok (.getfield 119, 3) := by decide +kernel
theorem dX6_sectorByte_63 : decode cX6_sectorByte 63 = .ok (.bipush 7, 2) := by decide +kernel
theorem dX6_sectorByte_65 : decode cX6_sectorByte 65 = .ok (.if_icmp .ne 40, 3) := by decide +kernel
theorem dX6_sectorByte_68 : decode cX6_sectorByte 68 = .ok (.aload_n 0, 1) := by decide +kernel
theorem dX6_sectorByte_69 : decode cX6_sectorByte 69 = .ok (.getfield 147, 3) := by decide +kernel
theorem dX6_sectorByte_72 : decode cX6_sectorByte 72 = .ok (.ifCond .eq 9, 3) := by decide +kernel
theorem dX6_sectorByte_75 : decode cX6_sectorByte 75 = .ok (.sipush 248, 3) := by decide +kernel
theorem dX6_sectorByte_78 : decode cX6_sectorByte 78 = .ok (.goto 6, 3) := by decide +kernel
theorem dX6_sectorByte_81 : decode cX6_sectorByte 81 = .ok (.sipush 251, 3) := by decide +kernel
theorem dX6_sectorByte_84 : decode cX6_sectorByte 84 = .ok (.istore_n 3, 1) := by decide +kernel
theorem dX6_sectorByte_85 : decode cX6_sectorByte 85 = .ok (.aload_n 0, 1) := by decide +kernel
theorem dX6_sectorByte_86 : decode cX6_sectorByte 86 = .ok (.iload_n 3, 1) := by decide +kernel
theorem dX6_sectorByte_87 : decode cX6_sectorByte 87 = .ok (.invokevirtual 141, 3) := by decide +kernel
theorem dX6_sectorByte_90 : decode cX6_sectorByte 90 = .ok (.aload_n 0, 1) := by decide +kernel
theorem dX6_sectorByte_91 : decode cX6_sectorByte 91 = .ok (.aload_n 0, 1) := by decide +kernel
theorem dX6_sectorByte_92 : decode cX6_sectorByte 92 = .ok (.getfield 125, 3) := by decide +kernel
theorem dX6_sectorByte_95 : decode cX6_sectorByte 95 = .ok (.iload_n 3, 1) := by decide +kernel
theorem dX6_sectorByte_96 : decode cX6_sectorByte 96 = .ok (.invokestatic 28, 3) := by decide +kernel
theorem dX6_sectorByte_99 : decode cX6_sectorByte 99 = .ok (.putfield 125, 3) := by decide +kernel
theorem dX6_sectorByte_102 : decode cX6_sectorByte 102 = .ok (.goto 84, 3) := by decide +kernel
theorem dX6_sectorByte_105 : decode cX6_sectorByte 105 = .ok (.iload_n 2, 1) := by decide +kernel
theorem dX6_sectorByte_106 : decode cX6_sectorByte 106 = .ok (.iload_n 1, 1) := by decide +kernel
theorem dX6_sectorByte_107 : decode cX6_sectorByte 107 = .ok (.if_icmp .ge 40, 3) := by decide +kernel
theorem dX6_sectorByte_110 : decode cX6_sectorByte 110 = .ok (.aload_n 0, 1) := by decide +kernel
theorem dX6_sectorByte_111 : decode cX6_sectorByte 111 = .ok (.invokevirtual 150, 3) := by decide +kernel
theorem dX6_sectorByte_114 : decode cX6_sectorByte 114 = .ok (.istore_n 3, 1) := by decide +kernel
theorem dX6_sectorByte_115 : decode cX6_sectorByte 115 = .ok (.iload_n 2, 1) := by decide +kernel
theorem dX6_sectorByte_116 : decode cX6_sectorByte 116 = .ok (.iconst 1, 1) := by decide +kernel
theorem dX6_sectorByte_117 : decode cX6_sectorByte 117 = .ok (.iadd, 1) := by decide +kernel
theorem dX6_sectorByte_118 : decode cX6_sectorByte 118 = .ok (.iload_n 1, 1) := by decide +kernel
theorem dX6_sectorByte_119 : decode cX6_sectorByte 119 = .ok (.if_icmp .ge 8, 3) := by decide +kernel
theorem dX6_sectorByte_122 : decode cX6_sectorByte 122 = .ok (.aload_n 0, 1) := by decide +kernel
theorem dX6_sectorByte_123 : decode cX6_sectorByte 123 = .ok (.iconst 2, 1) := by decide +kernel
theorem dX6_sectorByte_124 : decode cX6_sectorByte 124 = .ok (.invokevirtual 68, 3) := by decide +kernel
theorem dX6_sectorByte_127 : decode cX6_sectorByte 127 = .ok (.aload_n 0, 1) := by decide +kernel
theorem dX6_sectorByte_128 : decode cX6_sectorByte 128 = .ok (.iload_n 3, 1) := by decide +kernel
theorem dX6_sectorByte_129 : decode cX6_sectorByte 129 = .ok (.invokevirtual 141, 3) := by decide +kernel
theorem dX6_sectorByte_132 : decode cX6_sectorByte 132 = .ok (.aload_n 0, 1) := by decide +kernel
theorem dX6_sectorByte_133 : decode cX6_sectorByte 133 = .ok (.aload_n 0, 1) := by decide +kernel
theorem dX6_sectorByte_134 : decode cX6_sectorByte 134 = .ok (.getfield 125, 3) := by decide +kernel
theorem dX6_sectorByte_137 : decode cX6_sectorByte 137 = .ok (.iload_n 3, 1) := by decide +kernel
theorem dX6_sectorByte_138 : decode cX6_sectorByte 138 = .ok (.invokestatic 28, 3) := by decide +kernel
theorem dX6_sectorByte_141 : decode cX6_sectorByte 141 = .ok (.putfield 125, 3) := by decide +kernel
theorem dX6_sectorByte_144 : decode cX6_sectorByte 144 = .ok (.goto 42, 3) := by decide +kernel
theorem dX6_sectorByte_147 : decode cX6_sectorByte 147 = .ok (.aload_n 0, 1) := by decide +kernel
theorem dX6_sectorByte_148 : decode cX6_sectorByte 148 = .ok (.iload_n 2, 1) := by decide +kernel
theorem dX6_sectorByte_149 : decode cX6_sectorByte 149 = .ok (.iload_n 1, 1) := by decide +kernel
theorem dX6_sectorByte_150 : decode cX6_sectorByte 150 = .ok (.if_icmp .ne 13, 3) := by decide +kernel
theorem dX6_sectorByte_153 : decode cX6_sectorByte 153 = .ok (.aload_n 0, 1) := by decide +kernel
theorem dX6_sectorByte_154 : decode cX6_sectorByte 154 = .ok (.getfield 125, 3) := by decide +kernel
theorem dX6_sectorByte_157 : decode cX6_sectorByte 157 = .ok (.bipush 8, 2) := by decide +kernel
theorem dX6_sectorByte_159 : decode cX6_sectorByte 159 = .ok (.ishr, 1) := by decide +kernel
theorem dX6_sectorByte_160 : decode cX6_sectorByte 160 = .ok (.goto 23, 3) := by decide +kernel
theorem dX6_sectorByte_163 : decode cX6_sectorByte 163 = .ok (.iload_n 2, 1) := by decide +kernel
theorem dX6_sectorByte_164 : decode cX6_sectorByte 164 = .ok (.iload_n 1, 1) := by decide +kernel
theorem dX6_sectorByte_165 : decode cX6_sectorByte 165 = .ok (.iconst 1, 1) := by decide +kernel
theorem dX6_sectorByte_166 : decode cX6_sectorByte 166 = .ok (.iadd, 1) := by decide +kernel
theorem dX6_sectorByte_167 : decode cX6_sectorByte 167 = .ok (.if_icmp .ne 14, 3) := by decide +kernel
theorem dX6_sectorByte_170 : decode cX6_sectorByte 170 = .ok (.aload_n 0, 1) := by decide +kernel
theorem dX6_sectorByte_171 : decode cX6_sectorByte 171 = .ok (.getfield 125, 3) := by decide +kernel
theorem dX6_sectorByte_174 : decode cX6_sectorByte 174 = .ok (.sipush 255, 3) := by decide +kernel
theorem dX6_sectorByte_177 : decode cX6_sectorByte 177 = .ok (.iand, 1) := by decide +kernel
theorem dX6_sectorByte_178 : decode cX6_sectorByte 178 = .ok (.goto 5, 3) := by decide +kernel
theorem dX6_sectorByte_181 : decode cX6_sectorByte 181 = .ok (.bipush 78, 2) := by decide +kernel
theorem dX6_sectorByte_183 : decode cX6_sectorByte 183 = .ok (.invokevirtual 141, 3) := by decide +kernel
theorem dX6_sectorByte_186 : decode cX6_sectorByte 186 = .ok (.aload_n 0, 1) := by decide +kernel
theorem dX6_sectorByte_187 : decode cX6_sectorByte 187 = .ok (.dup, 1) := by decide +kernel
theorem dX6_sectorByte_188 : decode cX6_sectorByte 188 = .ok (.getfield 119, 3) := by decide +kernel
theorem dX6_sectorByte_191 : decode cX6_sectorByte 191 = .ok (.iconst 1, 1) := by decide +kernel
theorem dX6_sectorByte_192 : decode cX6_sectorByte 192 = .ok (.iadd, 1) := by decide +kernel
theorem dX6_sectorByte_193 : decode cX6_sectorByte 193 = .ok (.putfield 119, 3) := by decide +kernel
theorem dX6_sectorByte_196 : decode cX6_sectorByte 196 = .ok (.return_, 1) := by decide +kernel
