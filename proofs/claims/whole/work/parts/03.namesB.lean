set_option maxRecDepth 20000 in
theorem ggX0_init_X4_init : GoodIn wsX0_init wsX4_init := goodIn_r _ [12, 13, 2, 3] (by decide +kernel) (by decide +kernel)
set_option maxRecDepth 20000 in
theorem gX0_init_X4_init_n21 : GoodIn wsX0_init (wsX4_init) := ggX0_init_X4_init
theorem dX0_init_0 : decode cX0_init 0 = .ok (.aload_n 0, 1) := by decide +kernel
theorem dX0_init_1 : decode cX0_init 1 = .ok (.invokespecial 3, 3) := by decide +kernel
theorem dX0_init_4 : decode cX0_init 4 = .ok (.aload_n 0, 1) := by decide +kernel
theorem dX0_init_5 : decode cX0_init 5 = .ok (.aload_n 1, 1) := by decide +kernel
theorem dX0_init_6 : decode cX0_init 6 = .ok (.putfield 9, 3) := by decide +kernel
theorem dX0_init_9 : decode cX0_init 9 = .ok (.aload_n 0, 1) := by decide +kernel
theorem dX0_init_10 : decode cX0_init 10 = .ok (.aload_n 2, 1) := by decide +kernel
theorem dX0_init_11 : decode cX0_init 11 = .ok (.putfield 15, 3) := by decide +kernel
theorem dX0_init_14 : decode cX0_init 14 = .ok (.aload_n 0, 1) := by decide +kernel
theorem dX0_init_15 : decode cX0_init 15 = .ok (.new 19, 3) := by decide +kernel
theorem dX0_init_18 : decode cX0_init 18 = .ok (.dup, 1) := by decide +kernel
theorem dX0_init_19 : decode cX0_init 19 = .ok (.invokespecial 21, 3) := by decide +kernel
theorem dX0_init_22 : decode cX0_init 22 = .ok (.putfield 22, 3) := by decide +kernel
theorem dX0_init_25 : decode cX0_init 25 = .ok (.aload_n 0, 1) := by decide +kernel
theorem dX0_init_26 : decode cX0_init 26 = .ok (.iconst (-1), 1) := by decide +kernel
theorem dX0_init_27 : decode cX0_init 27 = .ok (.putfield 26, 3) := by decide +kernel
theorem dX0_init_30 : decode cX0_init 30 = .ok (.return_, 1) := by decide +kernel
theorem dX0_has_0 : decode cX0_has 0 = .ok (.aload_n 0, 1) := by decide +kernel
theorem dX0_has_1 : decode cX0_has 1 = .ok (.getfield 30, 3) := by decide +kernel
theorem dX0_has_4 : decode cX0_has 4 = .ok (.iload_n 1, 1) := by decide +kernel
theorem dX0_has_5 : decode cX0_has 5 = .ok (.iand, 1) := by decide +kernel
theorem dX0_has_6 : decode cX0_has 6 = .ok (.ifCond .eq 7, 3) := by decide +kernel
theorem dX0_has_9 : decode cX0_has 9 = .ok (.iconst 1, 1) := by decide +kernel
theorem dX0_has_10 : decode cX0_has 10 = .ok (.goto 4, 3) := by decide +kernel
theorem dX0_has_13 : decode cX0_has 13 = .ok (.iconst 0, 1) := by decide +kernel
theorem dX0_has_14 : decode cX0_has 14 = .ok (.ireturn, 1) := by decide +kernel
theorem dX0_acceptData_0 : decode cX0_acceptData 0 = .ok (.aload_n 0, 1) := by decide +kernel
theorem dX0_acceptData_1 : decode cX0_acceptData 1 = .ok (.iload_n 1, 1) := by decide +kernel
theorem dX0_acceptData_2 : decode cX0_acceptData 2 = .ok (.putfield 33, 3) := by decide +kernel
theorem dX0_acceptData_5 : decode cX0_acceptData 5 = .ok (.aload_n 0, 1) := by decide +kernel
theorem dX0_acceptData_6 : decode cX0_acceptData 6 = .ok (.dup, 1) := by decide +kernel
theorem dX0_acceptData_7 : decode cX0_acceptData 7 = .ok (.getfield 30, 3) := by decide +kernel
theorem dX0_acceptData_10 : decode cX0_acceptData 10 = .ok (.bipush (-3), 2) := by decide +kernel
theorem dX0_acceptData_12 : decode cX0_acceptData 12 = .ok (.iand, 1) := by decide +kernel
theorem dX0_acceptData_13 : decode cX0_acceptData 13 = .ok (.putfield 30, 3) := by decide +kernel
theorem dX0_acceptData_16 : decode cX0_acceptData 16 = .ok (.return_, 1) := by decide +kernel
theorem dX0_handOutData_0 : decode cX0_handOutData 0 = .ok (.aload_n 0, 1) := by decide +kernel
theorem dX0_handOutData_1 : decode cX0_handOutData 1 = .ok (.dup, 1) := by decide +kernel
theorem dX0_handOutData_2 : decode cX0_handOutData 2 = .ok (.getfield 30, 3) := by decide +kernel
theorem dX0_handOutData_5 : decode cX0_handOutData 5 = .ok (.bipush (-3), 2) := by decide +kernel
theorem dX0_handOutData_7 : decode cX0_handOutData 7 = .ok (.iand, 1) := by decide +kernel
theorem dX0_handOutData_8 : decode cX0_handOutData 8 = .ok (.putfield 30, 3) := by decide +kernel
theorem dX0_handOutData_11 : decode cX0_handOutData 11 = .ok (.aload_n 0, 1) := by decide +kernel
theorem dX0_handOutData_12 : decode cX0_handOutData 12 = .ok (.getfield 33, 3) := by decide +kernel
theorem dX0_handOutData_15 : decode cX0_handOutData 15 = .ok (.ireturn, 1) := by decide +kernel
set_option maxRecDepth 20000 in
theorem ggX0_begin_X0_has : GoodIn wsX0_begin wsX0_has := goodIn_r _ [15, 3, 42, 43, 44, 45, 46, 47, 48, 49, 50, 51, 52, 53] (by decide +kernel) (by decide +kernel)
set_option maxRecDepth 20000 in
theorem gX0_begin_X0_has : GoodIn wsX0_begin (wsV RX0 36 RX0 yX0_has wsX0_has) := goodIn_app (goodIn_of _ (by decide +kernel)) ggX0_begin_X0_has
set_option maxRecDepth 20000 in
theorem ggX0_begin_X2_reset : GoodIn wsX0_begin wsX2_reset := goodIn_r _ [20, 21, 22, 23, 58, 59, 60, 61, 62, 63, 64, 65, 66, 67, 68, 69, 70, 71] (by decide +kernel) (by decide +kernel)
set_option maxRecDepth 20000 in
theorem gX0_begin_X2_reset : GoodIn wsX0_begin (wsV RX0 50 RX2 yX2_reset wsX2_reset) := goodIn_app (goodIn_of _ (by decide +kernel)) ggX0_begin_X2_reset
set_option maxRecDepth 20000 in
theorem ggX0_begin_X2_forgetDataSize : GoodIn wsX0_begin wsX2_forgetDataSize := goodIn_r _ [27, 28, 58, 59, 60, 61, 62, 63, 64, 65, 66, 67, 68, 69, 70, 71] (by decide +kernel) (by decide +kernel)
set_option maxRecDepth 20000 in
theorem gX0_begin_X2_forgetDataSize : GoodIn wsX0_begin (wsV RX0 55 RX2 yX2_forgetDataSize wsX2_forgetDataSize) := goodIn_app (goodIn_of _ (by decide +kernel)) ggX0_begin_X2_forgetDataSize
set_option maxRecDepth 20000 in
theorem ggX0_begin_X0_endWith : GoodIn wsX0_begin wsX0_endWith := goodIn_r _ [32, 3, 33, 34, 35, 14, 36, 10, 6, 37, 38, 39, 19, 40, 41, 42, 43, 44, 45, 46, 47, 48, 49, 50, 51, 52, 53, 58, 59, 60, 61, 62, 63, 64, 65, 66, 67, 68, 69, 70, 71] (by decide +kernel) (by decide +kernel)
set_option maxRecDepth 20000 in
theorem gX0_begin_X0_endWith : GoodIn wsX0_begin (wsV RX0 66 RX0 yX0_endWith wsX0_endWith) := goodIn_app (goodIn_of _ (by decide +kernel)) ggX0_begin_X0_endWith
theorem dX0_begin_0 : decode cX0_begin 0 = .ok (.iload_n 1, 1) := by decide +kernel
theorem dX0_begin_1 : decode cX0_begin 1 = .ok (.ifCond .lt 16, 3) := by decide +kernel
theorem dX0_begin_4 : decode cX0_begin 4 = .ok (.iload_n 1, 1) := by decide +kernel
theorem dX0_begin_5 : decode cX0_begin 5 = .ok (.iconst 5, 1) := by decide +kernel
theorem dX0_begin_6 : decode cX0_begin 6 = .ok (.if_icmp .gt 11, 3) := by decide +kernel
theorem dX0_begin_9 : decode cX0_begin 9 = .ok (.aload_n 0, 1) := by decide +kernel
theorem dX0_begin_10 : decode cX0_begin 10 = .ok (.iconst 1, 1) := by decide +kernel
theorem dX0_begin_11 : decode cX0_begin 11 = .ok (.invokevirtual 36, 3) := by decide +kernel
theorem dX0_begin_14 : decode cX0_begin 14 = .ok (.ifCond .eq 5, 3) := by decide +kernel
theorem dX0_begin_17 : decode cX0_begin 17 = .ok (.iconst 0, 1) := by decide +kernel
theorem dX0_begin_18 : decode cX0_begin 18 = .ok (.ireturn, 1) := by decide +kernel
theorem dX0_begin_19 : decode cX0_begin 19 = .ok (.aload_n 0, 1) := by decide +kernel
theorem dX0_begin_20 : decode cX0_begin 20 = .ok (.iload_n 1, 1) := by decide +kernel
theorem dX0_begin_21 : decode cX0_begin 21 = .ok (.putfield 26, 3) := by decide +kernel
theorem dX0_begin_24 : decode cX0_begin 24 = .ok (.aload_n 0, 1) := by decide +kernel
theorem dX0_begin_25 : decode cX0_begin 25 = .ok (.iload_n 2, 1) := by decide +kernel
theorem dX0_begin_26 : decode cX0_begin 26 = .ok (.putfield 40, 3) := by decide +kernel
theorem dX0_begin_29 : decode cX0_begin 29 = .ok (.aload_n 0, 1) := by decide +kernel
theorem dX0_begin_30 : decode cX0_begin 30 = .ok (.iconst 1, 1) := by decide +kernel
theorem dX0_begin_31 : decode cX0_begin 31 = .ok (.putfield 30, 3) := by decide +kernel
theorem dX0_begin_34 : decode cX0_begin 34 = .ok (.aload_n 0, 1) := by decide +kernel
theorem dX0_begin_35 : decode cX0_begin 35 = .ok (.iconst 0, 1) := by decide +kernel
theorem dX0_begin_36 : decode cX0_begin 36 = .ok (.putfield 44, 3) := by decide +kernel
theorem dX0_begin_39 : decode cX0_begin 39 = .ok (.aload_n 0, 1) := by decide +kernel
theorem dX0_begin_40 : decode cX0_begin 40 = .ok (.iconst 0, 1) := by decide +kernel
theorem dX0_begin_41 : decode cX0_begin 41 = .ok (.putfield 47, 3) := by decide +kernel
theorem dX0_begin_44 : decode cX0_begin 44 = .ok (.aload_n 0, 1) := by decide +kernel
theorem dX0_begin_45 : decode cX0_begin 45 = .ok (.getfield 15, 3) := by decide +kernel
theorem dX0_begin_48 : decode cX0_begin 48 = .ok (.invokevirtual 50, 3) := by decide +kernel
theorem dX0_begin_51 : decode cX0_begin 51 = .ok (.aload_n 0, 1) := by decide +kernel
theorem dX0_begin_52 : decode cX0_begin 52 = .ok (.getfield 15, 3) := by decide +kernel
theorem dX0_begin_55 : decode cX0_begin 55 = .ok (.invokevirtual 55, 3) := by decide +kernel
theorem dX0_begin_58 : decode cX0_begin 58 = .ok (.iload_n 1, 1) := by decide +kernel
theorem dX0_begin_59 : decode cX0_begin 59 = .ok (.ifCond .ne 15, 3) := by decide +kernel
theorem dX0_begin_62 : decode cX0_begin 62 = .ok (.aload_n 0, 1) := by decide +kernel
theorem dX0_begin_63 : decode cX0_begin 63 = .ok (.sipush 255, 3) := by decide +kernel
theorem dX0_begin_66 : decode cX0_begin 66 = .ok (.putfield 58, 3) := by decide +kernel
theorem dX0_begin_69 : decode cX0_begin 69 = .ok (.aload_n 0, 1) := by decide +kernel
theorem dX0_begin_70 : decode cX0_begin 70 = .ok (.iconst 0, 1) := by decide +kernel
theorem dX0_begin_71 : decode cX0_begin 71 = .ok (.putfield 33, 3) := by decide +kernel
theorem dX0_begin_74 : decode cX0_begin 74 = .ok (.iload_n 1, 1) := by decide +kernel
theorem dX0_begin_75 : decode cX0_begin 75 = .ok (.iconst 3, 1) := by decide +kernel
theorem dX0_begin_76 : decode cX0_begin 76 = .ok (.if_icmp .eq 8, 3) := by decide +kernel
theorem dX0_begin_79 : decode cX0_begin 79 = .ok (.iload_n 1, 1) := by decide +kernel
theorem dX0_begin_80 : decode cX0_begin 80 = .ok (.iconst 5, 1) := by decide +kernel
theorem dX0_begin_81 : decode cX0_begin 81 = .ok (.if_icmp .ne 22, 3) := by decide +kernel
theorem dX0_begin_84 : decode cX0_begin 84 = .ok (.aload_n 0, 1) := by decide +kernel
theorem dX0_begin_85 : decode cX0_begin 85 = .ok (.getfield 9, 3) := by decide +kernel
theorem dX0_begin_88 : decode cX0_begin 88 = .ok (.getfield 61, 3) := by decide +kernel
theorem dX0_begin_91 : decode cX0_begin 91 = .ok (.ifCond .eq 12, 3) := by decide +kernel
theorem dX0_begin_94 : decode cX0_begin 94 = .ok (.aload_n 0, 1) := by decide +kernel
theorem dX0_begin_95 : decode cX0_begin 95 = .ok (.bipush 64, 2) := by decide +kernel
theorem dX0_begin_97 : decode cX0_begin 97 = .ok (.invokevirtual 66, 3) := by decide +kernel
theorem dX0_begin_100 : decode cX0_begin 100 = .ok (.goto 45, 3) := by decide +kernel
theorem dX0_begin_103 : decode cX0_begin 103 = .ok (.iload_n 1, 1) := by decide +kernel
theorem dX0_begin_104 : decode cX0_begin 104 = .ok (.iconst 5, 1) := by decide +kernel
theorem dX0_begin_105 : decode cX0_begin 105 = .ok (.if_icmp .ne 22, 3) := by decide +kernel
theorem dX0_begin_108 : decode cX0_begin 108 = .ok (.aload_n 0, 1) := by decide +kernel
theorem dX0_begin_109 : decode cX0_begin 109 = .ok (.dup, 1) := by decide +kernel
theorem dX0_begin_110 : decode cX0_begin 110 = .ok (.getfield 30, 3) := by decide +kernel
theorem dX0_begin_113 : decode cX0_begin 113 = .ok (.iconst 2, 1) := by decide +kernel
theorem dX0_begin_114 : decode cX0_begin 114 = .ok (.ior, 1) := by decide +kernel
theorem dX0_begin_115 : decode cX0_begin 115 = .ok (.putfield 30, 3) := by decide +kernel
theorem dX0_begin_118 : decode cX0_begin 118 = .ok (.aload_n 0, 1) := by decide +kernel
theorem dX0_begin_119 : decode cX0_begin 119 = .ok (.bipush 7, 2) := by decide +kernel
theorem dX0_begin_121 : decode cX0_begin 121 = .ok (.putfield 70, 3) := by decide +kernel
theorem dX0_begin_124 : decode cX0_begin 124 = .ok (.goto 21, 3) := by decide +kernel
theorem dX0_begin_127 : decode cX0_begin 127 = .ok (.aload_n 0, 1) := by decide +kernel
theorem dX0_begin_128 : decode cX0_begin 128 = .ok (.iload_n 1, 1) := by decide +kernel
theorem dX0_begin_129 : decode cX0_begin 129 = .ok (.ifCond .eq 8, 3) := by decide +kernel
theorem dX0_begin_132 : decode cX0_begin 132 = .ok (.iload_n 1, 1) := by decide +kernel
theorem dX0_begin_133 : decode cX0_begin 133 = .ok (.iconst 1, 1) := by decide +kernel
theorem dX0_begin_134 : decode cX0_begin 134 = .ok (.if_icmp .ne 7, 3) := by decide +kernel
theorem dX0_begin_137 : decode cX0_begin 137 = .ok (.iconst 1, 1) := by decide +kernel
theorem dX0_begin_138 : decode cX0_begin 138 = .ok (.goto 4, 3) := by decide +kernel
theorem dX0_begin_141 : decode cX0_begin 141 = .ok (.iconst 2, 1) := by decide +kernel
theorem dX0_begin_142 : decode cX0_begin 142 = .ok (.putfield 70, 3) := by decide +kernel
theorem dX0_begin_145 : decode cX0_begin 145 = .ok (.iconst 1, 1) := by decide +kernel
theorem dX0_begin_146 : decode cX0_begin 146 = .ok (.ireturn, 1) := by decide +kernel
set_option maxRecDepth 20000 in
theorem ggX0_end_X2_forgetWindow : GoodIn wsX0_end wsX2_forgetWindow := goodIn_r _ [8, 9, 22, 23, 24, 25, 26, 27, 28, 29, 30, 31, 32, 33, 34, 35] (by decide +kernel) (by decide +kernel)
set_option maxRecDepth 20000 in
theorem gX0_end_X2_forgetWindow : GoodIn wsX0_end (wsV RX0 73 RX2 yX2_forgetWindow wsX2_forgetWindow) := goodIn_app (goodIn_of _ (by decide +kernel)) ggX0_end_X2_forgetWindow
theorem dX0_end_0 : decode cX0_end 0 = .ok (.aload_n 0, 1) := by decide +kernel
theorem dX0_end_1 : decode cX0_end 1 = .ok (.dup, 1) := by decide +kernel
theorem dX0_end_2 : decode cX0_end 2 = .ok (.getfield 30, 3) := by decide +kernel
theorem dX0_end_5 : decode cX0_end 5 = .ok (.bipush (-4), 2) := by decide +kernel
theorem dX0_end_7 : decode cX0_end 7 = .ok (.iand, 1) := by decide +kernel
theorem dX0_end_8 : decode cX0_end 8 = .ok (.putfield 30, 3) := by decide +kernel
theorem dX0_end_11 : decode cX0_end 11 = .ok (.aload_n 0, 1) := by decide +kernel
theorem dX0_end_12 : decode cX0_end 12 = .ok (.getfield 70, 3) := by decide +kernel
theorem dX0_end_15 : decode cX0_end 15 = .ok (.bipush 6, 2) := by decide +kernel
theorem dX0_end_17 : decode cX0_end 17 = .ok (.if_icmp .ne 10, 3) := by decide +kernel
theorem dX0_end_20 : decode cX0_end 20 = .ok (.aload_n 0, 1) := by decide +kernel
theorem dX0_end_21 : decode cX0_end 21 = .ok (.getfield 15, 3) := by decide +kernel
theorem dX0_end_24 : decode cX0_end 24 = .ok (.invokevirtual 73, 3) := by decide +kernel
theorem dX0_end_27 : decode cX0_end 27 = .ok (.aload_n 0, 1) := by decide +kernel
theorem dX0_end_28 : decode cX0_end 28 = .ok (.iconst 0, 1) := by decide +kernel
theorem dX0_end_29 : decode cX0_end 29 = .ok (.putfield 70, 3) := by decide +kernel
theorem dX0_end_32 : decode cX0_end 32 = .ok (.return_, 1) := by decide +kernel
set_option maxRecDepth 20000 in
theorem ggX0_endWith_X0_end : GoodIn wsX0_endWith wsX0_end := goodIn_r _ [6, 1, 7, 8, 9, 10, 11, 12, 13, 14, 15, 16, 17, 18, 19, 20, 21, 22, 23, 24, 25, 26, 27, 28, 29, 30, 31, 32, 33, 34, 35, 36, 37, 38, 39, 40] (by decide +kernel) (by decide +kernel)
set_option maxRecDepth 20000 in
theorem gX0_endWith_X0_end : GoodIn wsX0_endWith (wsV RX0 76 RX0 yX0_end wsX0_end) := goodIn_app (goodIn_of _ (by decide +kernel)) ggX0_endWith_X0_end
theorem dX0_endWith_0 : decode cX0_endWith 0 = .ok (.aload_n 0, 1) := by decide +kernel
theorem dX0_endWith_1 : decode cX0_endWith 1 = .ok (.dup, 1) := by decide +kernel
theorem dX0_endWith_2 : decode cX0_endWith 2 = .ok (.getfield 30, 3) := by decide +kernel
theorem dX0_endWith_5 : decode cX0_endWith 5 = .ok (.iload_n 1, 1) := by decide +kernel
theorem dX0_endWith_6 : decode cX0_endWith 6 = .ok (.ior, 1) := by decide +kernel
theorem dX0_endWith_7 : decode cX0_endWith 7 = .ok (.putfield 30, 3) := by decide +kernel
theorem dX0_endWith_10 : decode cX0_endWith 10 = .ok (.aload_n 0, 1) := by decide +kernel
theorem dX0_endWith_11 : decode cX0_endWith 11 = .ok (.invokevirtual 76, 3) := by decide +kernel
theorem dX0_endWith_14 : decode cX0_endWith 14 = .ok (.return_, 1) := by decide +kernel
set_option maxRecDepth 20000 in
theorem ggX0_passByteTime_X0_writeOneCell : GoodIn wsX0_passByteTime wsX0_writeOneCell := goodIn_r _ [7, 8, 9, 2, 10, 11, 12, 13, 6, 14, 15, 16, 17, 18, 19, 20, 21, 22, 23, 24, 25, 26, 27, 28, 29, 30, 31, 32, 33, 34, 35, 36, 37, 38, 39, 40, 41, 42, 43, 44, 45, 46, 47, 48, 49, 50, 51, 52, 53, 54, 55, 56, 57, 58, 59, 60, 61, 62, 63, 64, 65, 66, 67, 68, 69, 70, 71, 72, 73, 74, 75, 76, 77, 78, 79, 80, 81, 82, 83, 84, 85, 86, 87, 88, 89, 90, 91, 92, 1, 93, 94, 95, 96, 97, 98, 212, 213, 214, 215, 216, 217, 218, 219, 220, 221, 222, 223, 224, 225, 226, 227, 228, 229, 230, 231, 232, 233, 234, 235, 236, 237, 238, 239, 240, 241, 242, 243, 244, 245, 246, 247, 248] (by decide +kernel) (by decide +kernel)
set_option maxRecDepth 20000 in
theorem gX0_passByteTime_X0_writeOneCell : GoodIn wsX0_passByteTime (wsV RX0 79 RX0 yX0_writeOneCell wsX0_writeOneCell) := goodIn_app (goodIn_of _ (by decide +kernel)) ggX0_passByteTime_X0_writeOneCell
set_option maxRecDepth 20000 in
theorem ggX0_passByteTime_X0_readOneCell : GoodIn wsX0_passByteTime wsX0_readOneCell := goodIn_r _ [102, 10, 2, 103, 76, 77, 71, 78, 73, 74, 79, 80, 81, 82, 83, 104, 105, 106, 96, 107, 98, 108, 109, 110, 111, 112, 113, 114, 115, 116, 117, 118, 119, 120, 121, 122, 123, 124, 125, 50, 51, 52, 53, 54, 126, 127, 128, 129, 130, 131, 132, 133, 134, 135, 136, 137, 138, 139, 140, 141, 142, 143, 144, 6, 145, 9, 1, 15, 146, 147, 148, 149, 150, 151, 152, 153, 40, 154, 155, 156, 157, 158, 41, 42, 43, 44, 159, 160, 161, 162, 163, 164, 165, 166, 167, 168, 89, 90, 91, 92, 93, 94, 95, 97, 169, 170, 171, 172, 173, 174, 212, 213, 214, 215, 216, 217, 218, 219, 220, 221, 222, 223, 245, 246, 247, 248, 231, 232, 233, 234, 235, 236, 237, 238, 239, 240, 241, 242, 243, 244] (by decide +kernel) (by decide +kernel)
set_option maxRecDepth 20000 in
theorem gX0_passByteTime_X0_readOneCell : GoodIn wsX0_passByteTime (wsV RX0 82 RX0 yX0_readOneCell wsX0_readOneCell) := goodIn_app (goodIn_of _ (by decide +kernel)) ggX0_passByteTime_X0_readOneCell
set_option maxRecDepth 20000 in
theorem ggX0_passByteTime_X1_turnByOneCell : GoodIn wsX0_passByteTime wsX1_turnByOneCell := goodIn_r _ [178, 74, 245, 246, 247, 248] (by decide +kernel) (by decide +kernel)
set_option maxRecDepth 20000 in
theorem gX0_passByteTime_X1_turnByOneCell : GoodIn wsX0_passByteTime (wsV RX0 85 RX1 yX1_turnByOneCell wsX1_turnByOneCell) := goodIn_app (goodIn_of _ (by decide +kernel)) ggX0_passByteTime_X1_turnByOneCell
set_option maxRecDepth 20000 in
theorem ggX0_passByteTime_X0_meetIndex : GoodIn wsX0_passByteTime wsX0_meetIndex := goodIn_r _ [182, 183, 1, 9, 184, 185, 186, 6, 187, 10, 8, 41, 42, 43, 44, 15, 188, 189, 190, 191, 89, 90, 91, 92, 93, 94, 95, 96, 97, 98, 192, 193, 194, 195, 109, 111, 110, 196, 197, 198, 19, 199, 34, 27, 49, 22, 35, 28, 21, 212, 213, 214, 215, 216, 217, 218, 219, 220, 221, 222, 223, 231, 232, 233, 234, 235, 236, 237, 238, 239, 240, 241, 242, 243, 244, 224, 225, 226, 227, 228, 229, 230] (by decide +kernel) (by decide +kernel)
set_option maxRecDepth 20000 in
theorem gX0_passByteTime_X0_meetIndex : GoodIn wsX0_passByteTime (wsV RX0 89 RX0 yX0_meetIndex wsX0_meetIndex) := goodIn_app (goodIn_of _ (by decide +kernel)) ggX0_passByteTime_X0_meetIndex
set_option maxRecDepth 20000 in
theorem ggX0_passByteTime_X0_endByteTime : GoodIn wsX0_passByteTime wsX0_endByteTime := goodIn_r _ [203, 174, 1, 204, 205, 206, 6, 207, 9, 2, 173, 40, 89, 90, 91, 92, 15, 10, 93, 94, 95, 96, 97, 98, 208, 209, 210, 71, 211, 73, 184, 185, 186, 187, 8, 41, 42, 43, 44, 188, 189, 190, 191, 192, 193, 194, 195, 109, 111, 110, 196, 197, 198, 19, 199, 34, 27, 49, 22, 35, 28, 21, 212, 213, 214, 215, 216, 217, 218, 219, 220, 221, 222, 223, 245, 246, 247, 248, 231, 232, 233, 234, 235, 236, 237, 238, 239, 240, 241, 242, 243, 244, 224, 225, 226, 227, 228, 229, 230] (by decide +kernel) (by decide +kernel)
set_option maxRecDepth 20000 in
theorem gX0_passByteTime_X0_endByteTime : GoodIn wsX0_passByteTime (wsV RX0 92 RX0 yX0_endByteTime wsX0_endByteTime) := goodIn_app (goodIn_of _ (by decide +kernel)) ggX0_passByteTime_X0_endByteTime
theorem dX0_passByteTime_0 : decode cX0_passByteTime 0 = .ok (.iconst 0, 1) := by decide +kernel
theorem dX0_passByteTime_1 : decode cX0_passByteTime 1 = .ok (.istore_n 1, 1) := by decide +kernel
theorem dX0_passByteTime_2 : decode cX0_passByteTime 2 = .ok (.iconst 0, 1) := by decide +kernel
theorem dX0_passByteTime_3 : decode cX0_passByteTime 3 = .ok (.istore_n 2, 1) := by decide +kernel
theorem dX0_passByteTime_4 : decode cX0_passByteTime 4 = .ok (.iload_n 2, 1) := by decide +kernel
theorem dX0_passByteTime_5 : decode cX0_passByteTime 5 = .ok (.bipush 16, 2) := by decide +kernel
theorem dX0_passByteTime_7 : decode cX0_passByteTime 7 = .ok (.if_icmp .ge 45, 3) := by decide +kernel
theorem dX0_passByteTime_10 : decode cX0_passByteTime 10 = .ok (.aload_n 0, 1) := by decide +kernel
theorem dX0_passByteTime_11 : decode cX0_passByteTime 11 = .ok (.getfield 70, 3) := by decide +kernel
theorem dX0_passByteTime_14 : decode cX0_passByteTime 14 = .ok (.bipush 6, 2) := by decide +kernel
theorem dX0_passByteTime_16 : decode cX0_passByteTime 16 = .ok (.if_icmp .ne 10, 3) := by decide +kernel
theorem dX0_passByteTime_19 : decode cX0_passByteTime 19 = .ok (.aload_n 0, 1) := by decide +kernel
theorem dX0_passByteTime_20 : decode cX0_passByteTime 20 = .ok (.invokevirtual 79, 3) := by decide +kernel
theorem dX0_passByteTime_23 : decode cX0_passByteTime 23 = .ok (.goto 7, 3) := by decide +kernel
theorem dX0_passByteTime_26 : decode cX0_passByteTime 26 = .ok (.aload_n 0, 1) := by decide +kernel
theorem dX0_passByteTime_27 : decode cX0_passByteTime 27 = .ok (.invokevirtual 82, 3) := by decide +kernel
theorem dX0_passByteTime_30 : decode cX0_passByteTime 30 = .ok (.aload_n 0, 1) := by decide +kernel
theorem dX0_passByteTime_31 : decode cX0_passByteTime 31 = .ok (.getfield 9, 3) := by decide +kernel
theorem dX0_passByteTime_34 : decode cX0_passByteTime 34 = .ok (.invokevirtual 85, 3) := by decide +kernel
theorem dX0_passByteTime_37 : decode cX0_passByteTime 37 = .ok (.ifCond .eq 9, 3) := by decide +kernel
theorem dX0_passByteTime_40 : decode cX0_passByteTime 40 = .ok (.iconst 1, 1) := by decide +kernel
theorem dX0_passByteTime_41 : decode cX0_passByteTime 41 = .ok (.istore_n 1, 1) := by decide +kernel
theorem dX0_passByteTime_42 : decode cX0_passByteTime 42 = .ok (.aload_n 0, 1) := by decide +kernel
theorem dX0_passByteTime_43 : decode cX0_passByteTime 43 = .ok (.invokevirtual 89, 3) := by decide +kernel
theorem dX0_passByteTime_46 : decode cX0_passByteTime 46 = .ok (.iinc 2 1, 3) := by decide +kernel
theorem dX0_passByteTime_49 : decode cX0_passByteTime 49 = .ok (.goto (-45), 3) := by decide +kernel
theorem dX0_passByteTime_52 : decode cX0_passByteTime 52 = .ok (.aload_n 0, 1) := by decide +kernel
theorem dX0_passByteTime_53 : decode cX0_passByteTime 53 = .ok (.invokevirtual 92, 3) := by decide +kernel
theorem dX0_passByteTime_56 : decode cX0_passByteTime 56 = .ok (.iload_n 1, 1) := by decide +kernel
theorem dX0_passByteTime_57 : decode cX0_passByteTime 57 = .ok (.ireturn, 1) := by decide +kernel
set_option maxRecDepth 20000 in
theorem ggX0_meetIndex_X0_startWritingIfServed : GoodIn wsX0_meetIndex wsX0_startWritingIfServed := goodIn_r _ [8, 2, 9, 10, 11, 12, 13, 7, 14, 15, 16, 17, 18, 19, 20, 21, 22, 23, 24, 25, 26, 27, 28, 29, 30, 31, 32, 33, 34, 35, 36, 37, 38, 39, 40, 41, 42, 43, 44, 45, 46, 47, 48, 49, 50, 51, 52, 53, 54, 55, 56, 57, 58, 59, 60, 61, 62, 63, 64, 65, 66, 67, 68, 69, 70, 71, 72, 73, 74, 75, 76, 77, 78, 79, 80, 81] (by decide +kernel) (by decide +kernel)
set_option maxRecDepth 20000 in
theorem gX0_meetIndex_X0_startWritingIfServed : GoodIn wsX0_meetIndex (wsV RX0 95 RX0 yX0_startWritingIfServed wsX0_startWritingIfServed) := goodIn_app (goodIn_of _ (by decide +kernel)) ggX0_meetIndex_X0_startWritingIfServed
set_option maxRecDepth 20000 in
theorem ggX0_meetIndex_X0_end : GoodIn wsX0_meetIndex wsX0_end := goodIn_r _ [23, 15, 2, 9, 24, 25, 26, 27, 28, 29, 49, 50, 51, 52, 53, 54, 55, 56, 57, 58, 59, 60, 61, 62, 63, 64, 65, 66, 67, 68, 69, 70, 71, 72, 73, 74] (by decide +kernel) (by decide +kernel)
set_option maxRecDepth 20000 in
theorem gX0_meetIndex_X0_end : GoodIn wsX0_meetIndex (wsV RX0 76 RX0 yX0_end wsX0_end) := goodIn_app (goodIn_of _ (by decide +kernel)) ggX0_meetIndex_X0_end
set_option maxRecDepth 20000 in
theorem ggX0_meetIndex_X0_endWith : GoodIn wsX0_meetIndex wsX0_endWith := goodIn_r _ [19, 15, 20, 21, 22, 7, 23, 2, 9, 24, 25, 26, 27, 28, 29, 49, 50, 51, 52, 53, 54, 55, 56, 57, 58, 59, 60, 61, 62, 63, 64, 65, 66, 67, 68, 69, 70, 71, 72, 73, 74] (by decide +kernel) (by decide +kernel)
set_option maxRecDepth 20000 in
theorem gX0_meetIndex_X0_endWith : GoodIn wsX0_meetIndex (wsV RX0 66 RX0 yX0_endWith wsX0_endWith) := goodIn_app (goodIn_of _ (by decide +kernel)) ggX0_meetIndex_X0_endWith
theorem dX0_meetIndex_0 : decode cX0_meetIndex 0 = .ok (.aload_n 0, 1) := by decide +kernel
theorem dX0_meetIndex_1 : decode cX0_meetIndex 1 = .ok (.dup, 1) := by decide +kernel
theorem dX0_meetIndex_2 : decode cX0_meetIndex 2 = .ok (.getfield 47, 3) := by decide +kernel
theorem dX0_meetIndex_5 : decode cX0_meetIndex 5 = .ok (.iconst 1, 1) := by decide +kernel
theorem dX0_meetIndex_6 : decode cX0_meetIndex 6 = .ok (.iadd, 1) := by decide +kernel
theorem dX0_meetIndex_7 : decode cX0_meetIndex 7 = .ok (.putfield 47, 3) := by decide +kernel
theorem dX0_meetIndex_10 : decode cX0_meetIndex 10 = .ok (.aload_n 0, 1) := by decide +kernel
theorem dX0_meetIndex_11 : decode cX0_meetIndex 11 = .ok (.getfield 70, 3) := by decide +kernel
theorem dX0_meetIndex_14 : decode cX0_meetIndex 14 = .ok (.bipush 7, 2) := by decide +kernel
theorem dX0_meetIndex_16 : decode cX0_meetIndex 16 = .ok (.if_icmp .ne 10, 3) := by decide +kernel
theorem dX0_meetIndex_19 : decode cX0_meetIndex 19 = .ok (.aload_n 0, 1) := by decide +kernel
theorem dX0_meetIndex_20 : decode cX0_meetIndex 20 = .ok (.invokevirtual 95, 3) := by decide +kernel
theorem dX0_meetIndex_23 : decode cX0_meetIndex 23 = .ok (.goto 57, 3) := by decide +kernel
theorem dX0_meetIndex_26 : decode cX0_meetIndex 26 = .ok (.aload_n 0, 1) := by decide +kernel
theorem dX0_meetIndex_27 : decode cX0_meetIndex 27 = .ok (.getfield 70, 3) := by decide +kernel
theorem dX0_meetIndex_30 : decode cX0_meetIndex 30 = .ok (.bipush 6, 2) := by decide +kernel
theorem dX0_meetIndex_32 : decode cX0_meetIndex 32 = .ok (.if_icmp .ne 18, 3) := by decide +kernel
theorem dX0_meetIndex_35 : decode cX0_meetIndex 35 = .ok (.aload_n 0, 1) := by decide +kernel
theorem dX0_meetIndex_36 : decode cX0_meetIndex 36 = .ok (.getfield 26, 3) := by decide +kernel
theorem dX0_meetIndex_39 : decode cX0_meetIndex 39 = .ok (.iconst 5, 1) := by decide +kernel
theorem dX0_meetIndex_40 : decode cX0_meetIndex 40 = .ok (.if_icmp .ne 10, 3) := by decide +kernel
theorem dX0_meetIndex_43 : decode cX0_meetIndex 43 = .ok (.aload_n 0, 1) := by decide +kernel
theorem dX0_meetIndex_44 : decode cX0_meetIndex 44 = .ok (.invokevirtual 76, 3) := by decide +kernel
theorem dX0_meetIndex_47 : decode cX0_meetIndex 47 = .ok (.goto 33, 3) := by decide +kernel
theorem dX0_meetIndex_50 : decode cX0_meetIndex 50 = .ok (.aload_n 0, 1) := by decide +kernel
theorem dX0_meetIndex_51 : decode cX0_meetIndex 51 = .ok (.getfield 70, 3) := by decide +kernel
theorem dX0_meetIndex_54 : decode cX0_meetIndex 54 = .ok (.iconst 2, 1) := by decide +kernel
theorem dX0_meetIndex_55 : decode cX0_meetIndex 55 = .ok (.if_icmp .eq 11, 3) := by decide +kernel
theorem dX0_meetIndex_58 : decode cX0_meetIndex 58 = .ok (.aload_n 0, 1) := by decide +kernel
theorem dX0_meetIndex_59 : decode cX0_meetIndex 59 = .ok (.getfield 70, 3) := by decide +kernel
theorem dX0_meetIndex_62 : decode cX0_meetIndex 62 = .ok (.iconst 3, 1) := by decide +kernel
theorem dX0_meetIndex_63 : decode cX0_meetIndex 63 = .ok (.if_icmp .ne 17, 3) := by decide +kernel
theorem dX0_meetIndex_66 : decode cX0_meetIndex 66 = .ok (.aload_n 0, 1) := by decide +kernel
theorem dX0_meetIndex_67 : decode cX0_meetIndex 67 = .ok (.getfield 47, 3) := by decide +kernel
theorem dX0_meetIndex_70 : decode cX0_meetIndex 70 = .ok (.iconst 5, 1) := by decide +kernel
theorem dX0_meetIndex_71 : decode cX0_meetIndex 71 = .ok (.if_icmp .ne 9, 3) := by decide +kernel
theorem dX0_meetIndex_74 : decode cX0_meetIndex 74 = .ok (.aload_n 0, 1) := by decide +kernel
theorem dX0_meetIndex_75 : decode cX0_meetIndex 75 = .ok (.bipush 16, 2) := by decide +kernel
theorem dX0_meetIndex_77 : decode cX0_meetIndex 77 = .ok (.invokevirtual 66, 3) := by decide +kernel
theorem dX0_meetIndex_80 : decode cX0_meetIndex 80 = .ok (.return_, 1) := by decide +kernel
set_option maxRecDepth 20000 in
theorem ggX0_endByteTime_X0_moveOneTrack : GoodIn wsX0_endByteTime wsX0_moveOneTrack := goodIn_r _ [7, 8, 9, 10, 11, 12, 13, 14, 6, 15, 16, 2, 17, 18, 19, 20, 21, 22, 23, 24, 25, 26, 27, 28, 29, 62, 63, 64, 65, 66, 67, 68, 69, 70, 71, 72, 73, 74, 75, 76, 77, 78, 79, 80, 81, 82, 83, 84, 85, 86, 87, 88, 89, 90, 91] (by decide +kernel) (by decide +kernel)
set_option maxRecDepth 20000 in
theorem gX0_endByteTime_X0_moveOneTrack : GoodIn wsX0_endByteTime (wsV RX0 98 RX0 yX0_moveOneTrack wsX0_moveOneTrack) := goodIn_app (goodIn_of _ (by decide +kernel)) ggX0_endByteTime_X0_moveOneTrack
set_option maxRecDepth 20000 in
theorem ggX0_endByteTime_X0_startWritingIfServed : GoodIn wsX0_endByteTime wsX0_startWritingIfServed := goodIn_r _ [33, 2, 17, 34, 35, 36, 37, 6, 38, 16, 39, 40, 41, 42, 12, 13, 14, 15, 18, 19, 20, 21, 22, 23, 43, 44, 45, 46, 47, 48, 49, 50, 51, 52, 53, 54, 55, 56, 57, 58, 59, 60, 61, 62, 63, 64, 65, 66, 67, 68, 69, 70, 71, 72, 73, 78, 79, 80, 81, 82, 83, 84, 85, 86, 87, 88, 89, 90, 91, 92, 93, 94, 95, 96, 97, 98] (by decide +kernel) (by decide +kernel)
set_option maxRecDepth 20000 in
theorem gX0_endByteTime_X0_startWritingIfServed : GoodIn wsX0_endByteTime (wsV RX0 95 RX0 yX0_startWritingIfServed wsX0_startWritingIfServed) := goodIn_app (goodIn_of _ (by decide +kernel)) ggX0_endByteTime_X0_startWritingIfServed
theorem dX0_endByteTime_0 : decode cX0_endByteTime 0 = .ok (.aload_n 0, 1) := by decide +kernel
theorem dX0_endByteTime_1 : decode cX0_endByteTime 1 = .ok (.dup, 1) := by decide +kernel
theorem dX0_endByteTime_2 : decode cX0_endByteTime 2 = .ok (.getfield 44, 3) := by decide +kernel
theorem dX0_endByteTime_5 : decode cX0_endByteTime 5 = .ok (.iconst 1, 1) := by decide +kernel
theorem dX0_endByteTime_6 : decode cX0_endByteTime 6 = .ok (.iadd, 1) := by decide +kernel
theorem dX0_endByteTime_7 : decode cX0_endByteTime 7 = .ok (.putfield 44, 3) := by decide +kernel
theorem dX0_endByteTime_10 : decode cX0_endByteTime 10 = .ok (.aload_n 0, 1) := by decide +kernel
theorem dX0_endByteTime_11 : decode cX0_endByteTime 11 = .ok (.getfield 70, 3) := by decide +kernel
theorem dX0_endByteTime_14 : decode cX0_endByteTime 14 = .ok (.iconst 1, 1) := by decide +kernel
theorem dX0_endByteTime_15 : decode cX0_endByteTime 15 = .ok (.if_icmp .ne 23, 3) := by decide +kernel
theorem dX0_endByteTime_18 : decode cX0_endByteTime 18 = .ok (.aload_n 0, 1) := by decide +kernel
theorem dX0_endByteTime_19 : decode cX0_endByteTime 19 = .ok (.getfield 44, 3) := by decide +kernel
theorem dX0_endByteTime_22 : decode cX0_endByteTime 22 = .ok (.iconst 3, 1) := by decide +kernel
theorem dX0_endByteTime_23 : decode cX0_endByteTime 23 = .ok (.if_icmp .ne 15, 3) := by decide +kernel
theorem dX0_endByteTime_26 : decode cX0_endByteTime 26 = .ok (.aload_n 0, 1) := by decide +kernel
theorem dX0_endByteTime_27 : decode cX0_endByteTime 27 = .ok (.iconst 0, 1) := by decide +kernel
theorem dX0_endByteTime_28 : decode cX0_endByteTime 28 = .ok (.putfield 44, 3) := by decide +kernel
theorem dX0_endByteTime_31 : decode cX0_endByteTime 31 = .ok (.aload_n 0, 1) := by decide +kernel
theorem dX0_endByteTime_32 : decode cX0_endByteTime 32 = .ok (.invokevirtual 98, 3) := by decide +kernel
theorem dX0_endByteTime_35 : decode cX0_endByteTime 35 = .ok (.goto 49, 3) := by decide +kernel
theorem dX0_endByteTime_38 : decode cX0_endByteTime 38 = .ok (.aload_n 0, 1) := by decide +kernel
theorem dX0_endByteTime_39 : decode cX0_endByteTime 39 = .ok (.getfield 70, 3) := by decide +kernel
theorem dX0_endByteTime_42 : decode cX0_endByteTime 42 = .ok (.iconst 3, 1) := by decide +kernel
theorem dX0_endByteTime_43 : decode cX0_endByteTime 43 = .ok (.if_icmp .ne 20, 3) := by decide +kernel
theorem dX0_endByteTime_46 : decode cX0_endByteTime 46 = .ok (.aload_n 0, 1) := by decide +kernel
theorem dX0_endByteTime_47 : decode cX0_endByteTime 47 = .ok (.getfield 44, 3) := by decide +kernel
theorem dX0_endByteTime_50 : decode cX0_endByteTime 50 = .ok (.bipush 31, 2) := by decide +kernel
theorem dX0_endByteTime_52 : decode cX0_endByteTime 52 = .ok (.if_icmp .ne 11, 3) := by decide +kernel
theorem dX0_endByteTime_55 : decode cX0_endByteTime 55 = .ok (.aload_n 0, 1) := by decide +kernel
theorem dX0_endByteTime_56 : decode cX0_endByteTime 56 = .ok (.iconst 2, 1) := by decide +kernel
theorem dX0_endByteTime_57 : decode cX0_endByteTime 57 = .ok (.putfield 70, 3) := by decide +kernel
theorem dX0_endByteTime_60 : decode cX0_endByteTime 60 = .ok (.goto 24, 3) := by decide +kernel
theorem dX0_endByteTime_63 : decode cX0_endByteTime 63 = .ok (.aload_n 0, 1) := by decide +kernel
theorem dX0_endByteTime_64 : decode cX0_endByteTime 64 = .ok (.getfield 70, 3) := by decide +kernel
theorem dX0_endByteTime_67 : decode cX0_endByteTime 67 = .ok (.iconst 5, 1) := by decide +kernel
theorem dX0_endByteTime_68 : decode cX0_endByteTime 68 = .ok (.if_icmp .ne 16, 3) := by decide +kernel
theorem dX0_endByteTime_71 : decode cX0_endByteTime 71 = .ok (.aload_n 0, 1) := by decide +kernel
theorem dX0_endByteTime_72 : decode cX0_endByteTime 72 = .ok (.getfield 44, 3) := by decide +kernel
theorem dX0_endByteTime_75 : decode cX0_endByteTime 75 = .ok (.bipush 11, 2) := by decide +kernel
theorem dX0_endByteTime_77 : decode cX0_endByteTime 77 = .ok (.if_icmp .ne 7, 3) := by decide +kernel
theorem dX0_endByteTime_80 : decode cX0_endByteTime 80 = .ok (.aload_n 0, 1) := by decide +kernel
theorem dX0_endByteTime_81 : decode cX0_endByteTime 81 = .ok (.invokevirtual 95, 3) := by decide +kernel
theorem dX0_endByteTime_84 : decode cX0_endByteTime 84 = .ok (.return_, 1) := by decide +kernel
set_option maxRecDepth 20000 in
theorem ggX0_moveOneTrack_X0_end : GoodIn wsX0_moveOneTrack wsX0_end := goodIn_r _ [9, 10, 11, 12, 13, 14, 15, 16, 17, 18, 25, 26, 27, 28, 29, 30, 31, 32, 33, 34, 35, 36, 41, 42, 43, 44, 45, 46, 47, 48, 49, 50, 51, 52, 53, 54] (by decide +kernel) (by decide +kernel)
set_option maxRecDepth 20000 in
theorem gX0_moveOneTrack_X0_end : GoodIn wsX0_moveOneTrack (wsV RX0 76 RX0 yX0_end wsX0_end) := goodIn_app (goodIn_of _ (by decide +kernel)) ggX0_moveOneTrack_X0_end
set_option maxRecDepth 20000 in
theorem ggX0_moveOneTrack_X1_moveHead : GoodIn wsX0_moveOneTrack wsX1_moveHead := goodIn_r _ [23, 24, 37, 38, 39, 40] (by decide +kernel) (by decide +kernel)
set_option maxRecDepth 20000 in
theorem gX0_moveOneTrack_X1_moveHead : GoodIn wsX0_moveOneTrack (wsV RX0 104 RX1 yX1_moveHead wsX1_moveHead) := goodIn_app (goodIn_of _ (by decide +kernel)) ggX0_moveOneTrack_X1_moveHead
theorem dX0_moveOneTrack_0 : decode cX0_moveOneTrack 0 = .ok (.aload_n 0, 1) := by decide +kernel
theorem dX0_moveOneTrack_1 : decode cX0_moveOneTrack 1 = .ok (.getfield 26, 3) := by decide +kernel
theorem dX0_moveOneTrack_4 : decode cX0_moveOneTrack 4 = .ok (.ifCond .ne 25, 3) := by decide +kernel
theorem dX0_moveOneTrack_7 : decode cX0_moveOneTrack 7 = .ok (.aload_n 0, 1) := by decide +kernel
theorem dX0_moveOneTrack_8 : decode cX0_moveOneTrack 8 = .ok (.getfield 9, 3) := by decide +kernel
theorem dX0_moveOneTrack_11 : decode cX0_moveOneTrack 11 = .ok (.getfield 101, 3) := by decide +kernel
theorem dX0_moveOneTrack_14 : decode cX0_moveOneTrack 14 = .ok (.ifCond .ne 15, 3) := by decide +kernel
theorem dX0_moveOneTrack_17 : decode cX0_moveOneTrack 17 = .ok (.aload_n 0, 1) := by decide +kernel
theorem dX0_moveOneTrack_18 : decode cX0_moveOneTrack 18 = .ok (.iconst 0, 1) := by decide +kernel
theorem dX0_moveOneTrack_19 : decode cX0_moveOneTrack 19 = .ok (.putfield 58, 3) := by decide +kernel
theorem dX0_moveOneTrack_22 : decode cX0_moveOneTrack 22 = .ok (.aload_n 0, 1) := by decide +kernel
theorem dX0_moveOneTrack_23 : decode cX0_moveOneTrack 23 = .ok (.invokevirtual 76, 3) := by decide +kernel
theorem dX0_moveOneTrack_26 : decode cX0_moveOneTrack 26 = .ok (.goto 56, 3) := by decide +kernel
theorem dX0_moveOneTrack_29 : decode cX0_moveOneTrack 29 = .ok (.aload_n 0, 1) := by decide +kernel
theorem dX0_moveOneTrack_30 : decode cX0_moveOneTrack 30 = .ok (.getfield 58, 3) := by decide +kernel
theorem dX0_moveOneTrack_33 : decode cX0_moveOneTrack 33 = .ok (.aload_n 0, 1) := by decide +kernel
theorem dX0_moveOneTrack_34 : decode cX0_moveOneTrack 34 = .ok (.getfield 33, 3) := by decide +kernel
theorem dX0_moveOneTrack_37 : decode cX0_moveOneTrack 37 = .ok (.if_icmp .ne 10, 3) := by decide +kernel
theorem dX0_moveOneTrack_40 : decode cX0_moveOneTrack 40 = .ok (.aload_n 0, 1) := by decide +kernel
theorem dX0_moveOneTrack_41 : decode cX0_moveOneTrack 41 = .ok (.invokevirtual 76, 3) := by decide +kernel
theorem dX0_moveOneTrack_44 : decode cX0_moveOneTrack 44 = .ok (.goto 38, 3) := by decide +kernel
theorem dX0_moveOneTrack_47 : decode cX0_moveOneTrack 47 = .ok (.aload_n 0, 1) := by decide +kernel
theorem dX0_moveOneTrack_48 : decode cX0_moveOneTrack 48 = .ok (.getfield 58, 3) := by decide +kernel
theorem dX0_moveOneTrack_51 : decode cX0_moveOneTrack 51 = .ok (.aload_n 0, 1) := by decide +kernel
theorem dX0_moveOneTrack_52 : decode cX0_moveOneTrack 52 = .ok (.getfield 33, 3) := by decide +kernel
theorem dX0_moveOneTrack_55 : decode cX0_moveOneTrack 55 = .ok (.if_icmp .ge 7, 3) := by decide +kernel
theorem dX0_moveOneTrack_58 : decode cX0_moveOneTrack 58 = .ok (.iconst 1, 1) := by decide +kernel
theorem dX0_moveOneTrack_59 : decode cX0_moveOneTrack 59 = .ok (.goto 4, 3) := by decide +kernel
theorem dX0_moveOneTrack_62 : decode cX0_moveOneTrack 62 = .ok (.iconst (-1), 1) := by decide +kernel
theorem dX0_moveOneTrack_63 : decode cX0_moveOneTrack 63 = .ok (.istore_n 1, 1) := by decide +kernel
theorem dX0_moveOneTrack_64 : decode cX0_moveOneTrack 64 = .ok (.aload_n 0, 1) := by decide +kernel
theorem dX0_moveOneTrack_65 : decode cX0_moveOneTrack 65 = .ok (.dup, 1) := by decide +kernel
theorem dX0_moveOneTrack_66 : decode cX0_moveOneTrack 66 = .ok (.getfield 58, 3) := by decide +kernel
theorem dX0_moveOneTrack_69 : decode cX0_moveOneTrack 69 = .ok (.iload_n 1, 1) := by decide +kernel
theorem dX0_moveOneTrack_70 : decode cX0_moveOneTrack 70 = .ok (.iadd, 1) := by decide +kernel
theorem dX0_moveOneTrack_71 : decode cX0_moveOneTrack 71 = .ok (.putfield 58, 3) := by decide +kernel
theorem dX0_moveOneTrack_74 : decode cX0_moveOneTrack 74 = .ok (.aload_n 0, 1) := by decide +kernel
theorem dX0_moveOneTrack_75 : decode cX0_moveOneTrack 75 = .ok (.getfield 9, 3) := by decide +kernel
theorem dX0_moveOneTrack_78 : decode cX0_moveOneTrack 78 = .ok (.iload_n 1, 1) := by decide +kernel
theorem dX0_moveOneTrack_79 : decode cX0_moveOneTrack 79 = .ok (.invokevirtual 104, 3) := by decide +kernel
theorem dX0_moveOneTrack_82 : decode cX0_moveOneTrack 82 = .ok (.return_, 1) := by decide +kernel
set_option maxRecDepth 20000 in
theorem ggX0_startWritingIfServed_X0_has : GoodIn wsX0_startWritingIfServed wsX0_has := goodIn_r _ [8, 9, 43, 44, 45, 46, 47, 48, 49, 50, 51, 52, 53, 54] (by decide +kernel) (by decide +kernel)
set_option maxRecDepth 20000 in
theorem gX0_startWritingIfServed_X0_has : GoodIn wsX0_startWritingIfServed (wsV RX0 36 RX0 yX0_has wsX0_has) := goodIn_app (goodIn_of _ (by decide +kernel)) ggX0_startWritingIfServed_X0_has
set_option maxRecDepth 20000 in
theorem ggX0_startWritingIfServed_X0_endWith : GoodIn wsX0_startWritingIfServed wsX0_endWith := goodIn_r _ [13, 9, 14, 15, 16, 7, 17, 1, 2, 18, 19, 20, 21, 22, 23, 43, 44, 45, 46, 47, 48, 49, 50, 51, 52, 53, 54, 55, 56, 57, 58, 59, 60, 61, 62, 63, 64, 65, 66, 67, 68] (by decide +kernel) (by decide +kernel)
set_option maxRecDepth 20000 in
theorem gX0_startWritingIfServed_X0_endWith : GoodIn wsX0_startWritingIfServed (wsV RX0 66 RX0 yX0_endWith wsX0_endWith) := goodIn_app (goodIn_of _ (by decide +kernel)) ggX0_startWritingIfServed_X0_endWith
set_option maxRecDepth 20000 in
theorem ggX0_startWritingIfServed_X2_reset : GoodIn wsX0_startWritingIfServed wsX2_reset := goodIn_r _ [27, 28, 29, 30, 55, 56, 57, 58, 59, 60, 61, 62, 63, 64, 65, 66, 67, 68] (by decide +kernel) (by decide +kernel)
set_option maxRecDepth 20000 in
theorem gX0_startWritingIfServed_X2_reset : GoodIn wsX0_startWritingIfServed (wsV RX0 50 RX2 yX2_reset wsX2_reset) := goodIn_app (goodIn_of _ (by decide +kernel)) ggX0_startWritingIfServed_X2_reset
set_option maxRecDepth 20000 in
theorem ggX0_startWritingIfServed_X4_start : GoodIn wsX0_startWritingIfServed wsX4_start := goodIn_r _ [35, 36, 37, 38, 39, 40, 41, 42, 69, 70, 71, 72, 73, 74, 75] (by decide +kernel) (by decide +kernel)
set_option maxRecDepth 20000 in
theorem gX0_startWritingIfServed_X4_start : GoodIn wsX0_startWritingIfServed (wsV RX0 107 RX4 yX4_start wsX4_start) := goodIn_app (goodIn_of _ (by decide +kernel)) ggX0_startWritingIfServed_X4_start
theorem dX0_startWritingIfServed_0 : decode cX0_startWritingIfServed 0 = .ok (.aload_n 0, 1) := by decide +kernel
theorem dX0_startWritingIfServed_1 : decode cX0_startWritingIfServed 1 = .ok (.iconst 2, 1) := by decide +kernel
theorem dX0_startWritingIfServed_2 : decode cX0_startWritingIfServed 2 = .ok (.invokevirtual 36, 3) := by decide +kernel
theorem dX0_startWritingIfServed_5 : decode cX0_startWritingIfServed 5 = .ok (.ifCond .eq 9, 3) := by decide +kernel
theorem dX0_startWritingIfServed_8 : decode cX0_startWritingIfServed 8 = .ok (.aload_n 0, 1) := by decide +kernel
theorem dX0_startWritingIfServed_9 : decode cX0_startWritingIfServed 9 = .ok (.iconst 4, 1) := by decide +kernel
theorem dX0_startWritingIfServed_10 : decode cX0_startWritingIfServed 10 = .ok (.invokevirtual 66, 3) := by decide +kernel
theorem dX0_startWritingIfServed_13 : decode cX0_startWritingIfServed 13 = .ok (.return_, 1) := by decide +kernel
theorem dX0_startWritingIfServed_14 : decode cX0_startWritingIfServed 14 = .ok (.aload_n 0, 1) := by decide +kernel
theorem dX0_startWritingIfServed_15 : decode cX0_startWritingIfServed 15 = .ok (.bipush 6, 2) := by decide +kernel
theorem dX0_startWritingIfServed_17 : decode cX0_startWritingIfServed 17 = .ok (.putfield 70, 3) := by decide +kernel
theorem dX0_startWritingIfServed_20 : decode cX0_startWritingIfServed 20 = .ok (.aload_n 0, 1) := by decide +kernel
theorem dX0_startWritingIfServed_21 : decode cX0_startWritingIfServed 21 = .ok (.getfield 15, 3) := by decide +kernel
theorem dX0_startWritingIfServed_24 : decode cX0_startWritingIfServed 24 = .ok (.invokevirtual 50, 3) := by decide +kernel
theorem dX0_startWritingIfServed_27 : decode cX0_startWritingIfServed 27 = .ok (.aload_n 0, 1) := by decide +kernel
theorem dX0_startWritingIfServed_28 : decode cX0_startWritingIfServed 28 = .ok (.getfield 22, 3) := by decide +kernel
theorem dX0_startWritingIfServed_31 : decode cX0_startWritingIfServed 31 = .ok (.invokevirtual 107, 3) := by decide +kernel
theorem dX0_startWritingIfServed_34 : decode cX0_startWritingIfServed 34 = .ok (.return_, 1) := by decide +kernel
set_option maxRecDepth 20000 in
theorem ggX0_readOneCell_X1_cellUnderHead : GoodIn wsX0_readOneCell wsX1_cellUnderHead := goodIn_r _ [7, 8, 9, 10, 11, 12, 6, 13, 14, 122, 123, 124, 125] (by decide +kernel) (by decide +kernel)
set_option maxRecDepth 20000 in
theorem gX0_readOneCell_X1_cellUnderHead : GoodIn wsX0_readOneCell (wsV RX0 110 RX1 yX1_cellUnderHead wsX1_cellUnderHead) := goodIn_app (goodIn_of _ (by decide +kernel)) ggX0_readOneCell_X1_cellUnderHead
set_option maxRecDepth 20000 in
theorem ggX0_readOneCell_X2_readCell : GoodIn wsX0_readOneCell wsX2_readCell := goodIn_r _ [19, 20, 21, 22, 23, 24, 25, 26, 27, 28, 29, 18, 30, 31, 32, 33, 34, 35, 36, 37, 38, 39, 40, 41, 42, 43, 44, 45, 46, 47, 48, 49, 50, 51, 52, 53, 54, 55, 56, 57, 58, 59, 126, 127, 128, 129, 130, 131, 132, 133, 134, 135, 136, 137, 138, 139] (by decide +kernel) (by decide +kernel)
set_option maxRecDepth 20000 in
theorem gX0_readOneCell_X2_readCell : GoodIn wsX0_readOneCell (wsV RX0 114 RX2 yX2_readCell wsX2_readCell) := goodIn_app (goodIn_of _ (by decide +kernel)) ggX0_readOneCell_X2_readCell
set_option maxRecDepth 20000 in
theorem ggX0_readOneCell_X0_meetFieldStart : GoodIn wsX0_readOneCell wsX0_meetFieldStart := goodIn_r _ [64, 65, 66, 1, 67, 68, 69, 70, 18, 71, 35, 110, 111, 112, 113, 114, 115, 116, 117, 118, 119, 120, 121, 126, 127, 128, 129, 130, 131, 132, 133, 134, 135, 136, 137, 138, 139] (by decide +kernel) (by decide +kernel)
set_option maxRecDepth 20000 in
theorem gX0_readOneCell_X0_meetFieldStart : GoodIn wsX0_readOneCell (wsV RX0 118 RX0 yX0_meetFieldStart wsX0_meetFieldStart) := goodIn_app (goodIn_of _ (by decide +kernel)) ggX0_readOneCell_X0_meetFieldStart
set_option maxRecDepth 20000 in
theorem ggX0_readOneCell_X0_meetFieldByte : GoodIn wsX0_readOneCell wsX0_meetFieldByte := goodIn_r _ [75, 66, 1, 76, 67, 77, 78, 79, 18, 80, 37, 48, 81, 69, 70, 71, 35, 82, 83, 84, 63, 85, 110, 111, 112, 113, 114, 115, 116, 117, 118, 119, 120, 121, 126, 127, 128, 129, 130, 131, 132, 133, 134, 135, 136, 137, 138, 139] (by decide +kernel) (by decide +kernel)
set_option maxRecDepth 20000 in
theorem gX0_readOneCell_X0_meetFieldByte : GoodIn wsX0_readOneCell (wsV RX0 121 RX0 yX0_meetFieldByte wsX0_meetFieldByte) := goodIn_app (goodIn_of _ (by decide +kernel)) ggX0_readOneCell_X0_meetFieldByte
set_option maxRecDepth 20000 in
theorem ggX0_readOneCell_X0_meetFieldEnd : GoodIn wsX0_readOneCell wsX0_meetFieldEnd := goodIn_r _ [89, 66, 1, 90, 91, 92, 63, 93, 65, 94, 67, 95, 57, 58, 18, 59, 38, 96, 97, 98, 99, 100, 101, 102, 103, 20, 68, 69, 70, 71, 35, 104, 105, 106, 107, 108, 109, 110, 111, 112, 113, 114, 115, 116, 117, 118, 119, 120, 121, 126, 127, 128, 129, 130, 131, 132, 133, 134, 135, 136, 137, 138, 139] (by decide +kernel) (by decide +kernel)
set_option maxRecDepth 20000 in
theorem gX0_readOneCell_X0_meetFieldEnd : GoodIn wsX0_readOneCell (wsV RX0 124 RX0 yX0_meetFieldEnd wsX0_meetFieldEnd) := goodIn_app (goodIn_of _ (by decide +kernel)) ggX0_readOneCell_X0_meetFieldEnd
theorem dX0_readOneCell_0 : decode cX0_readOneCell 0 = .ok (.aload_n 0, 1) := by decide +kernel
theorem dX0_readOneCell_1 : decode cX0_readOneCell 1 = .ok (.getfield 15, 3) := by decide +kernel
theorem dX0_readOneCell_4 : decode cX0_readOneCell 4 = .ok (.aload_n 0, 1) := by decide +kernel
theorem dX0_readOneCell_5 : decode cX0_readOneCell 5 = .ok (.getfield 9, 3) := by decide +kernel
theorem dX0_readOneCell_8 : decode cX0_readOneCell 8 = .ok (.invokevirtual 110, 3) := by decide +kernel
theorem dX0_readOneCell_11 : decode cX0_readOneCell 11 = .ok (.invokevirtual 114, 3) := by decide +kernel
theorem dX0_readOneCell_14 : decode cX0_readOneCell 14 = .ok (.istore_n 1, 1) := by decide +kernel
theorem dX0_readOneCell_15 : decode cX0_readOneCell 15 = .ok (.iload_n 1, 1) := by decide +kernel
theorem dX0_readOneCell_16 : decode cX0_readOneCell 16 = .ok (.iconst 1, 1) := by decide +kernel
theorem dX0_readOneCell_17 : decode cX0_readOneCell 17 = .ok (.if_icmp .ne 10, 3) := by decide +kernel
theorem dX0_readOneCell_20 : decode cX0_readOneCell 20 = .ok (.aload_n 0, 1) := by decide +kernel
theorem dX0_readOneCell_21 : decode cX0_readOneCell 21 = .ok (.invokevirtual 118, 3) := by decide +kernel
theorem dX0_readOneCell_24 : decode cX0_readOneCell 24 = .ok (.goto 28, 3) := by decide +kernel
theorem dX0_readOneCell_27 : decode cX0_readOneCell 27 = .ok (.iload_n 1, 1) := by decide +kernel
theorem dX0_readOneCell_28 : decode cX0_readOneCell 28 = .ok (.iconst 2, 1) := by decide +kernel
theorem dX0_readOneCell_29 : decode cX0_readOneCell 29 = .ok (.if_icmp .ne 10, 3) := by decide +kernel
theorem dX0_readOneCell_32 : decode cX0_readOneCell 32 = .ok (.aload_n 0, 1) := by decide +kernel
theorem dX0_readOneCell_33 : decode cX0_readOneCell 33 = .ok (.invokevirtual 121, 3) := by decide +kernel
theorem dX0_readOneCell_36 : decode cX0_readOneCell 36 = .ok (.goto 16, 3) := by decide +kernel
theorem dX0_readOneCell_39 : decode cX0_readOneCell 39 = .ok (.iload_n 1, 1) := by decide +kernel
theorem dX0_readOneCell_40 : decode cX0_readOneCell 40 = .ok (.iconst 3, 1) := by decide +kernel
theorem dX0_readOneCell_41 : decode cX0_readOneCell 41 = .ok (.if_icmp .ne 11, 3) := by decide +kernel
theorem dX0_readOneCell_44 : decode cX0_readOneCell 44 = .ok (.aload_n 0, 1) := by decide +kernel
theorem dX0_readOneCell_45 : decode cX0_readOneCell 45 = .ok (.invokevirtual 121, 3) := by decide +kernel
theorem dX0_readOneCell_48 : decode cX0_readOneCell 48 = .ok (.aload_n 0, 1) := by decide +kernel
theorem dX0_readOneCell_49 : decode cX0_readOneCell 49 = .ok (.invokevirtual 124, 3) := by decide +kernel
theorem dX0_readOneCell_52 : decode cX0_readOneCell 52 = .ok (.return_, 1) := by decide +kernel
set_option maxRecDepth 20000 in
theorem ggX0_meetFieldStart_X2_isLatestFieldId : GoodIn wsX0_meetFieldStart wsX2_isLatestFieldId := goodIn_r _ [9, 10, 23, 24, 25, 26, 27, 28, 29, 30, 31, 32, 33, 34, 35, 36] (by decide +kernel) (by decide +kernel)
set_option maxRecDepth 20000 in
theorem gX0_meetFieldStart_X2_isLatestFieldId : GoodIn wsX0_meetFieldStart (wsV RX0 127 RX2 yX2_isLatestFieldId wsX2_isLatestFieldId) := goodIn_app (goodIn_of _ (by decide +kernel)) ggX0_meetFieldStart_X2_isLatestFieldId
theorem dX0_meetFieldStart_0 : decode cX0_meetFieldStart 0 = .ok (.aload_n 0, 1) := by decide +kernel
theorem dX0_meetFieldStart_1 : decode cX0_meetFieldStart 1 = .ok (.getfield 26, 3) := by decide +kernel
theorem dX0_meetFieldStart_4 : decode cX0_meetFieldStart 4 = .ok (.iconst 4, 1) := by decide +kernel
theorem dX0_meetFieldStart_5 : decode cX0_meetFieldStart 5 = .ok (.if_icmp .ne 29, 3) := by decide +kernel
theorem dX0_meetFieldStart_8 : decode cX0_meetFieldStart 8 = .ok (.aload_n 0, 1) := by decide +kernel
theorem dX0_meetFieldStart_9 : decode cX0_meetFieldStart 9 = .ok (.getfield 70, 3) := by decide +kernel
theorem dX0_meetFieldStart_12 : decode cX0_meetFieldStart 12 = .ok (.iconst 2, 1) := by decide +kernel
theorem dX0_meetFieldStart_13 : decode cX0_meetFieldStart 13 = .ok (.if_icmp .ne 21, 3) := by decide +kernel
theorem dX0_meetFieldStart_16 : decode cX0_meetFieldStart 16 = .ok (.aload_n 0, 1) := by decide +kernel
theorem dX0_meetFieldStart_17 : decode cX0_meetFieldStart 17 = .ok (.getfield 15, 3) := by decide +kernel
theorem dX0_meetFieldStart_20 : decode cX0_meetFieldStart 20 = .ok (.invokevirtual 127, 3) := by decide +kernel
theorem dX0_meetFieldStart_23 : decode cX0_meetFieldStart 23 = .ok (.ifCond .eq 11, 3) := by decide +kernel
theorem dX0_meetFieldStart_26 : decode cX0_meetFieldStart 26 = .ok (.aload_n 0, 1) := by decide +kernel
theorem dX0_meetFieldStart_27 : decode cX0_meetFieldStart 27 = .ok (.iconst 4, 1) := by decide +kernel
theorem dX0_meetFieldStart_28 : decode cX0_meetFieldStart 28 = .ok (.putfield 70, 3) := by decide +kernel
theorem dX0_meetFieldStart_31 : decode cX0_meetFieldStart 31 = .ok (.goto 50, 3) := by decide +kernel
theorem dX0_meetFieldStart_34 : decode cX0_meetFieldStart 34 = .ok (.aload_n 0, 1) := by decide +kernel
theorem dX0_meetFieldStart_35 : decode cX0_meetFieldStart 35 = .ok (.getfield 70, 3) := by decide +kernel
theorem dX0_meetFieldStart_38 : decode cX0_meetFieldStart 38 = .ok (.iconst 3, 1) := by decide +kernel
theorem dX0_meetFieldStart_39 : decode cX0_meetFieldStart 39 = .ok (.if_icmp .ne 42, 3) := by decide +kernel
theorem dX0_meetFieldStart_42 : decode cX0_meetFieldStart 42 = .ok (.aload_n 0, 1) := by decide +kernel
theorem dX0_meetFieldStart_43 : decode cX0_meetFieldStart 43 = .ok (.getfield 15, 3) := by decide +kernel
theorem dX0_meetFieldStart_46 : decode cX0_meetFieldStart 46 = .ok (.invokevirtual 127, 3) := by decide +kernel
theorem dX0_meetFieldStart_49 : decode cX0_meetFieldStart 49 = .ok (.ifCond .ne 32, 3) := by decide +kernel
theorem dX0_meetFieldStart_52 : decode cX0_meetFieldStart 52 = .ok (.aload_n 0, 1) := by decide +kernel
theorem dX0_meetFieldStart_53 : decode cX0_meetFieldStart 53 = .ok (.iconst 4, 1) := by decide +kernel
theorem dX0_meetFieldStart_54 : decode cX0_meetFieldStart 54 = .ok (.putfield 70, 3) := by decide +kernel
theorem dX0_meetFieldStart_57 : decode cX0_meetFieldStart 57 = .ok (.aload_n 0, 1) := by decide +kernel
theorem dX0_meetFieldStart_58 : decode cX0_meetFieldStart 58 = .ok (.getfield 15, 3) := by decide +kernel
theorem dX0_meetFieldStart_61 : decode cX0_meetFieldStart 61 = .ok (.getfield 130, 3) := by decide +kernel
theorem dX0_meetFieldStart_64 : decode cX0_meetFieldStart 64 = .ok (.sipush 248, 3) := by decide +kernel
theorem dX0_meetFieldStart_67 : decode cX0_meetFieldStart 67 = .ok (.if_icmp .ne 14, 3) := by decide +kernel
theorem dX0_meetFieldStart_70 : decode cX0_meetFieldStart 70 = .ok (.aload_n 0, 1) := by decide +kernel
theorem dX0_meetFieldStart_71 : decode cX0_meetFieldStart 71 = .ok (.dup, 1) := by decide +kernel
theorem dX0_meetFieldStart_72 : decode cX0_meetFieldStart 72 = .ok (.getfield 30, 3) := by decide +kernel
theorem dX0_meetFieldStart_75 : decode cX0_meetFieldStart 75 = .ok (.bipush 32, 2) := by decide +kernel
theorem dX0_meetFieldStart_77 : decode cX0_meetFieldStart 77 = .ok (.ior, 1) := by decide +kernel
theorem dX0_meetFieldStart_78 : decode cX0_meetFieldStart 78 = .ok (.putfield 30, 3) := by decide +kernel
theorem dX0_meetFieldStart_81 : decode cX0_meetFieldStart 81 = .ok (.return_, 1) := by decide +kernel
set_option maxRecDepth 20000 in
theorem ggX0_meetFieldByte_X2_isLatestByteOfCheck : GoodIn wsX0_meetFieldByte wsX2_isLatestByteOfCheck := goodIn_r _ [9, 10, 11, 12, 13, 14, 8, 15, 16, 34, 35, 36, 37, 38, 39, 40, 41, 42, 43, 44, 45, 46, 47] (by decide +kernel) (by decide +kernel)
set_option maxRecDepth 20000 in
theorem gX0_meetFieldByte_X2_isLatestByteOfCheck : GoodIn wsX0_meetFieldByte (wsV RX0 133 RX2 yX2_isLatestByteOfCheck wsX2_isLatestByteOfCheck) := goodIn_app (goodIn_of _ (by decide +kernel)) ggX0_meetFieldByte_X2_isLatestByteOfCheck
set_option maxRecDepth 20000 in
theorem ggX0_meetFieldByte_X0_has : GoodIn wsX0_meetFieldByte wsX0_has := goodIn_r _ [21, 4, 22, 23, 24, 25, 26, 27, 28, 29, 30, 31, 32, 33] (by decide +kernel) (by decide +kernel)
set_option maxRecDepth 20000 in
theorem gX0_meetFieldByte_X0_has : GoodIn wsX0_meetFieldByte (wsV RX0 36 RX0 yX0_has wsX0_has) := goodIn_app (goodIn_of _ (by decide +kernel)) ggX0_meetFieldByte_X0_has
theorem dX0_meetFieldByte_0 : decode cX0_meetFieldByte 0 = .ok (.aload_n 0, 1) := by decide +kernel
theorem dX0_meetFieldByte_1 : decode cX0_meetFieldByte 1 = .ok (.getfield 70, 3) := by decide +kernel
theorem dX0_meetFieldByte_4 : decode cX0_meetFieldByte 4 = .ok (.iconst 4, 1) := by decide +kernel
theorem dX0_meetFieldByte_5 : decode cX0_meetFieldByte 5 = .ok (.if_icmp .ne 13, 3) := by decide +kernel
theorem dX0_meetFieldByte_8 : decode cX0_meetFieldByte 8 = .ok (.aload_n 0, 1) := by decide +kernel
theorem dX0_meetFieldByte_9 : decode cX0_meetFieldByte 9 = .ok (.getfield 15, 3) := by decide +kernel
theorem dX0_meetFieldByte_12 : decode cX0_meetFieldByte 12 = .ok (.invokevirtual 133, 3) := by decide +kernel
theorem dX0_meetFieldByte_15 : decode cX0_meetFieldByte 15 = .ok (.ifCond .eq 4, 3) := by decide +kernel
theorem dX0_meetFieldByte_18 : decode cX0_meetFieldByte 18 = .ok (.return_, 1) := by decide +kernel
theorem dX0_meetFieldByte_19 : decode cX0_meetFieldByte 19 = .ok (.aload_n 0, 1) := by decide +kernel
theorem dX0_meetFieldByte_20 : decode cX0_meetFieldByte 20 = .ok (.aload_n 0, 1) := by decide +kernel
theorem dX0_meetFieldByte_21 : decode cX0_meetFieldByte 21 = .ok (.getfield 15, 3) := by decide +kernel
theorem dX0_meetFieldByte_24 : decode cX0_meetFieldByte 24 = .ok (.getfield 136, 3) := by decide +kernel
theorem dX0_meetFieldByte_27 : decode cX0_meetFieldByte 27 = .ok (.putfield 33, 3) := by decide +kernel
theorem dX0_meetFieldByte_30 : decode cX0_meetFieldByte 30 = .ok (.aload_n 0, 1) := by decide +kernel
theorem dX0_meetFieldByte_31 : decode cX0_meetFieldByte 31 = .ok (.iconst 2, 1) := by decide +kernel
theorem dX0_meetFieldByte_32 : decode cX0_meetFieldByte 32 = .ok (.invokevirtual 36, 3) := by decide +kernel
theorem dX0_meetFieldByte_35 : decode cX0_meetFieldByte 35 = .ok (.ifCond .eq 13, 3) := by decide +kernel
theorem dX0_meetFieldByte_38 : decode cX0_meetFieldByte 38 = .ok (.aload_n 0, 1) := by decide +kernel
theorem dX0_meetFieldByte_39 : decode cX0_meetFieldByte 39 = .ok (.dup, 1) := by decide +kernel
theorem dX0_meetFieldByte_40 : decode cX0_meetFieldByte 40 = .ok (.getfield 30, 3) := by decide +kernel
theorem dX0_meetFieldByte_43 : decode cX0_meetFieldByte 43 = .ok (.iconst 4, 1) := by decide +kernel
theorem dX0_meetFieldByte_44 : decode cX0_meetFieldByte 44 = .ok (.ior, 1) := by decide +kernel
theorem dX0_meetFieldByte_45 : decode cX0_meetFieldByte 45 = .ok (.putfield 30, 3) := by decide +kernel
theorem dX0_meetFieldByte_48 : decode cX0_meetFieldByte 48 = .ok (.aload_n 0, 1) := by decide +kernel
theorem dX0_meetFieldByte_49 : decode cX0_meetFieldByte 49 = .ok (.dup, 1) := by decide +kernel
theorem dX0_meetFieldByte_50 : decode cX0_meetFieldByte 50 = .ok (.getfield 30, 3) := by decide +kernel
theorem dX0_meetFieldByte_53 : decode cX0_meetFieldByte 53 = .ok (.iconst 2, 1) := by decide +kernel
theorem dX0_meetFieldByte_54 : decode cX0_meetFieldByte 54 = .ok (.ior, 1) := by decide +kernel
theorem dX0_meetFieldByte_55 : decode cX0_meetFieldByte 55 = .ok (.putfield 30, 3) := by decide +kernel
theorem dX0_meetFieldByte_58 : decode cX0_meetFieldByte 58 = .ok (.return_, 1) := by decide +kernel
set_option maxRecDepth 20000 in
theorem ggX0_meetFieldEnd_X0_endReading : GoodIn wsX0_meetFieldEnd wsX0_endReading := goodIn_r _ [7, 8, 2, 9, 10, 11, 12, 13, 14, 15, 16, 17, 18, 19, 6, 20, 1, 21, 22, 23, 24, 25, 37, 38, 39, 40, 41, 42, 43, 44, 45, 46, 47, 48, 49, 50, 51, 52, 53, 54, 55, 56, 57, 58, 59, 60, 61, 62] (by decide +kernel) (by decide +kernel)
set_option maxRecDepth 20000 in
theorem gX0_meetFieldEnd_X0_endReading : GoodIn wsX0_meetFieldEnd (wsV RX0 139 RX0 yX0_endReading wsX0_endReading) := goodIn_app (goodIn_of _ (by decide +kernel)) ggX0_meetFieldEnd_X0_endReading
set_option maxRecDepth 20000 in
theorem ggX0_meetFieldEnd_X2_isLatestFieldId : GoodIn wsX0_meetFieldEnd wsX2_isLatestFieldId := goodIn_r _ [29, 30, 49, 50, 51, 52, 53, 54, 55, 56, 57, 58, 59, 60, 61, 62] (by decide +kernel) (by decide +kernel)
set_option maxRecDepth 20000 in
theorem gX0_meetFieldEnd_X2_isLatestFieldId : GoodIn wsX0_meetFieldEnd (wsV RX0 127 RX2 yX2_isLatestFieldId wsX2_isLatestFieldId) := goodIn_app (goodIn_of _ (by decide +kernel)) ggX0_meetFieldEnd_X2_isLatestFieldId
set_option maxRecDepth 20000 in
theorem ggX0_meetFieldEnd_X0_compareId : GoodIn wsX0_meetFieldEnd wsX0_compareId := goodIn_r _ [34, 2, 10, 35, 9, 36, 8, 1, 11, 12, 13, 14, 15, 16, 37, 38, 39, 40, 41, 42, 43, 44, 45, 46, 47, 48, 49, 50, 51, 52, 53, 54, 55, 56, 57, 58, 59, 60, 61, 62] (by decide +kernel) (by decide +kernel)
set_option maxRecDepth 20000 in
theorem gX0_meetFieldEnd_X0_compareId : GoodIn wsX0_meetFieldEnd (wsV RX0 142 RX0 yX0_compareId wsX0_compareId) := goodIn_app (goodIn_of _ (by decide +kernel)) ggX0_meetFieldEnd_X0_compareId
theorem dX0_meetFieldEnd_0 : decode cX0_meetFieldEnd 0 = .ok (.aload_n 0, 1) := by decide +kernel
theorem dX0_meetFieldEnd_1 : decode cX0_meetFieldEnd 1 = .ok (.getfield 70, 3) := by decide +kernel
theorem dX0_meetFieldEnd_4 : decode cX0_meetFieldEnd 4 = .ok (.iconst 4, 1) := by decide +kernel
theorem dX0_meetFieldEnd_5 : decode cX0_meetFieldEnd 5 = .ok (.if_icmp .ne 10, 3) := by decide +kernel
theorem dX0_meetFieldEnd_8 : decode cX0_meetFieldEnd 8 = .ok (.aload_n 0, 1) := by decide +kernel
theorem dX0_meetFieldEnd_9 : decode cX0_meetFieldEnd 9 = .ok (.invokevirtual 139, 3) := by decide +kernel
theorem dX0_meetFieldEnd_12 : decode cX0_meetFieldEnd 12 = .ok (.goto 33, 3) := by decide +kernel
theorem dX0_meetFieldEnd_15 : decode cX0_meetFieldEnd 15 = .ok (.aload_n 0, 1) := by decide +kernel
theorem dX0_meetFieldEnd_16 : decode cX0_meetFieldEnd 16 = .ok (.getfield 15, 3) := by decide +kernel
theorem dX0_meetFieldEnd_19 : decode cX0_meetFieldEnd 19 = .ok (.invokevirtual 127, 3) := by decide +kernel
theorem dX0_meetFieldEnd_22 : decode cX0_meetFieldEnd 22 = .ok (.ifCond .eq 23, 3) := by decide +kernel
theorem dX0_meetFieldEnd_25 : decode cX0_meetFieldEnd 25 = .ok (.aload_n 0, 1) := by decide +kernel
theorem dX0_meetFieldEnd_26 : decode cX0_meetFieldEnd 26 = .ok (.getfield 70, 3) := by decide +kernel
theorem dX0_meetFieldEnd_29 : decode cX0_meetFieldEnd 29 = .ok (.iconst 2, 1) := by decide +kernel
theorem dX0_meetFieldEnd_30 : decode cX0_meetFieldEnd 30 = .ok (.if_icmp .eq 11, 3) := by decide +kernel
theorem dX0_meetFieldEnd_33 : decode cX0_meetFieldEnd 33 = .ok (.aload_n 0, 1) := by decide +kernel
theorem dX0_meetFieldEnd_34 : decode cX0_meetFieldEnd 34 = .ok (.getfield 70, 3) := by decide +kernel
theorem dX0_meetFieldEnd_37 : decode cX0_meetFieldEnd 37 = .ok (.iconst 3, 1) := by decide +kernel
theorem dX0_meetFieldEnd_38 : decode cX0_meetFieldEnd 38 = .ok (.if_icmp .ne 7, 3) := by decide +kernel
theorem dX0_meetFieldEnd_41 : decode cX0_meetFieldEnd 41 = .ok (.aload_n 0, 1) := by decide +kernel
theorem dX0_meetFieldEnd_42 : decode cX0_meetFieldEnd 42 = .ok (.invokevirtual 142, 3) := by decide +kernel
theorem dX0_meetFieldEnd_45 : decode cX0_meetFieldEnd 45 = .ok (.return_, 1) := by decide +kernel
set_option maxRecDepth 20000 in
theorem ggX0_endReading_X2_isCheckRight : GoodIn wsX0_endReading wsX2_isCheckRight := goodIn_r _ [9, 10, 34, 35, 36, 37, 38, 39, 40, 41, 42, 43, 44, 45, 46, 47] (by decide +kernel) (by decide +kernel)
set_option maxRecDepth 20000 in
theorem gX0_endReading_X2_isCheckRight : GoodIn wsX0_endReading (wsV RX0 151 RX2 yX2_isCheckRight wsX2_isCheckRight) := goodIn_app (goodIn_of _ (by decide +kernel)) ggX0_endReading_X2_isCheckRight
set_option maxRecDepth 20000 in
theorem ggX0_endReading_X0_end : GoodIn wsX0_endReading wsX0_end := goodIn_r _ [15, 4, 16, 2, 17, 18, 19, 8, 20, 21, 22, 23, 24, 25, 26, 27, 28, 29, 30, 31, 32, 33, 34, 35, 36, 37, 38, 39, 40, 41, 42, 43, 44, 45, 46, 47] (by decide +kernel) (by decide +kernel)
set_option maxRecDepth 20000 in
theorem gX0_endReading_X0_end : GoodIn wsX0_endReading (wsV RX0 76 RX0 yX0_end wsX0_end) := goodIn_app (goodIn_of _ (by decide +kernel)) ggX0_endReading_X0_end
theorem dX0_endReading_0 : decode cX0_endReading 0 = .ok (.aload_n 0, 1) := by decide +kernel
theorem dX0_endReading_1 : decode cX0_endReading 1 = .ok (.getfield 26, 3) := by decide +kernel
theorem dX0_endReading_4 : decode cX0_endReading 4 = .ok (.iconst 4, 1) := by decide +kernel
theorem dX0_endReading_5 : decode cX0_endReading 5 = .ok (.if_icmp .ne 14, 3) := by decide +kernel
theorem dX0_endReading_8 : decode cX0_endReading 8 = .ok (.aload_n 0, 1) := by decide +kernel
theorem dX0_endReading_9 : decode cX0_endReading 9 = .ok (.aload_n 0, 1) := by decide +kernel
theorem dX0_endReading_10 : decode cX0_endReading 10 = .ok (.getfield 15, 3) := by decide +kernel
theorem dX0_endReading_13 : decode cX0_endReading 13 = .ok (.getfield 145, 3) := by decide +kernel
theorem dX0_endReading_16 : decode cX0_endReading 16 = .ok (.putfield 148, 3) := by decide +kernel
theorem dX0_endReading_19 : decode cX0_endReading 19 = .ok (.aload_n 0, 1) := by decide +kernel
theorem dX0_endReading_20 : decode cX0_endReading 20 = .ok (.getfield 15, 3) := by decide +kernel
theorem dX0_endReading_23 : decode cX0_endReading 23 = .ok (.invokevirtual 151, 3) := by decide +kernel
theorem dX0_endReading_26 : decode cX0_endReading 26 = .ok (.ifCond .ne 14, 3) := by decide +kernel
theorem dX0_endReading_29 : decode cX0_endReading 29 = .ok (.aload_n 0, 1) := by decide +kernel
theorem dX0_endReading_30 : decode cX0_endReading 30 = .ok (.dup, 1) := by decide +kernel
theorem dX0_endReading_31 : decode cX0_endReading 31 = .ok (.getfield 30, 3) := by decide +kernel
theorem dX0_endReading_34 : decode cX0_endReading 34 = .ok (.bipush 8, 2) := by decide +kernel
theorem dX0_endReading_36 : decode cX0_endReading 36 = .ok (.ior, 1) := by decide +kernel
theorem dX0_endReading_37 : decode cX0_endReading 37 = .ok (.putfield 30, 3) := by decide +kernel
theorem dX0_endReading_40 : decode cX0_endReading 40 = .ok (.aload_n 0, 1) := by decide +kernel
theorem dX0_endReading_41 : decode cX0_endReading 41 = .ok (.invokevirtual 76, 3) := by decide +kernel
theorem dX0_endReading_44 : decode cX0_endReading 44 = .ok (.return_, 1) := by decide +kernel
set_option maxRecDepth 20000 in
theorem ggX0_compareId_X2_isCheckRight : GoodIn wsX0_compareId wsX2_isCheckRight := goodIn_r _ [12, 13, 26, 27, 28, 29, 30, 31, 32, 33, 34, 35, 36, 37, 38, 39] (by decide +kernel) (by decide +kernel)
set_option maxRecDepth 20000 in
theorem gX0_compareId_X2_isCheckRight : GoodIn wsX0_compareId (wsV RX0 151 RX2 yX2_isCheckRight wsX2_isCheckRight) := goodIn_app (goodIn_of _ (by decide +kernel)) ggX0_compareId_X2_isCheckRight
theorem dX0_compareId_0 : decode cX0_compareId 0 = .ok (.aload_n 0, 1) := by decide +kernel
theorem dX0_compareId_1 : decode cX0_compareId 1 = .ok (.getfield 15, 3) := by decide +kernel
theorem dX0_compareId_4 : decode cX0_compareId 4 = .ok (.invokevirtual 151, 3) := by decide +kernel
theorem dX0_compareId_7 : decode cX0_compareId 7 = .ok (.ifCond .ne 15, 3) := by decide +kernel
theorem dX0_compareId_10 : decode cX0_compareId 10 = .ok (.aload_n 0, 1) := by decide +kernel
theorem dX0_compareId_11 : decode cX0_compareId 11 = .ok (.dup, 1) := by decide +kernel
theorem dX0_compareId_12 : decode cX0_compareId 12 = .ok (.getfield 30, 3) := by decide +kernel
theorem dX0_compareId_15 : decode cX0_compareId 15 = .ok (.bipush 8, 2) := by decide +kernel
theorem dX0_compareId_17 : decode cX0_compareId 17 = .ok (.ior, 1) := by decide +kernel
theorem dX0_compareId_18 : decode cX0_compareId 18 = .ok (.putfield 30, 3) := by decide +kernel
theorem dX0_compareId_21 : decode cX0_compareId 21 = .ok (.return_, 1) := by decide +kernel
theorem dX0_compareId_22 : decode cX0_compareId 22 = .ok (.aload_n 0, 1) := by decide +kernel
theorem dX0_compareId_23 : decode cX0_compareId 23 = .ok (.dup, 1) := by decide +kernel
theorem dX0_compareId_24 : decode cX0_compareId 24 = .ok (.getfield 30, 3) := by decide +kernel
theorem dX0_compareId_27 : decode cX0_compareId 27 = .ok (.bipush (-9), 2) := by decide +kernel
theorem dX0_compareId_29 : decode cX0_compareId 29 = .ok (.iand, 1) := by decide +kernel
theorem dX0_compareId_30 : decode cX0_compareId 30 = .ok (.putfield 30, 3) := by decide +kernel
theorem dX0_compareId_33 : decode cX0_compareId 33 = .ok (.aload_n 0, 1) := by decide +kernel
theorem dX0_compareId_34 : decode cX0_compareId 34 = .ok (.getfield 15, 3) := by decide +kernel
theorem dX0_compareId_37 : decode cX0_compareId 37 = .ok (.getfield 145, 3) := by decide +kernel
theorem dX0_compareId_40 : decode cX0_compareId 40 = .ok (.aload_n 0, 1) := by decide +kernel
theorem dX0_compareId_41 : decode cX0_compareId 41 = .ok (.getfield 58, 3) := by decide +kernel
theorem dX0_compareId_44 : decode cX0_compareId 44 = .ok (.if_icmp .ne 17, 3) := by decide +kernel
theorem dX0_compareId_47 : decode cX0_compareId 47 = .ok (.aload_n 0, 1) := by decide +kernel
theorem dX0_compareId_48 : decode cX0_compareId 48 = .ok (.getfield 15, 3) := by decide +kernel
theorem dX0_compareId_51 : decode cX0_compareId 51 = .ok (.getfield 154, 3) := by decide +kernel
theorem dX0_compareId_54 : decode cX0_compareId 54 = .ok (.aload_n 0, 1) := by decide +kernel
theorem dX0_compareId_55 : decode cX0_compareId 55 = .ok (.getfield 148, 3) := by decide +kernel
theorem dX0_compareId_58 : decode cX0_compareId 58 = .ok (.if_icmp .eq 4, 3) := by decide +kernel
theorem dX0_compareId_61 : decode cX0_compareId 61 = .ok (.return_, 1) := by decide +kernel
theorem dX0_compareId_62 : decode cX0_compareId 62 = .ok (.aload_n 0, 1) := by decide +kernel
theorem dX0_compareId_63 : decode cX0_compareId 63 = .ok (.iconst 0, 1) := by decide +kernel
theorem dX0_compareId_64 : decode cX0_compareId 64 = .ok (.putfield 44, 3) := by decide +kernel
theorem dX0_compareId_67 : decode cX0_compareId 67 = .ok (.aload_n 0, 1) := by decide +kernel
theorem dX0_compareId_68 : decode cX0_compareId 68 = .ok (.getfield 26, 3) := by decide +kernel
theorem dX0_compareId_71 : decode cX0_compareId 71 = .ok (.iconst 3, 1) := by decide +kernel
theorem dX0_compareId_72 : decode cX0_compareId 72 = .ok (.if_icmp .ne 21, 3) := by decide +kernel
theorem dX0_compareId_75 : decode cX0_compareId 75 = .ok (.aload_n 0, 1) := by decide +kernel
theorem dX0_compareId_76 : decode cX0_compareId 76 = .ok (.iconst 5, 1) := by decide +kernel
theorem dX0_compareId_77 : decode cX0_compareId 77 = .ok (.putfield 70, 3) := by decide +kernel
theorem dX0_compareId_80 : decode cX0_compareId 80 = .ok (.aload_n 0, 1) := by decide +kernel
theorem dX0_compareId_81 : decode cX0_compareId 81 = .ok (.dup, 1) := by decide +kernel
theorem dX0_compareId_82 : decode cX0_compareId 82 = .ok (.getfield 30, 3) := by decide +kernel
theorem dX0_compareId_85 : decode cX0_compareId 85 = .ok (.iconst 2, 1) := by decide +kernel
theorem dX0_compareId_86 : decode cX0_compareId 86 = .ok (.ior, 1) := by decide +kernel
theorem dX0_compareId_87 : decode cX0_compareId 87 = .ok (.putfield 30, 3) := by decide +kernel
theorem dX0_compareId_90 : decode cX0_compareId 90 = .ok (.goto 8, 3) := by decide +kernel
theorem dX0_compareId_93 : decode cX0_compareId 93 = .ok (.aload_n 0, 1) := by decide +kernel
theorem dX0_compareId_94 : decode cX0_compareId 94 = .ok (.iconst 3, 1) := by decide +kernel
theorem dX0_compareId_95 : decode cX0_compareId 95 = .ok (.putfield 70, 3) := by decide +kernel
theorem dX0_compareId_98 : decode cX0_compareId 98 = .ok (.return_, 1) := by decide +kernel
set_option maxRecDepth 20000 in
theorem ggX0_writeOneCell_X0_putNextOfTrack : GoodIn wsX0_writeOneCell wsX0_putNextOfTrack := goodIn_r _ [9, 1, 10, 11, 12, 13, 14, 15, 16, 17, 18, 19, 20, 21, 22, 23, 24, 25, 26, 27, 28, 29, 30, 31, 32, 33, 8, 34, 35, 36, 37, 38, 39, 40, 41, 42, 43, 44, 45, 46, 47, 48, 49, 50, 51, 52, 53, 95, 96, 97, 98, 99, 100, 101, 102, 103, 104, 105, 106, 107, 108, 109, 110, 111, 112, 113] (by decide +kernel) (by decide +kernel)
set_option maxRecDepth 20000 in
theorem gX0_writeOneCell_X0_putNextOfTrack : GoodIn wsX0_writeOneCell (wsV RX0 160 RX0 yX0_putNextOfTrack wsX0_putNextOfTrack) := goodIn_app (goodIn_of _ (by decide +kernel)) ggX0_writeOneCell_X0_putNextOfTrack
set_option maxRecDepth 20000 in
theorem ggX0_writeOneCell_X0_putNextOfSector : GoodIn wsX0_writeOneCell wsX0_putNextOfSector := goodIn_r _ [57, 1, 4, 58, 10, 50, 51, 52, 14, 53, 17, 45, 46, 47, 48, 49, 18, 19, 20, 21, 22, 23, 24, 25, 26, 27, 28, 29, 30, 40, 41, 42, 43, 44, 31, 32, 33, 8, 34, 35, 36, 37, 38, 39, 11, 12, 13, 15, 16, 95, 96, 97, 98, 99, 100, 101, 102, 103, 104, 105, 106, 107, 108, 109, 110, 111, 112, 113, 114, 115, 116, 117, 118, 119, 120, 121, 122, 123, 124, 125, 126, 127] (by decide +kernel) (by decide +kernel)
set_option maxRecDepth 20000 in
theorem gX0_writeOneCell_X0_putNextOfSector : GoodIn wsX0_writeOneCell (wsV RX0 163 RX0 yX0_putNextOfSector wsX0_putNextOfSector) := goodIn_app (goodIn_of _ (by decide +kernel)) ggX0_writeOneCell_X0_putNextOfSector
set_option maxRecDepth 20000 in
theorem ggX0_writeOneCell_X4_nextCell : GoodIn wsX0_writeOneCell wsX4_nextCell := goodIn_r _ [62, 29, 28, 107, 108, 109, 110, 111, 112, 113] (by decide +kernel) (by decide +kernel)
set_option maxRecDepth 20000 in
theorem gX0_writeOneCell_X4_nextCell : GoodIn wsX0_writeOneCell (wsV RX0 166 RX4 yX4_nextCell wsX4_nextCell) := goodIn_app (goodIn_of _ (by decide +kernel)) ggX0_writeOneCell_X4_nextCell
set_option maxRecDepth 20000 in
theorem ggX0_writeOneCell_X1_writeUnderHead : GoodIn wsX0_writeOneCell wsX1_writeUnderHead := goodIn_r _ [67, 68, 69, 70, 71, 72, 66, 73, 74, 75, 76, 77, 78, 79, 80, 81, 82, 83, 128, 129, 130, 131] (by decide +kernel) (by decide +kernel)
set_option maxRecDepth 20000 in
theorem gX0_writeOneCell_X1_writeUnderHead : GoodIn wsX0_writeOneCell (wsV RX0 169 RX1 yX1_writeUnderHead wsX1_writeUnderHead) := goodIn_app (goodIn_of _ (by decide +kernel)) ggX0_writeOneCell_X1_writeUnderHead
set_option maxRecDepth 20000 in
theorem ggX0_writeOneCell_X0_end : GoodIn wsX0_writeOneCell wsX0_end := goodIn_r _ [87, 10, 88, 4, 89, 90, 91, 92, 93, 94, 95, 96, 97, 98, 99, 100, 101, 102, 103, 104, 105, 106, 114, 115, 116, 117, 118, 119, 120, 121, 122, 123, 124, 125, 126, 127] (by decide +kernel) (by decide +kernel)
set_option maxRecDepth 20000 in
theorem gX0_writeOneCell_X0_end : GoodIn wsX0_writeOneCell (wsV RX0 76 RX0 yX0_end wsX0_end) := goodIn_app (goodIn_of _ (by decide +kernel)) ggX0_writeOneCell_X0_end
theorem dX0_writeOneCell_0 : decode cX0_writeOneCell 0 = .ok (.aload_n 0, 1) := by decide +kernel
theorem dX0_writeOneCell_1 : decode cX0_writeOneCell 1 = .ok (.getfield 22, 3) := by decide +kernel
theorem dX0_writeOneCell_4 : decode cX0_writeOneCell 4 = .ok (.getfield 157, 3) := by decide +kernel
theorem dX0_writeOneCell_7 : decode cX0_writeOneCell 7 = .ok (.ifCond .ne 22, 3) := by decide +kernel
theorem dX0_writeOneCell_10 : decode cX0_writeOneCell 10 = .ok (.aload_n 0, 1) := by decide +kernel
theorem dX0_writeOneCell_11 : decode cX0_writeOneCell 11 = .ok (.getfield 26, 3) := by decide +kernel
theorem dX0_writeOneCell_14 : decode cX0_writeOneCell 14 = .ok (.iconst 5, 1) := by decide +kernel
theorem dX0_writeOneCell_15 : decode cX0_writeOneCell 15 = .ok (.if_icmp .ne 10, 3) := by decide +kernel
theorem dX0_writeOneCell_18 : decode cX0_writeOneCell 18 = .ok (.aload_n 0, 1) := by decide +kernel
theorem dX0_writeOneCell_19 : decode cX0_writeOneCell 19 = .ok (.invokevirtual 160, 3) := by decide +kernel
theorem dX0_writeOneCell_22 : decode cX0_writeOneCell 22 = .ok (.goto 7, 3) := by decide +kernel
theorem dX0_writeOneCell_25 : decode cX0_writeOneCell 25 = .ok (.aload_n 0, 1) := by decide +kernel
theorem dX0_writeOneCell_26 : decode cX0_writeOneCell 26 = .ok (.invokevirtual 163, 3) := by decide +kernel
theorem dX0_writeOneCell_29 : decode cX0_writeOneCell 29 = .ok (.aload_n 0, 1) := by decide +kernel
theorem dX0_writeOneCell_30 : decode cX0_writeOneCell 30 = .ok (.getfield 9, 3) := by decide +kernel
theorem dX0_writeOneCell_33 : decode cX0_writeOneCell 33 = .ok (.aload_n 0, 1) := by decide +kernel
theorem dX0_writeOneCell_34 : decode cX0_writeOneCell 34 = .ok (.getfield 22, 3) := by decide +kernel
theorem dX0_writeOneCell_37 : decode cX0_writeOneCell 37 = .ok (.invokevirtual 166, 3) := by decide +kernel
theorem dX0_writeOneCell_40 : decode cX0_writeOneCell 40 = .ok (.invokevirtual 169, 3) := by decide +kernel
theorem dX0_writeOneCell_43 : decode cX0_writeOneCell 43 = .ok (.aload_n 0, 1) := by decide +kernel
theorem dX0_writeOneCell_44 : decode cX0_writeOneCell 44 = .ok (.getfield 22, 3) := by decide +kernel
theorem dX0_writeOneCell_47 : decode cX0_writeOneCell 47 = .ok (.getfield 172, 3) := by decide +kernel
theorem dX0_writeOneCell_50 : decode cX0_writeOneCell 50 = .ok (.bipush 8, 2) := by decide +kernel
theorem dX0_writeOneCell_52 : decode cX0_writeOneCell 52 = .ok (.aload_n 0, 1) := by decide +kernel
theorem dX0_writeOneCell_53 : decode cX0_writeOneCell 53 = .ok (.getfield 15, 3) := by decide +kernel
theorem dX0_writeOneCell_56 : decode cX0_writeOneCell 56 = .ok (.getfield 175, 3) := by decide +kernel
theorem dX0_writeOneCell_59 : decode cX0_writeOneCell 59 = .ok (.iadd, 1) := by decide +kernel
theorem dX0_writeOneCell_60 : decode cX0_writeOneCell 60 = .ok (.iconst 3, 1) := by decide +kernel
theorem dX0_writeOneCell_61 : decode cX0_writeOneCell 61 = .ok (.iadd, 1) := by decide +kernel
theorem dX0_writeOneCell_62 : decode cX0_writeOneCell 62 = .ok (.if_icmp .ne 7, 3) := by decide +kernel
theorem dX0_writeOneCell_65 : decode cX0_writeOneCell 65 = .ok (.iconst 1, 1) := by decide +kernel
theorem dX0_writeOneCell_66 : decode cX0_writeOneCell 66 = .ok (.goto 4, 3) := by decide +kernel
theorem dX0_writeOneCell_69 : decode cX0_writeOneCell 69 = .ok (.iconst 0, 1) := by decide +kernel
theorem dX0_writeOneCell_70 : decode cX0_writeOneCell 70 = .ok (.istore_n 1, 1) := by decide +kernel
theorem dX0_writeOneCell_71 : decode cX0_writeOneCell 71 = .ok (.aload_n 0, 1) := by decide +kernel
theorem dX0_writeOneCell_72 : decode cX0_writeOneCell 72 = .ok (.getfield 26, 3) := by decide +kernel
theorem dX0_writeOneCell_75 : decode cX0_writeOneCell 75 = .ok (.iconst 3, 1) := by decide +kernel
theorem dX0_writeOneCell_76 : decode cX0_writeOneCell 76 = .ok (.if_icmp .ne 21, 3) := by decide +kernel
theorem dX0_writeOneCell_79 : decode cX0_writeOneCell 79 = .ok (.aload_n 0, 1) := by decide +kernel
theorem dX0_writeOneCell_80 : decode cX0_writeOneCell 80 = .ok (.getfield 22, 3) := by decide +kernel
theorem dX0_writeOneCell_83 : decode cX0_writeOneCell 83 = .ok (.getfield 157, 3) := by decide +kernel
theorem dX0_writeOneCell_86 : decode cX0_writeOneCell 86 = .ok (.ifCond .ne 11, 3) := by decide +kernel
theorem dX0_writeOneCell_89 : decode cX0_writeOneCell 89 = .ok (.iload_n 1, 1) := by decide +kernel
theorem dX0_writeOneCell_90 : decode cX0_writeOneCell 90 = .ok (.ifCond .eq 7, 3) := by decide +kernel
theorem dX0_writeOneCell_93 : decode cX0_writeOneCell 93 = .ok (.aload_n 0, 1) := by decide +kernel
theorem dX0_writeOneCell_94 : decode cX0_writeOneCell 94 = .ok (.invokevirtual 76, 3) := by decide +kernel
theorem dX0_writeOneCell_97 : decode cX0_writeOneCell 97 = .ok (.return_, 1) := by decide +kernel
set_option maxRecDepth 20000 in
theorem ggX0_putNextOfTrack_X4_putHalfOfCheck : GoodIn wsX0_putNextOfTrack wsX4_putHalfOfCheck := goodIn_r _ [7, 8, 9, 10, 11, 12, 6, 13, 14, 15, 16, 17, 18, 19, 20, 21, 22, 59, 60, 61, 62, 63, 64, 65] (by decide +kernel) (by decide +kernel)
set_option maxRecDepth 20000 in
theorem gX0_putNextOfTrack_X4_putHalfOfCheck : GoodIn wsX0_putNextOfTrack (wsV RX0 181 RX4 yX4_putHalfOfCheck wsX4_putHalfOfCheck) := goodIn_app (goodIn_of _ (by decide +kernel)) ggX0_putNextOfTrack_X4_putHalfOfCheck
set_option maxRecDepth 20000 in
theorem ggX0_putNextOfTrack_X0_askForByte : GoodIn wsX0_putNextOfTrack wsX0_askForByte := goodIn_r _ [27, 2, 28, 29, 30, 31, 26, 32, 47, 48, 49, 50, 51, 52, 53, 54, 55, 56, 57, 58] (by decide +kernel) (by decide +kernel)
set_option maxRecDepth 20000 in
theorem gX0_putNextOfTrack_X0_askForByte : GoodIn wsX0_putNextOfTrack (wsV RX0 184 RX0 yX0_askForByte wsX0_askForByte) := goodIn_app (goodIn_of _ (by decide +kernel)) ggX0_putNextOfTrack_X0_askForByte
set_option maxRecDepth 20000 in
theorem ggX0_putNextOfTrack_X4_putMark : GoodIn wsX0_putNextOfTrack wsX4_putMark := goodIn_r _ [36, 15, 37, 9, 14, 38, 39, 40, 41, 42, 16, 17, 18, 6, 19, 20, 21, 22, 59, 60, 61, 62, 63, 64, 65] (by decide +kernel) (by decide +kernel)
set_option maxRecDepth 20000 in
theorem gX0_putNextOfTrack_X4_putMark : GoodIn wsX0_putNextOfTrack (wsV RX0 187 RX4 yX4_putMark wsX4_putMark) := goodIn_app (goodIn_of _ (by decide +kernel)) ggX0_putNextOfTrack_X4_putMark
set_option maxRecDepth 20000 in
theorem ggX0_putNextOfTrack_X4_putByte : GoodIn wsX0_putNextOfTrack wsX4_putByte := goodIn_r _ [46, 9, 38, 39, 40, 41, 42, 10, 11, 12, 6, 13, 14, 15, 16, 17, 18, 19, 20, 21, 22, 59, 60, 61, 62, 63, 64, 65] (by decide +kernel) (by decide +kernel)
set_option maxRecDepth 20000 in
theorem gX0_putNextOfTrack_X4_putByte : GoodIn wsX0_putNextOfTrack (wsV RX0 190 RX4 yX4_putByte wsX4_putByte) := goodIn_app (goodIn_of _ (by decide +kernel)) ggX0_putNextOfTrack_X4_putByte
theorem dX0_putNextOfTrack_0 : decode cX0_putNextOfTrack 0 = .ok (.aload_n 0, 1) := by decide +kernel
theorem dX0_putNextOfTrack_1 : decode cX0_putNextOfTrack 1 = .ok (.getfield 22, 3) := by decide +kernel
theorem dX0_putNextOfTrack_4 : decode cX0_putNextOfTrack 4 = .ok (.getfield 178, 3) := by decide +kernel
theorem dX0_putNextOfTrack_7 : decode cX0_putNextOfTrack 7 = .ok (.ifCond .eq 11, 3) := by decide +kernel
theorem dX0_putNextOfTrack_10 : decode cX0_putNextOfTrack 10 = .ok (.aload_n 0, 1) := by decide +kernel
theorem dX0_putNextOfTrack_11 : decode cX0_putNextOfTrack 11 = .ok (.getfield 22, 3) := by decide +kernel
theorem dX0_putNextOfTrack_14 : decode cX0_putNextOfTrack 14 = .ok (.invokevirtual 181, 3) := by decide +kernel
theorem dX0_putNextOfTrack_17 : decode cX0_putNextOfTrack 17 = .ok (.return_, 1) := by decide +kernel
theorem dX0_putNextOfTrack_18 : decode cX0_putNextOfTrack 18 = .ok (.aload_n 0, 1) := by decide +kernel
theorem dX0_putNextOfTrack_19 : decode cX0_putNextOfTrack 19 = .ok (.invokevirtual 184, 3) := by decide +kernel
theorem dX0_putNextOfTrack_22 : decode cX0_putNextOfTrack 22 = .ok (.istore_n 1, 1) := by decide +kernel
theorem dX0_putNextOfTrack_23 : decode cX0_putNextOfTrack 23 = .ok (.aload_n 0, 1) := by decide +kernel
theorem dX0_putNextOfTrack_24 : decode cX0_putNextOfTrack 24 = .ok (.dup, 1) := by decide +kernel
theorem dX0_putNextOfTrack_25 : decode cX0_putNextOfTrack 25 = .ok (.getfield 30, 3) := by decide +kernel
theorem dX0_putNextOfTrack_28 : decode cX0_putNextOfTrack 28 = .ok (.iconst 2, 1) := by decide +kernel
theorem dX0_putNextOfTrack_29 : decode cX0_putNextOfTrack 29 = .ok (.ior, 1) := by decide +kernel
theorem dX0_putNextOfTrack_30 : decode cX0_putNextOfTrack 30 = .ok (.putfield 30, 3) := by decide +kernel
theorem dX0_putNextOfTrack_33 : decode cX0_putNextOfTrack 33 = .ok (.iload_n 1, 1) := by decide +kernel
theorem dX0_putNextOfTrack_34 : decode cX0_putNextOfTrack 34 = .ok (.sipush 245, 3) := by decide +kernel
theorem dX0_putNextOfTrack_37 : decode cX0_putNextOfTrack 37 = .ok (.if_icmp .ne 13, 3) := by decide +kernel
theorem dX0_putNextOfTrack_40 : decode cX0_putNextOfTrack 40 = .ok (.aload_n 0, 1) := by decide +kernel
theorem dX0_putNextOfTrack_41 : decode cX0_putNextOfTrack 41 = .ok (.getfield 22, 3) := by decide +kernel
theorem dX0_putNextOfTrack_44 : decode cX0_putNextOfTrack 44 = .ok (.invokevirtual 187, 3) := by decide +kernel
theorem dX0_putNextOfTrack_47 : decode cX0_putNextOfTrack 47 = .ok (.goto 28, 3) := by decide +kernel
theorem dX0_putNextOfTrack_50 : decode cX0_putNextOfTrack 50 = .ok (.iload_n 1, 1) := by decide +kernel
theorem dX0_putNextOfTrack_51 : decode cX0_putNextOfTrack 51 = .ok (.sipush 247, 3) := by decide +kernel
theorem dX0_putNextOfTrack_54 : decode cX0_putNextOfTrack 54 = .ok (.if_icmp .ne 13, 3) := by decide +kernel
theorem dX0_putNextOfTrack_57 : decode cX0_putNextOfTrack 57 = .ok (.aload_n 0, 1) := by decide +kernel
theorem dX0_putNextOfTrack_58 : decode cX0_putNextOfTrack 58 = .ok (.getfield 22, 3) := by decide +kernel
theorem dX0_putNextOfTrack_61 : decode cX0_putNextOfTrack 61 = .ok (.invokevirtual 181, 3) := by decide +kernel
theorem dX0_putNextOfTrack_64 : decode cX0_putNextOfTrack 64 = .ok (.goto 11, 3) := by decide +kernel
theorem dX0_putNextOfTrack_67 : decode cX0_putNextOfTrack 67 = .ok (.aload_n 0, 1) := by decide +kernel
theorem dX0_putNextOfTrack_68 : decode cX0_putNextOfTrack 68 = .ok (.getfield 22, 3) := by decide +kernel
theorem dX0_putNextOfTrack_71 : decode cX0_putNextOfTrack 71 = .ok (.iload_n 1, 1) := by decide +kernel
theorem dX0_putNextOfTrack_72 : decode cX0_putNextOfTrack 72 = .ok (.invokevirtual 190, 3) := by decide +kernel
theorem dX0_putNextOfTrack_75 : decode cX0_putNextOfTrack 75 = .ok (.return_, 1) := by decide +kernel
set_option maxRecDepth 20000 in
theorem ggX0_putNextOfSector_X4_putByte : GoodIn wsX0_putNextOfSector wsX4_putByte := goodIn_r _ [9, 10, 11, 12, 13, 14, 15, 16, 17, 18, 8, 19, 20, 21, 22, 23, 24, 25, 26, 27, 28, 61, 62, 63, 64, 65, 66, 67] (by decide +kernel) (by decide +kernel)
set_option maxRecDepth 20000 in
theorem gX0_putNextOfSector_X4_putByte : GoodIn wsX0_putNextOfSector (wsV RX0 190 RX4 yX4_putByte wsX4_putByte) := goodIn_app (goodIn_of _ (by decide +kernel)) ggX0_putNextOfSector_X4_putByte
set_option maxRecDepth 20000 in
theorem ggX0_putNextOfSector_X4_putMark : GoodIn wsX0_putNextOfSector wsX4_putMark := goodIn_r _ [32, 21, 33, 10, 20, 11, 12, 13, 14, 15, 22, 23, 24, 8, 25, 26, 27, 28, 61, 62, 63, 64, 65, 66, 67] (by decide +kernel) (by decide +kernel)
set_option maxRecDepth 20000 in
theorem gX0_putNextOfSector_X4_putMark : GoodIn wsX0_putNextOfSector (wsV RX0 187 RX4 yX4_putMark wsX4_putMark) := goodIn_app (goodIn_of _ (by decide +kernel)) ggX0_putNextOfSector_X4_putMark
set_option maxRecDepth 20000 in
theorem ggX0_putNextOfSector_X0_askForByte : GoodIn wsX0_putNextOfSector wsX0_askForByte := goodIn_r _ [38, 4, 39, 40, 41, 42, 37, 43, 49, 50, 51, 52, 53, 54, 55, 56, 57, 58, 59, 60] (by decide +kernel) (by decide +kernel)
set_option maxRecDepth 20000 in
theorem gX0_putNextOfSector_X0_askForByte : GoodIn wsX0_putNextOfSector (wsV RX0 184 RX0 yX0_askForByte wsX0_askForByte) := goodIn_app (goodIn_of _ (by decide +kernel)) ggX0_putNextOfSector_X0_askForByte
set_option maxRecDepth 20000 in
theorem ggX0_putNextOfSector_X4_putHalfOfCheck : GoodIn wsX0_putNextOfSector wsX4_putHalfOfCheck := goodIn_r _ [47, 48, 10, 16, 17, 18, 8, 19, 20, 21, 22, 23, 24, 25, 26, 27, 28, 61, 62, 63, 64, 65, 66, 67] (by decide +kernel) (by decide +kernel)
set_option maxRecDepth 20000 in
theorem gX0_putNextOfSector_X4_putHalfOfCheck : GoodIn wsX0_putNextOfSector (wsV RX0 181 RX4 yX4_putHalfOfCheck wsX4_putHalfOfCheck) := goodIn_app (goodIn_of _ (by decide +kernel)) ggX0_putNextOfSector_X4_putHalfOfCheck
theorem dX0_putNextOfSector_0 : decode cX0_putNextOfSector 0 = .ok (.aload_n 0, 1) := by decide +kernel
theorem dX0_putNextOfSector_1 : decode cX0_putNextOfSector 1 = .ok (.getfield 22, 3) := by decide +kernel
theorem dX0_putNextOfSector_4 : decode cX0_putNextOfSector 4 = .ok (.getfield 172, 3) := by decide +kernel
theorem dX0_putNextOfSector_7 : decode cX0_putNextOfSector 7 = .ok (.istore_n 1, 1) := by decide +kernel
theorem dX0_putNextOfSector_8 : decode cX0_putNextOfSector 8 = .ok (.bipush 8, 2) := by decide +kernel
theorem dX0_putNextOfSector_10 : decode cX0_putNextOfSector 10 = .ok (.aload_n 0, 1) := by decide +kernel
theorem dX0_putNextOfSector_11 : decode cX0_putNextOfSector 11 = .ok (.getfield 15, 3) := by decide +kernel
theorem dX0_putNextOfSector_14 : decode cX0_putNextOfSector 14 = .ok (.getfield 175, 3) := by decide +kernel
theorem dX0_putNextOfSector_17 : decode cX0_putNextOfSector 17 = .ok (.iadd, 1) := by decide +kernel
theorem dX0_putNextOfSector_18 : decode cX0_putNextOfSector 18 = .ok (.istore_n 2, 1) := by decide +kernel
theorem dX0_putNextOfSector_19 : decode cX0_putNextOfSector 19 = .ok (.iload_n 1, 1) := by decide +kernel
theorem dX0_putNextOfSector_20 : decode cX0_putNextOfSector 20 = .ok (.iconst 4, 1) := by decide +kernel
theorem dX0_putNextOfSector_21 : decode cX0_putNextOfSector 21 = .ok (.if_icmp .ge 14, 3) := by decide +kernel
theorem dX0_putNextOfSector_24 : decode cX0_putNextOfSector 24 = .ok (.aload_n 0, 1) := by decide +kernel
theorem dX0_putNextOfSector_25 : decode cX0_putNextOfSector 25 = .ok (.getfield 22, 3) := by decide +kernel
theorem dX0_putNextOfSector_28 : decode cX0_putNextOfSector 28 = .ok (.iconst 0, 1) := by decide +kernel
theorem dX0_putNextOfSector_29 : decode cX0_putNextOfSector 29 = .ok (.invokevirtual 190, 3) := by decide +kernel
theorem dX0_putNextOfSector_32 : decode cX0_putNextOfSector 32 = .ok (.goto 113, 3) := by decide +kernel
theorem dX0_putNextOfSector_35 : decode cX0_putNextOfSector 35 = .ok (.iload_n 1, 1) := by decide +kernel
theorem dX0_putNextOfSector_36 : decode cX0_putNextOfSector 36 = .ok (.bipush 7, 2) := by decide +kernel
theorem dX0_putNextOfSector_38 : decode cX0_putNextOfSector 38 = .ok (.if_icmp .ge 13, 3) := by decide +kernel
theorem dX0_putNextOfSector_41 : decode cX0_putNextOfSector 41 = .ok (.aload_n 0, 1) := by decide +kernel
theorem dX0_putNextOfSector_42 : decode cX0_putNextOfSector 42 = .ok (.getfield 22, 3) := by decide +kernel
theorem dX0_putNextOfSector_45 : decode cX0_putNextOfSector 45 = .ok (.invokevirtual 187, 3) := by decide +kernel
theorem dX0_putNextOfSector_48 : decode cX0_putNextOfSector 48 = .ok (.goto 97, 3) := by decide +kernel
theorem dX0_putNextOfSector_51 : decode cX0_putNextOfSector 51 = .ok (.iload_n 1, 1) := by decide +kernel
theorem dX0_putNextOfSector_52 : decode cX0_putNextOfSector 52 = .ok (.bipush 8, 2) := by decide +kernel
theorem dX0_putNextOfSector_54 : decode cX0_putNextOfSector 54 = .ok (.if_icmp .ge 29, 3) := by decide +kernel
theorem dX0_putNextOfSector_57 : decode cX0_putNextOfSector 57 = .ok (.aload_n 0, 1) := by decide +kernel
theorem dX0_putNextOfSector_58 : decode cX0_putNextOfSector 58 = .ok (.getfield 22, 3) := by decide +kernel
theorem dX0_putNextOfSector_61 : decode cX0_putNextOfSector 61 = .ok (.aload_n 0, 1) := by decide +kernel
theorem dX0_putNextOfSector_62 : decode cX0_putNextOfSector 62 = .ok (.getfield 40, 3) := by decide +kernel
theorem dX0_putNextOfSector_65 : decode cX0_putNextOfSector 65 = .ok (.ifCond .eq 9, 3) := by decide +kernel
theorem dX0_putNextOfSector_68 : decode cX0_putNextOfSector 68 = .ok (.sipush 248, 3) := by decide +kernel
theorem dX0_putNextOfSector_71 : decode cX0_putNextOfSector 71 = .ok (.goto 6, 3) := by decide +kernel
theorem dX0_putNextOfSector_74 : decode cX0_putNextOfSector 74 = .ok (.sipush 251, 3) := by decide +kernel
theorem dX0_putNextOfSector_77 : decode cX0_putNextOfSector 77 = .ok (.invokevirtual 190, 3) := by decide +kernel
theorem dX0_putNextOfSector_80 : decode cX0_putNextOfSector 80 = .ok (.goto 65, 3) := by decide +kernel
theorem dX0_putNextOfSector_83 : decode cX0_putNextOfSector 83 = .ok (.iload_n 1, 1) := by decide +kernel
theorem dX0_putNextOfSector_84 : decode cX0_putNextOfSector 84 = .ok (.iload_n 2, 1) := by decide +kernel
theorem dX0_putNextOfSector_85 : decode cX0_putNextOfSector 85 = .ok (.if_icmp .ge 34, 3) := by decide +kernel
theorem dX0_putNextOfSector_88 : decode cX0_putNextOfSector 88 = .ok (.aload_n 0, 1) := by decide +kernel
theorem dX0_putNextOfSector_89 : decode cX0_putNextOfSector 89 = .ok (.getfield 22, 3) := by decide +kernel
theorem dX0_putNextOfSector_92 : decode cX0_putNextOfSector 92 = .ok (.aload_n 0, 1) := by decide +kernel
theorem dX0_putNextOfSector_93 : decode cX0_putNextOfSector 93 = .ok (.invokevirtual 184, 3) := by decide +kernel
theorem dX0_putNextOfSector_96 : decode cX0_putNextOfSector 96 = .ok (.invokevirtual 190, 3) := by decide +kernel
theorem dX0_putNextOfSector_99 : decode cX0_putNextOfSector 99 = .ok (.iload_n 1, 1) := by decide +kernel
theorem dX0_putNextOfSector_100 : decode cX0_putNextOfSector 100 = .ok (.iload_n 2, 1) := by decide +kernel
theorem dX0_putNextOfSector_101 : decode cX0_putNextOfSector 101 = .ok (.iconst 1, 1) := by decide +kernel
theorem dX0_putNextOfSector_102 : decode cX0_putNextOfSector 102 = .ok (.isub, 1) := by decide +kernel
theorem dX0_putNextOfSector_103 : decode cX0_putNextOfSector 103 = .ok (.if_icmp .ge 42, 3) := by decide +kernel
theorem dX0_putNextOfSector_106 : decode cX0_putNextOfSector 106 = .ok (.aload_n 0, 1) := by decide +kernel
theorem dX0_putNextOfSector_107 : decode cX0_putNextOfSector 107 = .ok (.dup, 1) := by decide +kernel
theorem dX0_putNextOfSector_108 : decode cX0_putNextOfSector 108 = .ok (.getfield 30, 3) := by decide +kernel
theorem dX0_putNextOfSector_111 : decode cX0_putNextOfSector 111 = .ok (.iconst 2, 1) := by decide +kernel
theorem dX0_putNextOfSector_112 : decode cX0_putNextOfSector 112 = .ok (.ior, 1) := by decide +kernel
theorem dX0_putNextOfSector_113 : decode cX0_putNextOfSector 113 = .ok (.putfield 30, 3) := by decide +kernel
theorem dX0_putNextOfSector_116 : decode cX0_putNextOfSector 116 = .ok (.goto 29, 3) := by decide +kernel
theorem dX0_putNextOfSector_119 : decode cX0_putNextOfSector 119 = .ok (.iload_n 1, 1) := by decide +kernel
theorem dX0_putNextOfSector_120 : decode cX0_putNextOfSector 120 = .ok (.iload_n 2, 1) := by decide +kernel
theorem dX0_putNextOfSector_121 : decode cX0_putNextOfSector 121 = .ok (.iconst 2, 1) := by decide +kernel
theorem dX0_putNextOfSector_122 : decode cX0_putNextOfSector 122 = .ok (.iadd, 1) := by decide +kernel
theorem dX0_putNextOfSector_123 : decode cX0_putNextOfSector 123 = .ok (.if_icmp .ge 13, 3) := by decide +kernel
theorem dX0_putNextOfSector_126 : decode cX0_putNextOfSector 126 = .ok (.aload_n 0, 1) := by decide +kernel
theorem dX0_putNextOfSector_127 : decode cX0_putNextOfSector 127 = .ok (.getfield 22, 3) := by decide +kernel
theorem dX0_putNextOfSector_130 : decode cX0_putNextOfSector 130 = .ok (.invokevirtual 181, 3) := by decide +kernel
theorem dX0_putNextOfSector_133 : decode cX0_putNextOfSector 133 = .ok (.goto 12, 3) := by decide +kernel
theorem dX0_putNextOfSector_136 : decode cX0_putNextOfSector 136 = .ok (.aload_n 0, 1) := by decide +kernel
theorem dX0_putNextOfSector_137 : decode cX0_putNextOfSector 137 = .ok (.getfield 22, 3) := by decide +kernel
theorem dX0_putNextOfSector_140 : decode cX0_putNextOfSector 140 = .ok (.bipush 78, 2) := by decide +kernel
theorem dX0_putNextOfSector_142 : decode cX0_putNextOfSector 142 = .ok (.invokevirtual 190, 3) := by decide +kernel
theorem dX0_putNextOfSector_145 : decode cX0_putNextOfSector 145 = .ok (.return_, 1) := by decide +kernel
set_option maxRecDepth 20000 in
theorem ggX0_askForByte_X0_has : GoodIn wsX0_askForByte wsX0_has := goodIn_r _ [7, 1, 8, 9, 10, 11, 12, 13, 14, 15, 16, 17, 18, 19] (by decide +kernel) (by decide +kernel)
set_option maxRecDepth 20000 in
theorem gX0_askForByte_X0_has : GoodIn wsX0_askForByte (wsV RX0 36 RX0 yX0_has wsX0_has) := goodIn_app (goodIn_of _ (by decide +kernel)) ggX0_askForByte_X0_has
theorem dX0_askForByte_0 : decode cX0_askForByte 0 = .ok (.aload_n 0, 1) := by decide +kernel
theorem dX0_askForByte_1 : decode cX0_askForByte 1 = .ok (.iconst 2, 1) := by decide +kernel
theorem dX0_askForByte_2 : decode cX0_askForByte 2 = .ok (.invokevirtual 36, 3) := by decide +kernel
theorem dX0_askForByte_5 : decode cX0_askForByte 5 = .ok (.ifCond .eq 15, 3) := by decide +kernel
theorem dX0_askForByte_8 : decode cX0_askForByte 8 = .ok (.aload_n 0, 1) := by decide +kernel
theorem dX0_askForByte_9 : decode cX0_askForByte 9 = .ok (.dup, 1) := by decide +kernel
theorem dX0_askForByte_10 : decode cX0_askForByte 10 = .ok (.getfield 30, 3) := by decide +kernel
theorem dX0_askForByte_13 : decode cX0_askForByte 13 = .ok (.iconst 4, 1) := by decide +kernel
theorem dX0_askForByte_14 : decode cX0_askForByte 14 = .ok (.ior, 1) := by decide +kernel
theorem dX0_askForByte_15 : decode cX0_askForByte 15 = .ok (.putfield 30, 3) := by decide +kernel
theorem dX0_askForByte_18 : decode cX0_askForByte 18 = .ok (.iconst 0, 1) := by decide +kernel
theorem dX0_askForByte_19 : decode cX0_askForByte 19 = .ok (.ireturn, 1) := by decide +kernel
theorem dX0_askForByte_20 : decode cX0_askForByte 20 = .ok (.aload_n 0, 1) := by decide +kernel
theorem dX0_askForByte_21 : decode cX0_askForByte 21 = .ok (.getfield 33, 3) := by decide +kernel
theorem dX0_askForByte_24 : decode cX0_askForByte 24 = .ok (.ireturn, 1) := by decide +kernel
