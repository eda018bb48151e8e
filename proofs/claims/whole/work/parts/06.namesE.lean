set_option maxRecDepth 20000 in
theorem ggX6_trackByte_X6_write : GoodIn wsX6_trackByte wsX6_write := goodIn_r _ [9, 10, 11, 12, 13, 14, 8, 15, 37, 38, 39, 40, 41, 42, 43, 44, 45, 46, 47, 48, 49, 50, 51, 52, 53, 54, 55, 56, 57, 58, 59, 60, 61, 62, 63, 64, 65, 66, 67, 68] (by decide +kernel) (by decide +kernel)
set_option maxRecDepth 20000 in
theorem gX6_trackByte_X6_write : GoodIn wsX6_trackByte (wsV RX6 141 RX6 yX6_write wsX6_write) := goodIn_app (goodIn_of _ (by decide +kernel)) ggX6_trackByte_X6_write
set_option maxRecDepth 20000 in
theorem ggX6_trackByte_X6_ask : GoodIn wsX6_trackByte wsX6_ask := goodIn_r _ [19, 20, 21, 22, 23, 8, 24, 25, 26, 27, 28, 29, 37, 38, 39, 40, 41, 42, 43, 44, 45, 46, 47, 48, 49, 50, 51, 52, 53, 54, 55, 56, 57, 58, 59, 60, 61, 62, 63, 64, 65, 66, 67, 68] (by decide +kernel) (by decide +kernel)
set_option maxRecDepth 20000 in
theorem gX6_trackByte_X6_ask : GoodIn wsX6_trackByte (wsV RX6 150 RX6 yX6_ask wsX6_ask) := goodIn_app (goodIn_of _ (by decide +kernel)) ggX6_trackByte_X6_ask
set_option maxRecDepth 20000 in
theorem ggX6_trackByte_X6_raise : GoodIn wsX6_trackByte wsX6_raise := goodIn_r _ [29, 25, 37, 38, 39, 40, 41, 42, 43, 44, 45, 46, 47, 48, 49, 50, 51, 52, 53, 54, 55, 56, 57, 58, 59, 60, 61, 62, 63, 64, 65, 66, 67, 68] (by decide +kernel) (by decide +kernel)
set_option maxRecDepth 20000 in
theorem gX6_trackByte_X6_raise : GoodIn wsX6_trackByte (wsV RX6 68 RX6 yX6_raise wsX6_raise) := goodIn_app (goodIn_of _ (by decide +kernel)) ggX6_trackByte_X6_raise
set_option maxRecDepth 20000 in
theorem ggX6_trackByte_X6_writeMark : GoodIn wsX6_trackByte wsX6_writeMark := goodIn_r _ [33, 10, 11, 37, 38, 39, 40, 41, 42, 43, 44, 45, 46, 47, 48, 49, 50, 51, 52, 53, 54, 55, 56, 57, 58, 59, 60, 61, 62, 63, 64, 65, 66, 67, 68] (by decide +kernel) (by decide +kernel)
set_option maxRecDepth 20000 in
theorem gX6_trackByte_X6_writeMark : GoodIn wsX6_trackByte (wsV RX6 144 RX6 yX6_writeMark wsX6_writeMark) := goodIn_app (goodIn_of _ (by decide +kernel)) ggX6_trackByte_X6_writeMark
set_option maxRecDepth 20000 in
theorem ggX6_trackByte_X6_step : GoodIn wsX6_trackByte wsX6_step := goodIn_r _ [36, 4] (by decide +kernel) (by decide +kernel)
set_option maxRecDepth 20000 in
theorem gX6_trackByte_X6_step : GoodIn wsX6_trackByte (va_wsS RX6 28 yX6_step wsX6_step) := goodIn_app (goodIn_of _ (by decide +kernel)) ggX6_trackByte_X6_step
theorem dX6_trackByte_0 : decode cX6_trackByte 0 = .ok (.aload_n 0, 1) := by decide +kernel
theorem dX6_trackByte_1 : decode cX6_trackByte 1 = .ok (.getfield 131, 3) := by decide +kernel
theorem dX6_trackByte_4 : decode cX6_trackByte 4 = .ok (.ifCond .lt 17, 3) := by decide +kernel
theorem dX6_trackByte_7 : decode cX6_trackByte 7 = .ok (.aload_n 0, 1) := by decide +kernel
theorem dX6_trackByte_8 : decode cX6_trackByte 8 = .ok (.aload_n 0, 1) := by decide +kernel
theorem dX6_trackByte_9 : decode cX6_trackByte 9 = .ok (.getfield 131, 3) := by decide +kernel
theorem dX6_trackByte_12 : decode cX6_trackByte 12 = .ok (.invokevirtual 141, 3) := by decide +kernel
theorem dX6_trackByte_15 : decode cX6_trackByte 15 = .ok (.aload_n 0, 1) := by decide +kernel
theorem dX6_trackByte_16 : decode cX6_trackByte 16 = .ok (.iconst (-1), 1) := by decide +kernel
theorem dX6_trackByte_17 : decode cX6_trackByte 17 = .ok (.putfield 131, 3) := by decide +kernel
theorem dX6_trackByte_20 : decode cX6_trackByte 20 = .ok (.return_, 1) := by decide +kernel
theorem dX6_trackByte_21 : decode cX6_trackByte 21 = .ok (.aload_n 0, 1) := by decide +kernel
theorem dX6_trackByte_22 : decode cX6_trackByte 22 = .ok (.invokevirtual 150, 3) := by decide +kernel
theorem dX6_trackByte_25 : decode cX6_trackByte 25 = .ok (.istore_n 1, 1) := by decide +kernel
theorem dX6_trackByte_26 : decode cX6_trackByte 26 = .ok (.aload_n 0, 1) := by decide +kernel
theorem dX6_trackByte_27 : decode cX6_trackByte 27 = .ok (.iconst 2, 1) := by decide +kernel
theorem dX6_trackByte_28 : decode cX6_trackByte 28 = .ok (.invokevirtual 68, 3) := by decide +kernel
theorem dX6_trackByte_31 : decode cX6_trackByte 31 = .ok (.iload_n 1, 1) := by decide +kernel
theorem dX6_trackByte_32 : decode cX6_trackByte 32 = .ok (.sipush 245, 3) := by decide +kernel
theorem dX6_trackByte_35 : decode cX6_trackByte 35 = .ok (.if_icmp .ne 7, 3) := by decide +kernel
theorem dX6_trackByte_38 : decode cX6_trackByte 38 = .ok (.iconst 1, 1) := by decide +kernel
theorem dX6_trackByte_39 : decode cX6_trackByte 39 = .ok (.goto 4, 3) := by decide +kernel
theorem dX6_trackByte_42 : decode cX6_trackByte 42 = .ok (.iconst 0, 1) := by decide +kernel
theorem dX6_trackByte_43 : decode cX6_trackByte 43 = .ok (.istore_n 2, 1) := by decide +kernel
theorem dX6_trackByte_44 : decode cX6_trackByte 44 = .ok (.iload_n 2, 1) := by decide +kernel
theorem dX6_trackByte_45 : decode cX6_trackByte 45 = .ok (.ifCond .eq 36, 3) := by decide +kernel
theorem dX6_trackByte_48 : decode cX6_trackByte 48 = .ok (.aload_n 0, 1) := by decide +kernel
theorem dX6_trackByte_49 : decode cX6_trackByte 49 = .ok (.invokevirtual 144, 3) := by decide +kernel
theorem dX6_trackByte_52 : decode cX6_trackByte 52 = .ok (.aload_n 0, 1) := by decide +kernel
theorem dX6_trackByte_53 : decode cX6_trackByte 53 = .ok (.aload_n 0, 1) := by decide +kernel
theorem dX6_trackByte_54 : decode cX6_trackByte 54 = .ok (.getfield 128, 3) := by decide +kernel
theorem dX6_trackByte_57 : decode cX6_trackByte 57 = .ok (.ifCond .eq 10, 3) := by decide +kernel
theorem dX6_trackByte_60 : decode cX6_trackByte 60 = .ok (.aload_n 0, 1) := by decide +kernel
theorem dX6_trackByte_61 : decode cX6_trackByte 61 = .ok (.getfield 125, 3) := by decide +kernel
theorem dX6_trackByte_64 : decode cX6_trackByte 64 = .ok (.goto 5, 3) := by decide +kernel
theorem dX6_trackByte_67 : decode cX6_trackByte 67 = .ok (.ldc 27, 2) := by decide +kernel
theorem dX6_trackByte_69 : decode cX6_trackByte 69 = .ok (.sipush 161, 3) := by decide +kernel
theorem dX6_trackByte_72 : decode cX6_trackByte 72 = .ok (.invokestatic 28, 3) := by decide +kernel
theorem dX6_trackByte_75 : decode cX6_trackByte 75 = .ok (.putfield 125, 3) := by decide +kernel
theorem dX6_trackByte_78 : decode cX6_trackByte 78 = .ok (.goto 53, 3) := by decide +kernel
theorem dX6_trackByte_81 : decode cX6_trackByte 81 = .ok (.iload_n 1, 1) := by decide +kernel
theorem dX6_trackByte_82 : decode cX6_trackByte 82 = .ok (.sipush 247, 3) := by decide +kernel
theorem dX6_trackByte_85 : decode cX6_trackByte 85 = .ok (.if_icmp .ne 29, 3) := by decide +kernel
theorem dX6_trackByte_88 : decode cX6_trackByte 88 = .ok (.aload_n 0, 1) := by decide +kernel
theorem dX6_trackByte_89 : decode cX6_trackByte 89 = .ok (.aload_n 0, 1) := by decide +kernel
theorem dX6_trackByte_90 : decode cX6_trackByte 90 = .ok (.getfield 125, 3) := by decide +kernel
theorem dX6_trackByte_93 : decode cX6_trackByte 93 = .ok (.bipush 8, 2) := by decide +kernel
theorem dX6_trackByte_95 : decode cX6_trackByte 95 = .ok (.ishr, 1) := by decide +kernel
theorem dX6_trackByte_96 : decode cX6_trackByte 96 = .ok (.invokevirtual 141, 3) := by decide +kernel
theorem dX6_trackByte_99 : decode cX6_trackByte 99 = .ok (.aload_n 0, 1) := by decide +kernel
theorem dX6_trackByte_100 : decode cX6_trackByte 100 = .ok (.aload_n 0, 1) := by decide +kernel
theorem dX6_trackByte_101 : decode cX6_trackByte 101 = .ok (.getfield 125, 3) := by decide +kernel
theorem dX6_trackByte_104 : decode cX6_trackByte 104 = .ok (.sipush 255, 3) := by decide +kernel
theorem dX6_trackByte_107 : decode cX6_trackByte 107 = .ok (.iand, 1) := by decide +kernel
theorem dX6_trackByte_108 : decode cX6_trackByte 108 = .ok (.putfield 131, 3) := by decide +kernel
theorem dX6_trackByte_111 : decode cX6_trackByte 111 = .ok (.goto 20, 3) := by decide +kernel
theorem dX6_trackByte_114 : decode cX6_trackByte 114 = .ok (.aload_n 0, 1) := by decide +kernel
theorem dX6_trackByte_115 : decode cX6_trackByte 115 = .ok (.iload_n 1, 1) := by decide +kernel
theorem dX6_trackByte_116 : decode cX6_trackByte 116 = .ok (.invokevirtual 141, 3) := by decide +kernel
theorem dX6_trackByte_119 : decode cX6_trackByte 119 = .ok (.aload_n 0, 1) := by decide +kernel
theorem dX6_trackByte_120 : decode cX6_trackByte 120 = .ok (.aload_n 0, 1) := by decide +kernel
theorem dX6_trackByte_121 : decode cX6_trackByte 121 = .ok (.getfield 125, 3) := by decide +kernel
theorem dX6_trackByte_124 : decode cX6_trackByte 124 = .ok (.iload_n 1, 1) := by decide +kernel
theorem dX6_trackByte_125 : decode cX6_trackByte 125 = .ok (.invokestatic 28, 3) := by decide +kernel
theorem dX6_trackByte_128 : decode cX6_trackByte 128 = .ok (.putfield 125, 3) := by decide +kernel
theorem dX6_trackByte_131 : decode cX6_trackByte 131 = .ok (.aload_n 0, 1) := by decide +kernel
theorem dX6_trackByte_132 : decode cX6_trackByte 132 = .ok (.iload_n 2, 1) := by decide +kernel
theorem dX6_trackByte_133 : decode cX6_trackByte 133 = .ok (.putfield 128, 3) := by decide +kernel
theorem dX6_trackByte_136 : decode cX6_trackByte 136 = .ok (.return_, 1) := by decide +kernel
set_option maxRecDepth 20000 in
theorem ggX6_writeCell_X6_sectorByte : GoodIn wsX6_writeCell wsX6_sectorByte := goodIn_r _ [13, 8, 7, 14, 15, 16, 17, 18, 12, 19, 6, 20, 21, 22, 23, 24, 25, 26, 27, 28, 29, 30, 31, 32, 33, 34, 35, 36, 37, 38, 39, 40, 41, 42, 43, 44, 45, 46, 62, 63, 64, 65, 66, 67, 68, 69, 70, 71, 72, 73, 74, 75, 76, 77, 78, 79, 80, 81, 82, 83, 84, 85, 86, 87, 88, 89, 90, 91, 92, 93] (by decide +kernel) (by decide +kernel)
set_option maxRecDepth 20000 in
theorem gX6_writeCell_X6_sectorByte : GoodIn wsX6_writeCell (wsV RX6 154 RX6 yX6_sectorByte wsX6_sectorByte) := goodIn_app (goodIn_of _ (by decide +kernel)) ggX6_writeCell_X6_sectorByte
set_option maxRecDepth 20000 in
theorem ggX6_writeCell_X6_trackByte : GoodIn wsX6_writeCell wsX6_trackByte := goodIn_r _ [50, 51, 52, 14, 32, 16, 17, 18, 12, 19, 6, 20, 21, 22, 23, 24, 33, 34, 35, 36, 37, 38, 39, 40, 41, 42, 43, 44, 45, 46, 25, 26, 27, 28, 29, 30, 31, 62, 63, 64, 65, 66, 67, 68, 69, 70, 71, 72, 73, 74, 75, 76, 77, 78, 79, 80, 81, 82, 83, 84, 85, 86, 87, 88, 89, 90, 91, 92, 93] (by decide +kernel) (by decide +kernel)
set_option maxRecDepth 20000 in
theorem gX6_writeCell_X6_trackByte : GoodIn wsX6_writeCell (wsV RX6 157 RX6 yX6_trackByte wsX6_trackByte) := goodIn_app (goodIn_of _ (by decide +kernel)) ggX6_writeCell_X6_trackByte
set_option maxRecDepth 20000 in
theorem ggX6_writeCell_X6_end : GoodIn wsX6_writeCell wsX6_end := goodIn_r _ [56, 2, 57, 58, 59, 60, 12, 61, 42, 62, 63, 64, 65, 66, 67, 68, 69, 70, 71, 72, 73, 74, 75, 76, 77, 78, 79, 80, 81, 82, 83, 84, 85, 86, 87, 88, 89, 90, 91, 92, 93] (by decide +kernel) (by decide +kernel)
set_option maxRecDepth 20000 in
theorem gX6_writeCell_X6_end : GoodIn wsX6_writeCell (wsV RX6 74 RX6 yX6_end wsX6_end) := goodIn_app (goodIn_of _ (by decide +kernel)) ggX6_writeCell_X6_end
theorem dX6_writeCell_0 : decode cX6_writeCell 0 = .ok (.aload_n 0, 1) := by decide +kernel
theorem dX6_writeCell_1 : decode cX6_writeCell 1 = .ok (.getfield 116, 3) := by decide +kernel
theorem dX6_writeCell_4 : decode cX6_writeCell 4 = .ok (.ifCond .ne 23, 3) := by decide +kernel
theorem dX6_writeCell_7 : decode cX6_writeCell 7 = .ok (.aload_n 0, 1) := by decide +kernel
theorem dX6_writeCell_8 : decode cX6_writeCell 8 = .ok (.getfield 55, 3) := by decide +kernel
theorem dX6_writeCell_11 : decode cX6_writeCell 11 = .ok (.bipush 6, 2) := by decide +kernel
theorem dX6_writeCell_13 : decode cX6_writeCell 13 = .ok (.if_icmp .ne 10, 3) := by decide +kernel
theorem dX6_writeCell_16 : decode cX6_writeCell 16 = .ok (.aload_n 0, 1) := by decide +kernel
theorem dX6_writeCell_17 : decode cX6_writeCell 17 = .ok (.invokevirtual 154, 3) := by decide +kernel
theorem dX6_writeCell_20 : decode cX6_writeCell 20 = .ok (.goto 7, 3) := by decide +kernel
theorem dX6_writeCell_23 : decode cX6_writeCell 23 = .ok (.aload_n 0, 1) := by decide +kernel
theorem dX6_writeCell_24 : decode cX6_writeCell 24 = .ok (.invokevirtual 157, 3) := by decide +kernel
theorem dX6_writeCell_27 : decode cX6_writeCell 27 = .ok (.aload_n 0, 1) := by decide +kernel
theorem dX6_writeCell_28 : decode cX6_writeCell 28 = .ok (.getfield 7, 3) := by decide +kernel
theorem dX6_writeCell_31 : decode cX6_writeCell 31 = .ok (.sipush 2400, 3) := by decide +kernel
theorem dX6_writeCell_34 : decode cX6_writeCell 34 = .ok (.aload_n 0, 1) := by decide +kernel
theorem dX6_writeCell_35 : decode cX6_writeCell 35 = .ok (.getfield 101, 3) := by decide +kernel
theorem dX6_writeCell_38 : decode cX6_writeCell 38 = .ok (.imul, 1) := by decide +kernel
theorem dX6_writeCell_39 : decode cX6_writeCell 39 = .ok (.aload_n 0, 1) := by decide +kernel
theorem dX6_writeCell_40 : decode cX6_writeCell 40 = .ok (.getfield 104, 3) := by decide +kernel
theorem dX6_writeCell_43 : decode cX6_writeCell 43 = .ok (.iadd, 1) := by decide +kernel
theorem dX6_writeCell_44 : decode cX6_writeCell 44 = .ok (.aload_n 0, 1) := by decide +kernel
theorem dX6_writeCell_45 : decode cX6_writeCell 45 = .ok (.getfield 138, 3) := by decide +kernel
theorem dX6_writeCell_48 : decode cX6_writeCell 48 = .ok (.bipush 15, 2) := by decide +kernel
theorem dX6_writeCell_50 : decode cX6_writeCell 50 = .ok (.aload_n 0, 1) := by decide +kernel
theorem dX6_writeCell_51 : decode cX6_writeCell 51 = .ok (.getfield 116, 3) := by decide +kernel
theorem dX6_writeCell_54 : decode cX6_writeCell 54 = .ok (.isub, 1) := by decide +kernel
theorem dX6_writeCell_55 : decode cX6_writeCell 55 = .ok (.ishr, 1) := by decide +kernel
theorem dX6_writeCell_56 : decode cX6_writeCell 56 = .ok (.iconst 1, 1) := by decide +kernel
theorem dX6_writeCell_57 : decode cX6_writeCell 57 = .ok (.iand, 1) := by decide +kernel
theorem dX6_writeCell_58 : decode cX6_writeCell 58 = .ok (.iconst 1, 1) := by decide +kernel
theorem dX6_writeCell_59 : decode cX6_writeCell 59 = .ok (.if_icmp .ne 7, 3) := by decide +kernel
theorem dX6_writeCell_62 : decode cX6_writeCell 62 = .ok (.iconst 1, 1) := by decide +kernel
theorem dX6_writeCell_63 : decode cX6_writeCell 63 = .ok (.goto 4, 3) := by decide +kernel
theorem dX6_writeCell_66 : decode cX6_writeCell 66 = .ok (.iconst 0, 1) := by decide +kernel
theorem dX6_writeCell_67 : decode cX6_writeCell 67 = .ok (.bastore, 1) := by decide +kernel
theorem dX6_writeCell_68 : decode cX6_writeCell 68 = .ok (.aload_n 0, 1) := by decide +kernel
theorem dX6_writeCell_69 : decode cX6_writeCell 69 = .ok (.aload_n 0, 1) := by decide +kernel
theorem dX6_writeCell_70 : decode cX6_writeCell 70 = .ok (.getfield 116, 3) := by decide +kernel
theorem dX6_writeCell_73 : decode cX6_writeCell 73 = .ok (.bipush 15, 2) := by decide +kernel
theorem dX6_writeCell_75 : decode cX6_writeCell 75 = .ok (.if_icmp .ne 7, 3) := by decide +kernel
theorem dX6_writeCell_78 : decode cX6_writeCell 78 = .ok (.iconst 0, 1) := by decide +kernel
theorem dX6_writeCell_79 : decode cX6_writeCell 79 = .ok (.goto 9, 3) := by decide +kernel
theorem dX6_writeCell_82 : decode cX6_writeCell 82 = .ok (.aload_n 0, 1) := by decide +kernel
theorem dX6_writeCell_83 : decode cX6_writeCell 83 = .ok (.getfield 116, 3) := by decide +kernel
theorem dX6_writeCell_86 : decode cX6_writeCell 86 = .ok (.iconst 1, 1) := by decide +kernel
theorem dX6_writeCell_87 : decode cX6_writeCell 87 = .ok (.iadd, 1) := by decide +kernel
theorem dX6_writeCell_88 : decode cX6_writeCell 88 = .ok (.putfield 116, 3) := by decide +kernel
theorem dX6_writeCell_91 : decode cX6_writeCell 91 = .ok (.aload_n 0, 1) := by decide +kernel
theorem dX6_writeCell_92 : decode cX6_writeCell 92 = .ok (.getfield 55, 3) := by decide +kernel
theorem dX6_writeCell_95 : decode cX6_writeCell 95 = .ok (.bipush 6, 2) := by decide +kernel
theorem dX6_writeCell_97 : decode cX6_writeCell 97 = .ok (.if_icmp .ne 28, 3) := by decide +kernel
theorem dX6_writeCell_100 : decode cX6_writeCell 100 = .ok (.aload_n 0, 1) := by decide +kernel
theorem dX6_writeCell_101 : decode cX6_writeCell 101 = .ok (.getfield 116, 3) := by decide +kernel
theorem dX6_writeCell_104 : decode cX6_writeCell 104 = .ok (.ifCond .ne 21, 3) := by decide +kernel
theorem dX6_writeCell_107 : decode cX6_writeCell 107 = .ok (.aload_n 0, 1) := by decide +kernel
theorem dX6_writeCell_108 : decode cX6_writeCell 108 = .ok (.getfield 119, 3) := by decide +kernel
theorem dX6_writeCell_111 : decode cX6_writeCell 111 = .ok (.aload_n 0, 1) := by decide +kernel
theorem dX6_writeCell_112 : decode cX6_writeCell 112 = .ok (.getfield 17, 3) := by decide +kernel
theorem dX6_writeCell_115 : decode cX6_writeCell 115 = .ok (.bipush 11, 2) := by decide +kernel
theorem dX6_writeCell_117 : decode cX6_writeCell 117 = .ok (.iadd, 1) := by decide +kernel
theorem dX6_writeCell_118 : decode cX6_writeCell 118 = .ok (.if_icmp .ne 7, 3) := by decide +kernel
theorem dX6_writeCell_121 : decode cX6_writeCell 121 = .ok (.aload_n 0, 1) := by decide +kernel
theorem dX6_writeCell_122 : decode cX6_writeCell 122 = .ok (.invokevirtual 74, 3) := by decide +kernel
theorem dX6_writeCell_125 : decode cX6_writeCell 125 = .ok (.return_, 1) := by decide +kernel
set_option maxRecDepth 20000 in
theorem ggX6_index_X6_end : GoodIn wsX6_index wsX6_end := goodIn_r _ [7, 2, 8, 9, 10, 11, 6, 12, 13, 40, 41, 42, 43, 44, 45, 46, 47, 48, 49, 50, 51, 52, 53, 54, 55, 56, 57, 58, 59, 60, 61, 62, 63, 64, 65, 66, 67, 68, 69, 70, 71] (by decide +kernel) (by decide +kernel)
set_option maxRecDepth 20000 in
theorem gX6_index_X6_end : GoodIn wsX6_index (wsV RX6 74 RX6 yX6_end wsX6_end) := goodIn_app (goodIn_of _ (by decide +kernel)) ggX6_index_X6_end
set_option maxRecDepth 20000 in
theorem ggX6_index_X6_has : GoodIn wsX6_index wsX6_has := goodIn_r _ [17, 13, 40, 41, 42, 43, 44, 45, 46, 47, 48, 49, 50, 51, 52, 53, 54, 55, 56, 57, 58, 59, 60, 61, 62, 63, 64, 65, 66, 67, 68, 69, 70, 71] (by decide +kernel) (by decide +kernel)
set_option maxRecDepth 20000 in
theorem gX6_index_X6_has : GoodIn wsX6_index (wsV RX6 64 RX6 yX6_has wsX6_has) := goodIn_app (goodIn_of _ (by decide +kernel)) ggX6_index_X6_has
set_option maxRecDepth 20000 in
theorem ggX6_index_X6_raise : GoodIn wsX6_index wsX6_raise := goodIn_r _ [21, 13, 40, 41, 42, 43, 44, 45, 46, 47, 48, 49, 50, 51, 52, 53, 54, 55, 56, 57, 58, 59, 60, 61, 62, 63, 64, 65, 66, 67, 68, 69, 70, 71] (by decide +kernel) (by decide +kernel)
set_option maxRecDepth 20000 in
theorem gX6_index_X6_raise : GoodIn wsX6_index (wsV RX6 68 RX6 yX6_raise wsX6_raise) := goodIn_app (goodIn_of _ (by decide +kernel)) ggX6_index_X6_raise
set_option maxRecDepth 20000 in
theorem ggX6_index_X6_startWriting : GoodIn wsX6_index wsX6_startWriting := goodIn_r _ [25, 2, 26, 27, 28, 29, 30, 31, 32, 33, 34, 35, 6, 36, 37, 38, 39, 40, 41, 42, 43, 44, 45, 46, 47, 48, 49, 50, 51, 52, 53, 54, 55, 56, 57, 58, 59, 60, 61, 62, 63, 64, 65, 66, 67, 68, 69, 70, 71] (by decide +kernel) (by decide +kernel)
set_option maxRecDepth 20000 in
theorem gX6_index_X6_startWriting : GoodIn wsX6_index (wsV RX6 163 RX6 yX6_startWriting wsX6_startWriting) := goodIn_app (goodIn_of _ (by decide +kernel)) ggX6_index_X6_startWriting
theorem dX6_index_0 : decode cX6_index 0 = .ok (.aload_n 0, 1) := by decide +kernel
theorem dX6_index_1 : decode cX6_index 1 = .ok (.dup, 1) := by decide +kernel
theorem dX6_index_2 : decode cX6_index 2 = .ok (.getfield 160, 3) := by decide +kernel
theorem dX6_index_5 : decode cX6_index 5 = .ok (.iconst 1, 1) := by decide +kernel
theorem dX6_index_6 : decode cX6_index 6 = .ok (.iadd, 1) := by decide +kernel
theorem dX6_index_7 : decode cX6_index 7 = .ok (.putfield 160, 3) := by decide +kernel
theorem dX6_index_10 : decode cX6_index 10 = .ok (.aload_n 0, 1) := by decide +kernel
theorem dX6_index_11 : decode cX6_index 11 = .ok (.getfield 55, 3) := by decide +kernel
theorem dX6_index_14 : decode cX6_index 14 = .ok (.bipush 8, 2) := by decide +kernel
theorem dX6_index_16 : decode cX6_index 16 = .ok (.if_icmp .ne 10, 3) := by decide +kernel
theorem dX6_index_19 : decode cX6_index 19 = .ok (.aload_n 0, 1) := by decide +kernel
theorem dX6_index_20 : decode cX6_index 20 = .ok (.invokevirtual 74, 3) := by decide +kernel
theorem dX6_index_23 : decode cX6_index 23 = .ok (.goto 75, 3) := by decide +kernel
theorem dX6_index_26 : decode cX6_index 26 = .ok (.aload_n 0, 1) := by decide +kernel
theorem dX6_index_27 : decode cX6_index 27 = .ok (.getfield 55, 3) := by decide +kernel
theorem dX6_index_30 : decode cX6_index 30 = .ok (.bipush 7, 2) := by decide +kernel
theorem dX6_index_32 : decode cX6_index 32 = .ok (.if_icmp .ne 32, 3) := by decide +kernel
theorem dX6_index_35 : decode cX6_index 35 = .ok (.aload_n 0, 1) := by decide +kernel
theorem dX6_index_36 : decode cX6_index 36 = .ok (.iconst 2, 1) := by decide +kernel
theorem dX6_index_37 : decode cX6_index 37 = .ok (.invokevirtual 64, 3) := by decide +kernel
theorem dX6_index_40 : decode cX6_index 40 = .ok (.ifCond .eq 15, 3) := by decide +kernel
theorem dX6_index_43 : decode cX6_index 43 = .ok (.aload_n 0, 1) := by decide +kernel
theorem dX6_index_44 : decode cX6_index 44 = .ok (.iconst 4, 1) := by decide +kernel
theorem dX6_index_45 : decode cX6_index 45 = .ok (.invokevirtual 68, 3) := by decide +kernel
theorem dX6_index_48 : decode cX6_index 48 = .ok (.aload_n 0, 1) := by decide +kernel
theorem dX6_index_49 : decode cX6_index 49 = .ok (.invokevirtual 74, 3) := by decide +kernel
theorem dX6_index_52 : decode cX6_index 52 = .ok (.goto 46, 3) := by decide +kernel
theorem dX6_index_55 : decode cX6_index 55 = .ok (.aload_n 0, 1) := by decide +kernel
theorem dX6_index_56 : decode cX6_index 56 = .ok (.bipush 8, 2) := by decide +kernel
theorem dX6_index_58 : decode cX6_index 58 = .ok (.invokevirtual 163, 3) := by decide +kernel
theorem dX6_index_61 : decode cX6_index 61 = .ok (.goto 37, 3) := by decide +kernel
theorem dX6_index_64 : decode cX6_index 64 = .ok (.aload_n 0, 1) := by decide +kernel
theorem dX6_index_65 : decode cX6_index 65 = .ok (.getfield 160, 3) := by decide +kernel
theorem dX6_index_68 : decode cX6_index 68 = .ok (.iconst 5, 1) := by decide +kernel
theorem dX6_index_69 : decode cX6_index 69 = .ok (.if_icmp .ne 29, 3) := by decide +kernel
theorem dX6_index_72 : decode cX6_index 72 = .ok (.aload_n 0, 1) := by decide +kernel
theorem dX6_index_73 : decode cX6_index 73 = .ok (.getfield 55, 3) := by decide +kernel
theorem dX6_index_76 : decode cX6_index 76 = .ok (.iconst 2, 1) := by decide +kernel
theorem dX6_index_77 : decode cX6_index 77 = .ok (.if_icmp .eq 11, 3) := by decide +kernel
theorem dX6_index_80 : decode cX6_index 80 = .ok (.aload_n 0, 1) := by decide +kernel
theorem dX6_index_81 : decode cX6_index 81 = .ok (.getfield 55, 3) := by decide +kernel
theorem dX6_index_84 : decode cX6_index 84 = .ok (.iconst 3, 1) := by decide +kernel
theorem dX6_index_85 : decode cX6_index 85 = .ok (.if_icmp .ne 13, 3) := by decide +kernel
theorem dX6_index_88 : decode cX6_index 88 = .ok (.aload_n 0, 1) := by decide +kernel
theorem dX6_index_89 : decode cX6_index 89 = .ok (.bipush 16, 2) := by decide +kernel
theorem dX6_index_91 : decode cX6_index 91 = .ok (.invokevirtual 68, 3) := by decide +kernel
theorem dX6_index_94 : decode cX6_index 94 = .ok (.aload_n 0, 1) := by decide +kernel
theorem dX6_index_95 : decode cX6_index 95 = .ok (.invokevirtual 74, 3) := by decide +kernel
theorem dX6_index_98 : decode cX6_index 98 = .ok (.return_, 1) := by decide +kernel
set_option maxRecDepth 20000 in
theorem ggX6_stepHead_X6_end : GoodIn wsX6_stepHead wsX6_end := goodIn_r _ [9, 10, 11, 12, 13, 14, 8, 15, 16, 17, 18, 19, 20, 21, 22, 23, 24, 25, 26, 27, 28, 29, 30, 31, 32, 33, 34, 35, 36, 37, 38, 39, 40, 41, 42, 43, 44, 45, 46, 47, 48] (by decide +kernel) (by decide +kernel)
set_option maxRecDepth 20000 in
theorem gX6_stepHead_X6_end : GoodIn wsX6_stepHead (wsV RX6 74 RX6 yX6_end wsX6_end) := goodIn_app (goodIn_of _ (by decide +kernel)) ggX6_stepHead_X6_end
theorem dX6_stepHead_0 : decode cX6_stepHead 0 = .ok (.aload_n 0, 1) := by decide +kernel
theorem dX6_stepHead_1 : decode cX6_stepHead 1 = .ok (.getfield 21, 3) := by decide +kernel
theorem dX6_stepHead_4 : decode cX6_stepHead 4 = .ok (.ifCond .ne 22, 3) := by decide +kernel
theorem dX6_stepHead_7 : decode cX6_stepHead 7 = .ok (.aload_n 0, 1) := by decide +kernel
theorem dX6_stepHead_8 : decode cX6_stepHead 8 = .ok (.getfield 101, 3) := by decide +kernel
theorem dX6_stepHead_11 : decode cX6_stepHead 11 = .ok (.ifCond .ne 15, 3) := by decide +kernel
theorem dX6_stepHead_14 : decode cX6_stepHead 14 = .ok (.aload_n 0, 1) := by decide +kernel
theorem dX6_stepHead_15 : decode cX6_stepHead 15 = .ok (.iconst 0, 1) := by decide +kernel
theorem dX6_stepHead_16 : decode cX6_stepHead 16 = .ok (.putfield 77, 3) := by decide +kernel
theorem dX6_stepHead_19 : decode cX6_stepHead 19 = .ok (.aload_n 0, 1) := by decide +kernel
theorem dX6_stepHead_20 : decode cX6_stepHead 20 = .ok (.invokevirtual 74, 3) := by decide +kernel
theorem dX6_stepHead_23 : decode cX6_stepHead 23 = .ok (.goto 84, 3) := by decide +kernel
theorem dX6_stepHead_26 : decode cX6_stepHead 26 = .ok (.aload_n 0, 1) := by decide +kernel
theorem dX6_stepHead_27 : decode cX6_stepHead 27 = .ok (.getfield 77, 3) := by decide +kernel
theorem dX6_stepHead_30 : decode cX6_stepHead 30 = .ok (.aload_n 0, 1) := by decide +kernel
theorem dX6_stepHead_31 : decode cX6_stepHead 31 = .ok (.getfield 61, 3) := by decide +kernel
theorem dX6_stepHead_34 : decode cX6_stepHead 34 = .ok (.if_icmp .ne 10, 3) := by decide +kernel
theorem dX6_stepHead_37 : decode cX6_stepHead 37 = .ok (.aload_n 0, 1) := by decide +kernel
theorem dX6_stepHead_38 : decode cX6_stepHead 38 = .ok (.invokevirtual 74, 3) := by decide +kernel
theorem dX6_stepHead_41 : decode cX6_stepHead 41 = .ok (.goto 66, 3) := by decide +kernel
theorem dX6_stepHead_44 : decode cX6_stepHead 44 = .ok (.aload_n 0, 1) := by decide +kernel
theorem dX6_stepHead_45 : decode cX6_stepHead 45 = .ok (.getfield 77, 3) := by decide +kernel
theorem dX6_stepHead_48 : decode cX6_stepHead 48 = .ok (.aload_n 0, 1) := by decide +kernel
theorem dX6_stepHead_49 : decode cX6_stepHead 49 = .ok (.getfield 61, 3) := by decide +kernel
theorem dX6_stepHead_52 : decode cX6_stepHead 52 = .ok (.if_icmp .ge 7, 3) := by decide +kernel
theorem dX6_stepHead_55 : decode cX6_stepHead 55 = .ok (.iconst 1, 1) := by decide +kernel
theorem dX6_stepHead_56 : decode cX6_stepHead 56 = .ok (.goto 4, 3) := by decide +kernel
theorem dX6_stepHead_59 : decode cX6_stepHead 59 = .ok (.iconst (-1), 1) := by decide +kernel
theorem dX6_stepHead_60 : decode cX6_stepHead 60 = .ok (.istore_n 1, 1) := by decide +kernel
theorem dX6_stepHead_61 : decode cX6_stepHead 61 = .ok (.aload_n 0, 1) := by decide +kernel
theorem dX6_stepHead_62 : decode cX6_stepHead 62 = .ok (.dup, 1) := by decide +kernel
theorem dX6_stepHead_63 : decode cX6_stepHead 63 = .ok (.getfield 77, 3) := by decide +kernel
theorem dX6_stepHead_66 : decode cX6_stepHead 66 = .ok (.iload_n 1, 1) := by decide +kernel
theorem dX6_stepHead_67 : decode cX6_stepHead 67 = .ok (.iadd, 1) := by decide +kernel
theorem dX6_stepHead_68 : decode cX6_stepHead 68 = .ok (.putfield 77, 3) := by decide +kernel
theorem dX6_stepHead_71 : decode cX6_stepHead 71 = .ok (.aload_n 0, 1) := by decide +kernel
theorem dX6_stepHead_72 : decode cX6_stepHead 72 = .ok (.aload_n 0, 1) := by decide +kernel
theorem dX6_stepHead_73 : decode cX6_stepHead 73 = .ok (.getfield 101, 3) := by decide +kernel
theorem dX6_stepHead_76 : decode cX6_stepHead 76 = .ok (.iload_n 1, 1) := by decide +kernel
theorem dX6_stepHead_77 : decode cX6_stepHead 77 = .ok (.iadd, 1) := by decide +kernel
theorem dX6_stepHead_78 : decode cX6_stepHead 78 = .ok (.ifCond .lt 13, 3) := by decide +kernel
theorem dX6_stepHead_81 : decode cX6_stepHead 81 = .ok (.aload_n 0, 1) := by decide +kernel
theorem dX6_stepHead_82 : decode cX6_stepHead 82 = .ok (.getfield 101, 3) := by decide +kernel
theorem dX6_stepHead_85 : decode cX6_stepHead 85 = .ok (.iload_n 1, 1) := by decide +kernel
theorem dX6_stepHead_86 : decode cX6_stepHead 86 = .ok (.iadd, 1) := by decide +kernel
theorem dX6_stepHead_87 : decode cX6_stepHead 87 = .ok (.iconst 3, 1) := by decide +kernel
theorem dX6_stepHead_88 : decode cX6_stepHead 88 = .ok (.if_icmp .le 10, 3) := by decide +kernel
theorem dX6_stepHead_91 : decode cX6_stepHead 91 = .ok (.aload_n 0, 1) := by decide +kernel
theorem dX6_stepHead_92 : decode cX6_stepHead 92 = .ok (.getfield 101, 3) := by decide +kernel
theorem dX6_stepHead_95 : decode cX6_stepHead 95 = .ok (.goto 9, 3) := by decide +kernel
theorem dX6_stepHead_98 : decode cX6_stepHead 98 = .ok (.aload_n 0, 1) := by decide +kernel
theorem dX6_stepHead_99 : decode cX6_stepHead 99 = .ok (.getfield 101, 3) := by decide +kernel
theorem dX6_stepHead_102 : decode cX6_stepHead 102 = .ok (.iload_n 1, 1) := by decide +kernel
theorem dX6_stepHead_103 : decode cX6_stepHead 103 = .ok (.iadd, 1) := by decide +kernel
theorem dX6_stepHead_104 : decode cX6_stepHead 104 = .ok (.putfield 101, 3) := by decide +kernel
theorem dX6_stepHead_107 : decode cX6_stepHead 107 = .ok (.return_, 1) := by decide +kernel
set_option maxRecDepth 20000 in
theorem ggX6_later_X6_stepHead : GoodIn wsX6_later wsX6_stepHead := goodIn_r _ [7, 8, 9, 10, 11, 12, 13, 14, 6, 15, 1, 16, 17, 18, 19, 20, 21, 48, 49, 50, 51, 52, 53, 54, 55, 56, 57, 58, 59, 60, 61, 62, 63, 64, 65, 66, 67, 68, 69, 70, 71, 72, 73, 74, 75, 76, 77, 78, 79] (by decide +kernel) (by decide +kernel)
set_option maxRecDepth 20000 in
theorem gX6_later_X6_stepHead : GoodIn wsX6_later (wsV RX6 166 RX6 yX6_stepHead wsX6_stepHead) := goodIn_app (goodIn_of _ (by decide +kernel)) ggX6_later_X6_stepHead
set_option maxRecDepth 20000 in
theorem ggX6_later_X6_has : GoodIn wsX6_later wsX6_has := goodIn_r _ [25, 21, 48, 49, 50, 51, 52, 53, 54, 55, 56, 57, 58, 59, 60, 61, 62, 63, 64, 65, 66, 67, 68, 69, 70, 71, 72, 73, 74, 75, 76, 77, 78, 79] (by decide +kernel) (by decide +kernel)
set_option maxRecDepth 20000 in
theorem gX6_later_X6_has : GoodIn wsX6_later (wsV RX6 64 RX6 yX6_has wsX6_has) := goodIn_app (goodIn_of _ (by decide +kernel)) ggX6_later_X6_has
set_option maxRecDepth 20000 in
theorem ggX6_later_X6_raise : GoodIn wsX6_later wsX6_raise := goodIn_r _ [29, 21, 48, 49, 50, 51, 52, 53, 54, 55, 56, 57, 58, 59, 60, 61, 62, 63, 64, 65, 66, 67, 68, 69, 70, 71, 72, 73, 74, 75, 76, 77, 78, 79] (by decide +kernel) (by decide +kernel)
set_option maxRecDepth 20000 in
theorem gX6_later_X6_raise : GoodIn wsX6_later (wsV RX6 68 RX6 yX6_raise wsX6_raise) := goodIn_app (goodIn_of _ (by decide +kernel)) ggX6_later_X6_raise
set_option maxRecDepth 20000 in
theorem ggX6_later_X6_end : GoodIn wsX6_later wsX6_end := goodIn_r _ [15, 1, 16, 17, 18, 19, 6, 20, 21, 48, 49, 50, 51, 52, 53, 54, 55, 56, 57, 58, 59, 60, 61, 62, 63, 64, 65, 66, 67, 68, 69, 70, 71, 72, 73, 74, 75, 76, 77, 78, 79] (by decide +kernel) (by decide +kernel)
set_option maxRecDepth 20000 in
theorem gX6_later_X6_end : GoodIn wsX6_later (wsV RX6 74 RX6 yX6_end wsX6_end) := goodIn_app (goodIn_of _ (by decide +kernel)) ggX6_later_X6_end
set_option maxRecDepth 20000 in
theorem ggX6_later_X6_startWriting : GoodIn wsX6_later wsX6_startWriting := goodIn_r _ [33, 1, 34, 35, 36, 37, 38, 39, 40, 41, 42, 43, 6, 44, 45, 46, 47, 48, 49, 50, 51, 52, 53, 54, 55, 56, 57, 58, 59, 60, 61, 62, 63, 64, 65, 66, 67, 68, 69, 70, 71, 72, 73, 74, 75, 76, 77, 78, 79] (by decide +kernel) (by decide +kernel)
set_option maxRecDepth 20000 in
theorem gX6_later_X6_startWriting : GoodIn wsX6_later (wsV RX6 163 RX6 yX6_startWriting wsX6_startWriting) := goodIn_app (goodIn_of _ (by decide +kernel)) ggX6_later_X6_startWriting
theorem dX6_later_0 : decode cX6_later 0 = .ok (.aload_n 0, 1) := by decide +kernel
theorem dX6_later_1 : decode cX6_later 1 = .ok (.getfield 55, 3) := by decide +kernel
theorem dX6_later_4 : decode cX6_later 4 = .ok (.iconst 1, 1) := by decide +kernel
theorem dX6_later_5 : decode cX6_later 5 = .ok (.if_icmp .ne 29, 3) := by decide +kernel
theorem dX6_later_8 : decode cX6_later 8 = .ok (.aload_n 0, 1) := by decide +kernel
theorem dX6_later_9 : decode cX6_later 9 = .ok (.dup, 1) := by decide +kernel
theorem dX6_later_10 : decode cX6_later 10 = .ok (.getfield 80, 3) := by decide +kernel
theorem dX6_later_13 : decode cX6_later 13 = .ok (.iconst 1, 1) := by decide +kernel
theorem dX6_later_14 : decode cX6_later 14 = .ok (.iadd, 1) := by decide +kernel
theorem dX6_later_15 : decode cX6_later 15 = .ok (.putfield 80, 3) := by decide +kernel
theorem dX6_later_18 : decode cX6_later 18 = .ok (.aload_n 0, 1) := by decide +kernel
theorem dX6_later_19 : decode cX6_later 19 = .ok (.getfield 80, 3) := by decide +kernel
theorem dX6_later_22 : decode cX6_later 22 = .ok (.iconst 3, 1) := by decide +kernel
theorem dX6_later_23 : decode cX6_later 23 = .ok (.irem, 1) := by decide +kernel
theorem dX6_later_24 : decode cX6_later 24 = .ok (.ifCond .ne 111, 3) := by decide +kernel
theorem dX6_later_27 : decode cX6_later 27 = .ok (.aload_n 0, 1) := by decide +kernel
theorem dX6_later_28 : decode cX6_later 28 = .ok (.invokevirtual 166, 3) := by decide +kernel
theorem dX6_later_31 : decode cX6_later 31 = .ok (.goto 104, 3) := by decide +kernel
theorem dX6_later_34 : decode cX6_later 34 = .ok (.aload_n 0, 1) := by decide +kernel
theorem dX6_later_35 : decode cX6_later 35 = .ok (.getfield 55, 3) := by decide +kernel
theorem dX6_later_38 : decode cX6_later 38 = .ok (.iconst 3, 1) := by decide +kernel
theorem dX6_later_39 : decode cX6_later 39 = .ok (.if_icmp .ne 34, 3) := by decide +kernel
theorem dX6_later_42 : decode cX6_later 42 = .ok (.aload_n 0, 1) := by decide +kernel
theorem dX6_later_43 : decode cX6_later 43 = .ok (.aload_n 0, 1) := by decide +kernel
theorem dX6_later_44 : decode cX6_later 44 = .ok (.getfield 80, 3) := by decide +kernel
theorem dX6_later_47 : decode cX6_later 47 = .ok (.bipush 31, 2) := by decide +kernel
theorem dX6_later_49 : decode cX6_later 49 = .ok (.if_icmp .ne 7, 3) := by decide +kernel
theorem dX6_later_52 : decode cX6_later 52 = .ok (.iconst 2, 1) := by decide +kernel
theorem dX6_later_53 : decode cX6_later 53 = .ok (.goto 4, 3) := by decide +kernel
theorem dX6_later_56 : decode cX6_later 56 = .ok (.iconst 3, 1) := by decide +kernel
theorem dX6_later_57 : decode cX6_later 57 = .ok (.putfield 55, 3) := by decide +kernel
theorem dX6_later_60 : decode cX6_later 60 = .ok (.aload_n 0, 1) := by decide +kernel
theorem dX6_later_61 : decode cX6_later 61 = .ok (.dup, 1) := by decide +kernel
theorem dX6_later_62 : decode cX6_later 62 = .ok (.getfield 80, 3) := by decide +kernel
theorem dX6_later_65 : decode cX6_later 65 = .ok (.iconst 1, 1) := by decide +kernel
theorem dX6_later_66 : decode cX6_later 66 = .ok (.iadd, 1) := by decide +kernel
theorem dX6_later_67 : decode cX6_later 67 = .ok (.putfield 80, 3) := by decide +kernel
theorem dX6_later_70 : decode cX6_later 70 = .ok (.goto 65, 3) := by decide +kernel
theorem dX6_later_73 : decode cX6_later 73 = .ok (.aload_n 0, 1) := by decide +kernel
theorem dX6_later_74 : decode cX6_later 74 = .ok (.getfield 55, 3) := by decide +kernel
theorem dX6_later_77 : decode cX6_later 77 = .ok (.iconst 5, 1) := by decide +kernel
theorem dX6_later_78 : decode cX6_later 78 = .ok (.if_icmp .ne 57, 3) := by decide +kernel
theorem dX6_later_81 : decode cX6_later 81 = .ok (.aload_n 0, 1) := by decide +kernel
theorem dX6_later_82 : decode cX6_later 82 = .ok (.getfield 80, 3) := by decide +kernel
theorem dX6_later_85 : decode cX6_later 85 = .ok (.bipush 11, 2) := by decide +kernel
theorem dX6_later_87 : decode cX6_later 87 = .ok (.if_icmp .ne 23, 3) := by decide +kernel
theorem dX6_later_90 : decode cX6_later 90 = .ok (.aload_n 0, 1) := by decide +kernel
theorem dX6_later_91 : decode cX6_later 91 = .ok (.iconst 2, 1) := by decide +kernel
theorem dX6_later_92 : decode cX6_later 92 = .ok (.invokevirtual 64, 3) := by decide +kernel
theorem dX6_later_95 : decode cX6_later 95 = .ok (.ifCond .eq 15, 3) := by decide +kernel
theorem dX6_later_98 : decode cX6_later 98 = .ok (.aload_n 0, 1) := by decide +kernel
theorem dX6_later_99 : decode cX6_later 99 = .ok (.iconst 4, 1) := by decide +kernel
theorem dX6_later_100 : decode cX6_later 100 = .ok (.invokevirtual 68, 3) := by decide +kernel
theorem dX6_later_103 : decode cX6_later 103 = .ok (.aload_n 0, 1) := by decide +kernel
theorem dX6_later_104 : decode cX6_later 104 = .ok (.invokevirtual 74, 3) := by decide +kernel
theorem dX6_later_107 : decode cX6_later 107 = .ok (.goto 18, 3) := by decide +kernel
theorem dX6_later_110 : decode cX6_later 110 = .ok (.aload_n 0, 1) := by decide +kernel
theorem dX6_later_111 : decode cX6_later 111 = .ok (.getfield 80, 3) := by decide +kernel
theorem dX6_later_114 : decode cX6_later 114 = .ok (.bipush 11, 2) := by decide +kernel
theorem dX6_later_116 : decode cX6_later 116 = .ok (.if_icmp .ne 9, 3) := by decide +kernel
theorem dX6_later_119 : decode cX6_later 119 = .ok (.aload_n 0, 1) := by decide +kernel
theorem dX6_later_120 : decode cX6_later 120 = .ok (.bipush 6, 2) := by decide +kernel
theorem dX6_later_122 : decode cX6_later 122 = .ok (.invokevirtual 163, 3) := by decide +kernel
theorem dX6_later_125 : decode cX6_later 125 = .ok (.aload_n 0, 1) := by decide +kernel
theorem dX6_later_126 : decode cX6_later 126 = .ok (.dup, 1) := by decide +kernel
theorem dX6_later_127 : decode cX6_later 127 = .ok (.getfield 80, 3) := by decide +kernel
theorem dX6_later_130 : decode cX6_later 130 = .ok (.iconst 1, 1) := by decide +kernel
theorem dX6_later_131 : decode cX6_later 131 = .ok (.iadd, 1) := by decide +kernel
theorem dX6_later_132 : decode cX6_later 132 = .ok (.putfield 80, 3) := by decide +kernel
theorem dX6_later_135 : decode cX6_later 135 = .ok (.return_, 1) := by decide +kernel
set_option maxRecDepth 20000 in
theorem ggX6_pass_X6_writeCell : GoodIn wsX6_pass wsX6_writeCell := goodIn_r _ [7, 8, 1, 9, 10, 2, 11, 12, 13, 14, 15, 16, 6, 17, 18, 19, 20, 21, 22, 23, 24, 25, 26, 27, 28, 29, 30, 31, 32, 33, 34, 35, 36, 37, 38, 39, 40, 41, 42, 43, 44, 45, 46, 47, 48, 49, 50, 51, 52, 53, 54, 55, 56, 57, 58, 59, 60, 61, 62, 63, 64, 65, 126, 127, 128, 129, 130, 131, 132, 133, 134, 135, 136, 137, 138, 139, 140, 141, 142, 143, 144, 145, 146, 147, 148, 149, 150, 151, 152, 153, 154, 155, 156, 157] (by decide +kernel) (by decide +kernel)
set_option maxRecDepth 20000 in
theorem gX6_pass_X6_writeCell : GoodIn wsX6_pass (wsV RX6 169 RX6 yX6_writeCell wsX6_writeCell) := goodIn_app (goodIn_of _ (by decide +kernel)) ggX6_pass_X6_writeCell
set_option maxRecDepth 20000 in
theorem ggX6_pass_X6_readCell : GoodIn wsX6_pass wsX6_readCell := goodIn_r _ [69, 61, 9, 10, 2, 36, 70, 71, 72, 73, 74, 75, 76, 6, 77, 78, 79, 13, 1, 80, 81, 82, 83, 84, 85, 47, 48, 49, 50, 46, 86, 87, 88, 89, 41, 42, 43, 44, 45, 90, 91, 92, 93, 33, 34, 35, 94, 95, 96, 97, 98, 99, 100, 57, 58, 59, 60, 62, 63, 64, 65, 101, 102, 103, 104, 126, 127, 128, 129, 130, 131, 132, 133, 134, 135, 136, 137, 138, 139, 140, 141, 142, 143, 144, 145, 146, 147, 148, 149, 150, 151, 152, 153, 154, 155, 156, 157] (by decide +kernel) (by decide +kernel)
set_option maxRecDepth 20000 in
theorem gX6_pass_X6_readCell : GoodIn wsX6_pass (wsV RX6 172 RX6 yX6_readCell wsX6_readCell) := goodIn_app (goodIn_of _ (by decide +kernel)) ggX6_pass_X6_readCell
set_option maxRecDepth 20000 in
theorem ggX6_pass_X6_index : GoodIn wsX6_pass wsX6_index := goodIn_r _ [108, 109, 1, 57, 58, 59, 6, 60, 61, 62, 63, 64, 65, 46, 42, 43, 44, 45, 47, 48, 49, 50, 110, 111, 112, 113, 8, 12, 24, 36, 18, 56, 55, 114, 115, 116, 117, 71, 73, 72, 126, 127, 128, 129, 130, 131, 132, 133, 134, 135, 136, 137, 138, 139, 140, 141, 142, 143, 144, 145, 146, 147, 148, 149, 150, 151, 152, 153, 154, 155, 156, 157] (by decide +kernel) (by decide +kernel)
set_option maxRecDepth 20000 in
theorem gX6_pass_X6_index : GoodIn wsX6_pass (wsV RX6 175 RX6 yX6_index wsX6_index) := goodIn_app (goodIn_of _ (by decide +kernel)) ggX6_pass_X6_index
set_option maxRecDepth 20000 in
theorem ggX6_pass_X6_later : GoodIn wsX6_pass wsX6_later := goodIn_r _ [121, 1, 100, 122, 123, 124, 6, 125, 80, 10, 99, 41, 57, 58, 59, 60, 61, 62, 63, 64, 65, 46, 42, 43, 44, 45, 47, 48, 49, 50, 110, 111, 112, 113, 8, 12, 24, 36, 18, 56, 55, 114, 115, 116, 117, 71, 73, 72, 126, 127, 128, 129, 130, 131, 132, 133, 134, 135, 136, 137, 138, 139, 140, 141, 142, 143, 144, 145, 146, 147, 148, 149, 150, 151, 152, 153, 154, 155, 156, 157] (by decide +kernel) (by decide +kernel)
set_option maxRecDepth 20000 in
theorem gX6_pass_X6_later : GoodIn wsX6_pass (wsV RX6 178 RX6 yX6_later wsX6_later) := goodIn_app (goodIn_of _ (by decide +kernel)) ggX6_pass_X6_later
theorem dX6_pass_0 : decode cX6_pass 0 = .ok (.iconst 0, 1) := by decide +kernel
theorem dX6_pass_1 : decode cX6_pass 1 = .ok (.istore_n 1, 1) := by decide +kernel
theorem dX6_pass_2 : decode cX6_pass 2 = .ok (.iconst 0, 1) := by decide +kernel
theorem dX6_pass_3 : decode cX6_pass 3 = .ok (.istore_n 2, 1) := by decide +kernel
theorem dX6_pass_4 : decode cX6_pass 4 = .ok (.iload_n 2, 1) := by decide +kernel
theorem dX6_pass_5 : decode cX6_pass 5 = .ok (.bipush 16, 2) := by decide +kernel
theorem dX6_pass_7 : decode cX6_pass 7 = .ok (.if_icmp .ge 70, 3) := by decide +kernel
theorem dX6_pass_10 : decode cX6_pass 10 = .ok (.aload_n 0, 1) := by decide +kernel
theorem dX6_pass_11 : decode cX6_pass 11 = .ok (.getfield 55, 3) := by decide +kernel
theorem dX6_pass_14 : decode cX6_pass 14 = .ok (.bipush 6, 2) := by decide +kernel
theorem dX6_pass_16 : decode cX6_pass 16 = .ok (.if_icmp .eq 12, 3) := by decide +kernel
theorem dX6_pass_19 : decode cX6_pass 19 = .ok (.aload_n 0, 1) := by decide +kernel
theorem dX6_pass_20 : decode cX6_pass 20 = .ok (.getfield 55, 3) := by decide +kernel
theorem dX6_pass_23 : decode cX6_pass 23 = .ok (.bipush 8, 2) := by decide +kernel
theorem dX6_pass_25 : decode cX6_pass 25 = .ok (.if_icmp .ne 10, 3) := by decide +kernel
theorem dX6_pass_28 : decode cX6_pass 28 = .ok (.aload_n 0, 1) := by decide +kernel
theorem dX6_pass_29 : decode cX6_pass 29 = .ok (.invokevirtual 169, 3) := by decide +kernel
theorem dX6_pass_32 : decode cX6_pass 32 = .ok (.goto 7, 3) := by decide +kernel
theorem dX6_pass_35 : decode cX6_pass 35 = .ok (.aload_n 0, 1) := by decide +kernel
theorem dX6_pass_36 : decode cX6_pass 36 = .ok (.invokevirtual 172, 3) := by decide +kernel
theorem dX6_pass_39 : decode cX6_pass 39 = .ok (.aload_n 0, 1) := by decide +kernel
theorem dX6_pass_40 : decode cX6_pass 40 = .ok (.dup, 1) := by decide +kernel
theorem dX6_pass_41 : decode cX6_pass 41 = .ok (.getfield 104, 3) := by decide +kernel
theorem dX6_pass_44 : decode cX6_pass 44 = .ok (.iconst 1, 1) := by decide +kernel
theorem dX6_pass_45 : decode cX6_pass 45 = .ok (.iadd, 1) := by decide +kernel
theorem dX6_pass_46 : decode cX6_pass 46 = .ok (.putfield 104, 3) := by decide +kernel
theorem dX6_pass_49 : decode cX6_pass 49 = .ok (.aload_n 0, 1) := by decide +kernel
theorem dX6_pass_50 : decode cX6_pass 50 = .ok (.getfield 104, 3) := by decide +kernel
theorem dX6_pass_53 : decode cX6_pass 53 = .ok (.sipush 2400, 3) := by decide +kernel
theorem dX6_pass_56 : decode cX6_pass 56 = .ok (.if_icmp .ne 15, 3) := by decide +kernel
theorem dX6_pass_59 : decode cX6_pass 59 = .ok (.aload_n 0, 1) := by decide +kernel
theorem dX6_pass_60 : decode cX6_pass 60 = .ok (.iconst 0, 1) := by decide +kernel
theorem dX6_pass_61 : decode cX6_pass 61 = .ok (.putfield 104, 3) := by decide +kernel
theorem dX6_pass_64 : decode cX6_pass 64 = .ok (.iinc 1 1, 3) := by decide +kernel
theorem dX6_pass_67 : decode cX6_pass 67 = .ok (.aload_n 0, 1) := by decide +kernel
theorem dX6_pass_68 : decode cX6_pass 68 = .ok (.invokevirtual 175, 3) := by decide +kernel
theorem dX6_pass_71 : decode cX6_pass 71 = .ok (.iinc 2 1, 3) := by decide +kernel
theorem dX6_pass_74 : decode cX6_pass 74 = .ok (.goto (-70), 3) := by decide +kernel
theorem dX6_pass_77 : decode cX6_pass 77 = .ok (.aload_n 0, 1) := by decide +kernel
theorem dX6_pass_78 : decode cX6_pass 78 = .ok (.invokevirtual 178, 3) := by decide +kernel
theorem dX6_pass_81 : decode cX6_pass 81 = .ok (.iload_n 1, 1) := by decide +kernel
theorem dX6_pass_82 : decode cX6_pass 82 = .ok (.ireturn, 1) := by decide +kernel
set_option maxRecDepth 20000 in
theorem ggX6_command_X6_has : GoodIn wsX6_command wsX6_has := goodIn_r _ [15, 2, 36, 37, 38, 39, 40, 41, 42, 43, 44, 45, 46, 47, 48, 49, 50, 51, 52, 53, 54, 55, 56, 57, 58, 59, 60, 61, 62, 63, 64, 65, 66, 67] (by decide +kernel) (by decide +kernel)
set_option maxRecDepth 20000 in
theorem gX6_command_X6_has : GoodIn wsX6_command (wsV RX6 64 RX6 yX6_has wsX6_has) := goodIn_app (goodIn_of _ (by decide +kernel)) ggX6_command_X6_has
set_option maxRecDepth 20000 in
theorem ggX6_command_X6_reset : GoodIn wsX6_command wsX6_reset := goodIn_r _ [19, 20, 21, 22, 36, 37, 38, 39, 40, 41, 42, 43, 44, 45, 46, 47, 48, 49, 50, 51, 52, 53, 54, 55, 56, 57, 58, 59, 60, 61, 62, 63, 64, 65, 66, 67] (by decide +kernel) (by decide +kernel)
set_option maxRecDepth 20000 in
theorem gX6_command_X6_reset : GoodIn wsX6_command (wsV RX6 113 RX6 yX6_reset wsX6_reset) := goodIn_app (goodIn_of _ (by decide +kernel)) ggX6_command_X6_reset
set_option maxRecDepth 20000 in
theorem ggX6_command_X6_raise : GoodIn wsX6_command wsX6_raise := goodIn_r _ [26, 2, 36, 37, 38, 39, 40, 41, 42, 43, 44, 45, 46, 47, 48, 49, 50, 51, 52, 53, 54, 55, 56, 57, 58, 59, 60, 61, 62, 63, 64, 65, 66, 67] (by decide +kernel) (by decide +kernel)
set_option maxRecDepth 20000 in
theorem gX6_command_X6_raise : GoodIn wsX6_command (wsV RX6 68 RX6 yX6_raise wsX6_raise) := goodIn_app (goodIn_of _ (by decide +kernel)) ggX6_command_X6_raise
set_option maxRecDepth 20000 in
theorem ggX6_command_X6_end : GoodIn wsX6_command wsX6_end := goodIn_r _ [30, 9, 31, 32, 33, 34, 14, 35, 2, 36, 37, 38, 39, 40, 41, 42, 43, 44, 45, 46, 47, 48, 49, 50, 51, 52, 53, 54, 55, 56, 57, 58, 59, 60, 61, 62, 63, 64, 65, 66, 67] (by decide +kernel) (by decide +kernel)
set_option maxRecDepth 20000 in
theorem gX6_command_X6_end : GoodIn wsX6_command (wsV RX6 74 RX6 yX6_end wsX6_end) := goodIn_app (goodIn_of _ (by decide +kernel)) ggX6_command_X6_end
theorem dX6_command_0 : decode cX6_command 0 = .ok (.iload_n 1, 1) := by decide +kernel
theorem dX6_command_1 : decode cX6_command 1 = .ok (.ifCond .lt 16, 3) := by decide +kernel
theorem dX6_command_4 : decode cX6_command 4 = .ok (.iload_n 1, 1) := by decide +kernel
theorem dX6_command_5 : decode cX6_command 5 = .ok (.iconst 5, 1) := by decide +kernel
theorem dX6_command_6 : decode cX6_command 6 = .ok (.if_icmp .gt 11, 3) := by decide +kernel
theorem dX6_command_9 : decode cX6_command 9 = .ok (.aload_n 0, 1) := by decide +kernel
theorem dX6_command_10 : decode cX6_command 10 = .ok (.iconst 1, 1) := by decide +kernel
theorem dX6_command_11 : decode cX6_command 11 = .ok (.invokevirtual 64, 3) := by decide +kernel
theorem dX6_command_14 : decode cX6_command 14 = .ok (.ifCond .eq 5, 3) := by decide +kernel
theorem dX6_command_17 : decode cX6_command 17 = .ok (.iconst 0, 1) := by decide +kernel
theorem dX6_command_18 : decode cX6_command 18 = .ok (.ireturn, 1) := by decide +kernel
theorem dX6_command_19 : decode cX6_command 19 = .ok (.aload_n 0, 1) := by decide +kernel
theorem dX6_command_20 : decode cX6_command 20 = .ok (.iload_n 1, 1) := by decide +kernel
theorem dX6_command_21 : decode cX6_command 21 = .ok (.putfield 21, 3) := by decide +kernel
theorem dX6_command_24 : decode cX6_command 24 = .ok (.aload_n 0, 1) := by decide +kernel
theorem dX6_command_25 : decode cX6_command 25 = .ok (.iconst 1, 1) := by decide +kernel
theorem dX6_command_26 : decode cX6_command 26 = .ok (.putfield 38, 3) := by decide +kernel
theorem dX6_command_29 : decode cX6_command 29 = .ok (.aload_n 0, 1) := by decide +kernel
theorem dX6_command_30 : decode cX6_command 30 = .ok (.iload_n 2, 1) := by decide +kernel
theorem dX6_command_31 : decode cX6_command 31 = .ok (.putfield 147, 3) := by decide +kernel
theorem dX6_command_34 : decode cX6_command 34 = .ok (.aload_n 0, 1) := by decide +kernel
theorem dX6_command_35 : decode cX6_command 35 = .ok (.invokevirtual 113, 3) := by decide +kernel
theorem dX6_command_38 : decode cX6_command 38 = .ok (.aload_n 0, 1) := by decide +kernel
theorem dX6_command_39 : decode cX6_command 39 = .ok (.bipush 16, 2) := by decide +kernel
theorem dX6_command_41 : decode cX6_command 41 = .ok (.putfield 17, 3) := by decide +kernel
theorem dX6_command_44 : decode cX6_command 44 = .ok (.aload_n 0, 1) := by decide +kernel
theorem dX6_command_45 : decode cX6_command 45 = .ok (.iconst 0, 1) := by decide +kernel
theorem dX6_command_46 : decode cX6_command 46 = .ok (.putfield 160, 3) := by decide +kernel
theorem dX6_command_49 : decode cX6_command 49 = .ok (.aload_n 0, 1) := by decide +kernel
theorem dX6_command_50 : decode cX6_command 50 = .ok (.iconst 0, 1) := by decide +kernel
theorem dX6_command_51 : decode cX6_command 51 = .ok (.putfield 80, 3) := by decide +kernel
theorem dX6_command_54 : decode cX6_command 54 = .ok (.iload_n 1, 1) := by decide +kernel
theorem dX6_command_55 : decode cX6_command 55 = .ok (.ifCond .ne 15, 3) := by decide +kernel
theorem dX6_command_58 : decode cX6_command 58 = .ok (.aload_n 0, 1) := by decide +kernel
theorem dX6_command_59 : decode cX6_command 59 = .ok (.sipush 255, 3) := by decide +kernel
theorem dX6_command_62 : decode cX6_command 62 = .ok (.putfield 77, 3) := by decide +kernel
theorem dX6_command_65 : decode cX6_command 65 = .ok (.aload_n 0, 1) := by decide +kernel
theorem dX6_command_66 : decode cX6_command 66 = .ok (.iconst 0, 1) := by decide +kernel
theorem dX6_command_67 : decode cX6_command 67 = .ok (.putfield 61, 3) := by decide +kernel
theorem dX6_command_70 : decode cX6_command 70 = .ok (.aload_n 0, 1) := by decide +kernel
theorem dX6_command_71 : decode cX6_command 71 = .ok (.iload_n 1, 1) := by decide +kernel
theorem dX6_command_72 : decode cX6_command 72 = .ok (.iconst 2, 1) := by decide +kernel
theorem dX6_command_73 : decode cX6_command 73 = .ok (.if_icmp .ge 7, 3) := by decide +kernel
theorem dX6_command_76 : decode cX6_command 76 = .ok (.iconst 1, 1) := by decide +kernel
theorem dX6_command_77 : decode cX6_command 77 = .ok (.goto 14, 3) := by decide +kernel
theorem dX6_command_80 : decode cX6_command 80 = .ok (.iload_n 1, 1) := by decide +kernel
theorem dX6_command_81 : decode cX6_command 81 = .ok (.iconst 5, 1) := by decide +kernel
theorem dX6_command_82 : decode cX6_command 82 = .ok (.if_icmp .ne 8, 3) := by decide +kernel
theorem dX6_command_85 : decode cX6_command 85 = .ok (.bipush 7, 2) := by decide +kernel
theorem dX6_command_87 : decode cX6_command 87 = .ok (.goto 4, 3) := by decide +kernel
theorem dX6_command_90 : decode cX6_command 90 = .ok (.iconst 2, 1) := by decide +kernel
theorem dX6_command_91 : decode cX6_command 91 = .ok (.putfield 55, 3) := by decide +kernel
theorem dX6_command_94 : decode cX6_command 94 = .ok (.aload_n 0, 1) := by decide +kernel
theorem dX6_command_95 : decode cX6_command 95 = .ok (.getfield 181, 3) := by decide +kernel
theorem dX6_command_98 : decode cX6_command 98 = .ok (.ifCond .eq 26, 3) := by decide +kernel
theorem dX6_command_101 : decode cX6_command 101 = .ok (.iload_n 1, 1) := by decide +kernel
theorem dX6_command_102 : decode cX6_command 102 = .ok (.iconst 3, 1) := by decide +kernel
theorem dX6_command_103 : decode cX6_command 103 = .ok (.if_icmp .eq 8, 3) := by decide +kernel
theorem dX6_command_106 : decode cX6_command 106 = .ok (.iload_n 1, 1) := by decide +kernel
theorem dX6_command_107 : decode cX6_command 107 = .ok (.iconst 5, 1) := by decide +kernel
theorem dX6_command_108 : decode cX6_command 108 = .ok (.if_icmp .ne 16, 3) := by decide +kernel
theorem dX6_command_111 : decode cX6_command 111 = .ok (.aload_n 0, 1) := by decide +kernel
theorem dX6_command_112 : decode cX6_command 112 = .ok (.bipush 64, 2) := by decide +kernel
theorem dX6_command_114 : decode cX6_command 114 = .ok (.invokevirtual 68, 3) := by decide +kernel
theorem dX6_command_117 : decode cX6_command 117 = .ok (.aload_n 0, 1) := by decide +kernel
theorem dX6_command_118 : decode cX6_command 118 = .ok (.invokevirtual 74, 3) := by decide +kernel
theorem dX6_command_121 : decode cX6_command 121 = .ok (.goto 13, 3) := by decide +kernel
theorem dX6_command_124 : decode cX6_command 124 = .ok (.iload_n 1, 1) := by decide +kernel
theorem dX6_command_125 : decode cX6_command 125 = .ok (.iconst 5, 1) := by decide +kernel
theorem dX6_command_126 : decode cX6_command 126 = .ok (.if_icmp .ne 8, 3) := by decide +kernel
theorem dX6_command_129 : decode cX6_command 129 = .ok (.aload_n 0, 1) := by decide +kernel
theorem dX6_command_130 : decode cX6_command 130 = .ok (.iconst 2, 1) := by decide +kernel
theorem dX6_command_131 : decode cX6_command 131 = .ok (.invokevirtual 68, 3) := by decide +kernel
theorem dX6_command_134 : decode cX6_command 134 = .ok (.iconst 1, 1) := by decide +kernel
theorem dX6_command_135 : decode cX6_command 135 = .ok (.ireturn, 1) := by decide +kernel
set_option maxRecDepth 20000 in
theorem ggX6_force_X6_has : GoodIn wsX6_force wsX6_has := goodIn_r _ [5, 6, 17, 18, 19, 20, 21, 22, 23, 24, 25, 26, 27, 28, 29, 30, 31, 32, 33, 34, 35, 36, 37, 38, 39, 40, 41, 42, 43, 44, 45, 46, 47, 48] (by decide +kernel) (by decide +kernel)
set_option maxRecDepth 20000 in
theorem gX6_force_X6_has : GoodIn wsX6_force (wsV RX6 64 RX6 yX6_has wsX6_has) := goodIn_app (goodIn_of _ (by decide +kernel)) ggX6_force_X6_has
set_option maxRecDepth 20000 in
theorem ggX6_force_X6_end : GoodIn wsX6_force wsX6_end := goodIn_r _ [10, 11, 12, 13, 14, 15, 4, 16, 6, 17, 18, 19, 20, 21, 22, 23, 24, 25, 26, 27, 28, 29, 30, 31, 32, 33, 34, 35, 36, 37, 38, 39, 40, 41, 42, 43, 44, 45, 46, 47, 48] (by decide +kernel) (by decide +kernel)
set_option maxRecDepth 20000 in
theorem gX6_force_X6_end : GoodIn wsX6_force (wsV RX6 74 RX6 yX6_end wsX6_end) := goodIn_app (goodIn_of _ (by decide +kernel)) ggX6_force_X6_end
theorem dX6_force_0 : decode cX6_force 0 = .ok (.aload_n 0, 1) := by decide +kernel
theorem dX6_force_1 : decode cX6_force 1 = .ok (.iconst 1, 1) := by decide +kernel
theorem dX6_force_2 : decode cX6_force 2 = .ok (.invokevirtual 64, 3) := by decide +kernel
theorem dX6_force_5 : decode cX6_force 5 = .ok (.ifCond .ne 5, 3) := by decide +kernel
theorem dX6_force_8 : decode cX6_force 8 = .ok (.iconst 0, 1) := by decide +kernel
theorem dX6_force_9 : decode cX6_force 9 = .ok (.ireturn, 1) := by decide +kernel
theorem dX6_force_10 : decode cX6_force 10 = .ok (.aload_n 0, 1) := by decide +kernel
theorem dX6_force_11 : decode cX6_force 11 = .ok (.invokevirtual 74, 3) := by decide +kernel
theorem dX6_force_14 : decode cX6_force 14 = .ok (.iconst 1, 1) := by decide +kernel
theorem dX6_force_15 : decode cX6_force 15 = .ok (.ireturn, 1) := by decide +kernel
set_option maxRecDepth 20000 in
theorem ggX6_set_X6_has : GoodIn wsX6_set wsX6_has := goodIn_r _ [7, 8, 9, 10, 11, 12, 13, 14, 15, 16, 17, 18, 19, 20, 21, 22, 23, 24, 25, 26, 27, 28, 29, 30, 31, 32, 33, 34, 35, 36, 37, 38, 39, 40] (by decide +kernel) (by decide +kernel)
set_option maxRecDepth 20000 in
theorem gX6_set_X6_has : GoodIn wsX6_set (wsV RX6 64 RX6 yX6_has wsX6_has) := goodIn_app (goodIn_of _ (by decide +kernel)) ggX6_set_X6_has
theorem dX6_set_0 : decode cX6_set 0 = .ok (.iload_n 1, 1) := by decide +kernel
theorem dX6_set_1 : decode cX6_set 1 = .ok (.ifCond .lt 27, 3) := by decide +kernel
theorem dX6_set_4 : decode cX6_set 4 = .ok (.iload_n 1, 1) := by decide +kernel
theorem dX6_set_5 : decode cX6_set 5 = .ok (.iconst 1, 1) := by decide +kernel
theorem dX6_set_6 : decode cX6_set 6 = .ok (.if_icmp .gt 22, 3) := by decide +kernel
theorem dX6_set_9 : decode cX6_set 9 = .ok (.iload_n 2, 1) := by decide +kernel
theorem dX6_set_10 : decode cX6_set 10 = .ok (.ifCond .lt 18, 3) := by decide +kernel
theorem dX6_set_13 : decode cX6_set 13 = .ok (.iload_n 2, 1) := by decide +kernel
theorem dX6_set_14 : decode cX6_set 14 = .ok (.sipush 255, 3) := by decide +kernel
theorem dX6_set_17 : decode cX6_set 17 = .ok (.if_icmp .gt 11, 3) := by decide +kernel
theorem dX6_set_20 : decode cX6_set 20 = .ok (.aload_n 0, 1) := by decide +kernel
theorem dX6_set_21 : decode cX6_set 21 = .ok (.iconst 1, 1) := by decide +kernel
theorem dX6_set_22 : decode cX6_set 22 = .ok (.invokevirtual 64, 3) := by decide +kernel
theorem dX6_set_25 : decode cX6_set 25 = .ok (.ifCond .eq 5, 3) := by decide +kernel
theorem dX6_set_28 : decode cX6_set 28 = .ok (.iconst 0, 1) := by decide +kernel
theorem dX6_set_29 : decode cX6_set 29 = .ok (.ireturn, 1) := by decide +kernel
theorem dX6_set_30 : decode cX6_set 30 = .ok (.aload_n 0, 1) := by decide +kernel
theorem dX6_set_31 : decode cX6_set 31 = .ok (.iload_n 1, 1) := by decide +kernel
theorem dX6_set_32 : decode cX6_set 32 = .ok (.ifCond .ne 7, 3) := by decide +kernel
theorem dX6_set_35 : decode cX6_set 35 = .ok (.iload_n 2, 1) := by decide +kernel
theorem dX6_set_36 : decode cX6_set 36 = .ok (.goto 7, 3) := by decide +kernel
theorem dX6_set_39 : decode cX6_set 39 = .ok (.aload_n 0, 1) := by decide +kernel
theorem dX6_set_40 : decode cX6_set 40 = .ok (.getfield 77, 3) := by decide +kernel
theorem dX6_set_43 : decode cX6_set 43 = .ok (.putfield 77, 3) := by decide +kernel
theorem dX6_set_46 : decode cX6_set 46 = .ok (.aload_n 0, 1) := by decide +kernel
theorem dX6_set_47 : decode cX6_set 47 = .ok (.iload_n 1, 1) := by decide +kernel
theorem dX6_set_48 : decode cX6_set 48 = .ok (.iconst 1, 1) := by decide +kernel
theorem dX6_set_49 : decode cX6_set 49 = .ok (.if_icmp .ne 7, 3) := by decide +kernel
theorem dX6_set_52 : decode cX6_set 52 = .ok (.iload_n 2, 1) := by decide +kernel
theorem dX6_set_53 : decode cX6_set 53 = .ok (.goto 7, 3) := by decide +kernel
theorem dX6_set_56 : decode cX6_set 56 = .ok (.aload_n 0, 1) := by decide +kernel
theorem dX6_set_57 : decode cX6_set 57 = .ok (.getfield 71, 3) := by decide +kernel
theorem dX6_set_60 : decode cX6_set 60 = .ok (.putfield 71, 3) := by decide +kernel
theorem dX6_set_63 : decode cX6_set 63 = .ok (.iconst 1, 1) := by decide +kernel
theorem dX6_set_64 : decode cX6_set 64 = .ok (.ireturn, 1) := by decide +kernel
set_option maxRecDepth 20000 in
theorem ggX6_give_X6_drop : GoodIn wsX6_give wsX6_drop := goodIn_r _ [6, 7, 8, 9, 10, 11, 12, 13, 14, 15, 16, 17, 18, 19, 20, 21, 22, 23, 24, 25, 26, 27, 28, 29, 30, 31, 32, 33, 34, 35, 36, 37, 38, 39] (by decide +kernel) (by decide +kernel)
set_option maxRecDepth 20000 in
theorem gX6_give_X6_drop : GoodIn wsX6_give (wsV RX6 51 RX6 yX6_drop wsX6_drop) := goodIn_app (goodIn_of _ (by decide +kernel)) ggX6_give_X6_drop
theorem dX6_give_0 : decode cX6_give 0 = .ok (.iload_n 1, 1) := by decide +kernel
theorem dX6_give_1 : decode cX6_give 1 = .ok (.ifCond .lt 10, 3) := by decide +kernel
theorem dX6_give_4 : decode cX6_give 4 = .ok (.iload_n 1, 1) := by decide +kernel
theorem dX6_give_5 : decode cX6_give 5 = .ok (.sipush 255, 3) := by decide +kernel
theorem dX6_give_8 : decode cX6_give 8 = .ok (.if_icmp .le 5, 3) := by decide +kernel
theorem dX6_give_11 : decode cX6_give 11 = .ok (.iconst 0, 1) := by decide +kernel
theorem dX6_give_12 : decode cX6_give 12 = .ok (.ireturn, 1) := by decide +kernel
theorem dX6_give_13 : decode cX6_give 13 = .ok (.aload_n 0, 1) := by decide +kernel
theorem dX6_give_14 : decode cX6_give 14 = .ok (.iload_n 1, 1) := by decide +kernel
theorem dX6_give_15 : decode cX6_give 15 = .ok (.putfield 61, 3) := by decide +kernel
theorem dX6_give_18 : decode cX6_give 18 = .ok (.aload_n 0, 1) := by decide +kernel
theorem dX6_give_19 : decode cX6_give 19 = .ok (.iconst 2, 1) := by decide +kernel
theorem dX6_give_20 : decode cX6_give 20 = .ok (.invokevirtual 51, 3) := by decide +kernel
theorem dX6_give_23 : decode cX6_give 23 = .ok (.iconst 1, 1) := by decide +kernel
theorem dX6_give_24 : decode cX6_give 24 = .ok (.ireturn, 1) := by decide +kernel
set_option maxRecDepth 20000 in
theorem ggX6_take_X6_drop : GoodIn wsX6_take wsX6_drop := goodIn_r _ [6, 7, 8, 9, 10, 11, 12, 13, 14, 15, 16, 17, 18, 19, 20, 21, 22, 23, 24, 25, 26, 27, 28, 29, 30, 31, 32, 33, 34, 35, 36, 37, 38, 39] (by decide +kernel) (by decide +kernel)
set_option maxRecDepth 20000 in
theorem gX6_take_X6_drop : GoodIn wsX6_take (wsV RX6 51 RX6 yX6_drop wsX6_drop) := goodIn_app (goodIn_of _ (by decide +kernel)) ggX6_take_X6_drop
theorem dX6_take_0 : decode cX6_take 0 = .ok (.aload_n 0, 1) := by decide +kernel
theorem dX6_take_1 : decode cX6_take 1 = .ok (.iconst 2, 1) := by decide +kernel
theorem dX6_take_2 : decode cX6_take 2 = .ok (.invokevirtual 51, 3) := by decide +kernel
theorem dX6_take_5 : decode cX6_take 5 = .ok (.aload_n 0, 1) := by decide +kernel
theorem dX6_take_6 : decode cX6_take 6 = .ok (.getfield 61, 3) := by decide +kernel
theorem dX6_take_9 : decode cX6_take 9 = .ok (.ireturn, 1) := by decide +kernel
set_option maxRecDepth 20000 in
theorem ggX6_run_X6_pass : GoodIn wsX6_run wsX6_pass := goodIn_r _ [5, 6, 7, 8, 9, 10, 4, 11, 12, 13, 14, 15, 16, 17, 18, 19, 20, 21, 22, 23, 24, 25, 26, 27, 28, 29, 30, 31, 32, 33, 34, 35, 36, 37, 38, 39, 40, 41, 42, 43, 44, 45, 46, 47, 48, 49, 50, 51, 52, 53, 54, 55, 56, 57, 58, 59, 60, 61, 62, 63, 64, 65, 66, 67, 68, 69, 70, 71, 72, 73, 74, 75, 76, 77, 78, 79, 80, 81, 82, 83, 84, 85, 86, 87, 88, 89, 90, 91, 92, 93, 94, 95, 96, 97, 98, 99, 100, 101, 102, 103, 104, 105, 106, 107, 108, 109, 110, 111, 112, 113, 114, 115, 116, 117, 118, 119, 120, 121, 122, 123, 124, 125, 126, 127, 128, 129, 130, 131, 132, 133, 134, 135, 136, 137, 138, 139, 140, 141, 142, 143, 144, 145, 146, 147, 148, 149, 150, 151, 152, 153, 154, 155, 156, 157, 158, 159, 160, 161] (by decide +kernel) (by decide +kernel)
set_option maxRecDepth 20000 in
theorem gX6_run_X6_pass : GoodIn wsX6_run (wsV RX6 184 RX6 yX6_pass wsX6_pass) := goodIn_app (goodIn_of _ (by decide +kernel)) ggX6_run_X6_pass
theorem dX6_run_0 : decode cX6_run 0 = .ok (.iload_n 1, 1) := by decide +kernel
theorem dX6_run_1 : decode cX6_run 1 = .ok (.ifCond .lt 10, 3) := by decide +kernel
theorem dX6_run_4 : decode cX6_run 4 = .ok (.iload_n 1, 1) := by decide +kernel
theorem dX6_run_5 : decode cX6_run 5 = .ok (.sipush 200, 3) := by decide +kernel
theorem dX6_run_8 : decode cX6_run 8 = .ok (.if_icmp .le 5, 3) := by decide +kernel
theorem dX6_run_11 : decode cX6_run 11 = .ok (.iconst (-1), 1) := by decide +kernel
theorem dX6_run_12 : decode cX6_run 12 = .ok (.ireturn, 1) := by decide +kernel
theorem dX6_run_13 : decode cX6_run 13 = .ok (.iconst 0, 1) := by decide +kernel
theorem dX6_run_14 : decode cX6_run 14 = .ok (.istore_n 2, 1) := by decide +kernel
theorem dX6_run_15 : decode cX6_run 15 = .ok (.iconst 0, 1) := by decide +kernel
theorem dX6_run_16 : decode cX6_run 16 = .ok (.istore_n 3, 1) := by decide +kernel
theorem dX6_run_17 : decode cX6_run 17 = .ok (.iload_n 3, 1) := by decide +kernel
theorem dX6_run_18 : decode cX6_run 18 = .ok (.iload_n 1, 1) := by decide +kernel
theorem dX6_run_19 : decode cX6_run 19 = .ok (.if_icmp .ge 16, 3) := by decide +kernel
theorem dX6_run_22 : decode cX6_run 22 = .ok (.iload_n 2, 1) := by decide +kernel
theorem dX6_run_23 : decode cX6_run 23 = .ok (.aload_n 0, 1) := by decide +kernel
theorem dX6_run_24 : decode cX6_run 24 = .ok (.invokevirtual 184, 3) := by decide +kernel
theorem dX6_run_27 : decode cX6_run 27 = .ok (.iadd, 1) := by decide +kernel
theorem dX6_run_28 : decode cX6_run 28 = .ok (.istore_n 2, 1) := by decide +kernel
theorem dX6_run_29 : decode cX6_run 29 = .ok (.iinc 3 1, 3) := by decide +kernel
theorem dX6_run_32 : decode cX6_run 32 = .ok (.goto (-15), 3) := by decide +kernel
theorem dX6_run_35 : decode cX6_run 35 = .ok (.iload_n 2, 1) := by decide +kernel
theorem dX6_run_36 : decode cX6_run 36 = .ok (.ireturn, 1) := by decide +kernel
set_option maxRecDepth 20000 in
theorem ggX6_serve_X6_pass : GoodIn wsX6_serve wsX6_pass := goodIn_r _ [9, 10, 11, 12, 13, 14, 8, 15, 16, 17, 18, 19, 20, 21, 22, 23, 24, 25, 26, 27, 28, 29, 30, 31, 32, 33, 34, 35, 36, 37, 38, 39, 40, 41, 42, 43, 44, 45, 46, 47, 48, 49, 50, 51, 52, 53, 54, 55, 56, 57, 58, 59, 60, 61, 62, 63, 64, 65, 66, 67, 68, 69, 70, 71, 72, 73, 74, 75, 76, 77, 78, 79, 80, 81, 82, 83, 84, 85, 86, 87, 1, 88, 89, 90, 91, 92, 93, 94, 95, 96, 97, 98, 99, 100, 101, 102, 103, 104, 105, 106, 107, 108, 109, 110, 111, 112, 113, 114, 115, 116, 117, 118, 119, 120, 121, 122, 123, 124, 125, 126, 127, 128, 129, 130, 131, 132, 141, 142, 143, 144, 145, 146, 147, 148, 149, 150, 151, 152, 153, 154, 155, 156, 157, 158, 159, 160, 161, 162, 163, 164, 165, 166, 167, 168, 169, 170, 171, 172] (by decide +kernel) (by decide +kernel)
set_option maxRecDepth 20000 in
theorem gX6_serve_X6_pass : GoodIn wsX6_serve (wsV RX6 184 RX6 yX6_pass wsX6_pass) := goodIn_app (goodIn_of _ (by decide +kernel)) ggX6_serve_X6_pass
set_option maxRecDepth 20000 in
theorem ggX6_serve_X6_has : GoodIn wsX6_serve wsX6_has := goodIn_r _ [53, 54, 141, 142, 143, 144, 145, 146, 147, 148, 149, 150, 151, 152, 153, 154, 155, 156, 157, 158, 159, 160, 161, 162, 163, 164, 165, 166, 167, 168, 169, 170, 171, 172] (by decide +kernel) (by decide +kernel)
set_option maxRecDepth 20000 in
theorem gX6_serve_X6_has : GoodIn wsX6_serve (wsV RX6 64 RX6 yX6_has wsX6_has) := goodIn_app (goodIn_of _ (by decide +kernel)) ggX6_serve_X6_has
set_option maxRecDepth 20000 in
theorem ggX6_serve_X6_take : GoodIn wsX6_serve wsX6_take := goodIn_r _ [136, 49, 70, 71, 72, 8, 73, 54, 141, 142, 143, 144, 145, 146, 147, 148, 149, 150, 151, 152, 153, 154, 155, 156, 157, 158, 159, 160, 161, 162, 163, 164, 165, 166, 167, 168, 169, 170, 171, 172] (by decide +kernel) (by decide +kernel)
set_option maxRecDepth 20000 in
theorem gX6_serve_X6_take : GoodIn wsX6_serve (wsV RX6 187 RX6 yX6_take wsX6_take) := goodIn_app (goodIn_of _ (by decide +kernel)) ggX6_serve_X6_take
set_option maxRecDepth 20000 in
theorem ggX6_serve_X6_give : GoodIn wsX6_serve wsX6_give := goodIn_r _ [140, 49, 70, 71, 72, 8, 73, 54, 141, 142, 143, 144, 145, 146, 147, 148, 149, 150, 151, 152, 153, 154, 155, 156, 157, 158, 159, 160, 161, 162, 163, 164, 165, 166, 167, 168, 169, 170, 171, 172] (by decide +kernel) (by decide +kernel)
set_option maxRecDepth 20000 in
theorem gX6_serve_X6_give : GoodIn wsX6_serve (wsV RX6 196 RX6 yX6_give wsX6_give) := goodIn_app (goodIn_of _ (by decide +kernel)) ggX6_serve_X6_give
theorem dX6_serve_0 : decode cX6_serve 0 = .ok (.iload_n 1, 1) := by decide +kernel
theorem dX6_serve_1 : decode cX6_serve 1 = .ok (.ifCond .lt 10, 3) := by decide +kernel
theorem dX6_serve_4 : decode cX6_serve 4 = .ok (.iload_n 1, 1) := by decide +kernel
theorem dX6_serve_5 : decode cX6_serve 5 = .ok (.sipush 200, 3) := by decide +kernel
theorem dX6_serve_8 : decode cX6_serve 8 = .ok (.if_icmp .le 5, 3) := by decide +kernel
theorem dX6_serve_11 : decode cX6_serve 11 = .ok (.iconst (-1), 1) := by decide +kernel
theorem dX6_serve_12 : decode cX6_serve 12 = .ok (.ireturn, 1) := by decide +kernel
theorem dX6_serve_13 : decode cX6_serve 13 = .ok (.iconst 0, 1) := by decide +kernel
theorem dX6_serve_14 : decode cX6_serve 14 = .ok (.istore_n 2, 1) := by decide +kernel
theorem dX6_serve_15 : decode cX6_serve 15 = .ok (.iconst 0, 1) := by decide +kernel
theorem dX6_serve_16 : decode cX6_serve 16 = .ok (.istore_n 3, 1) := by decide +kernel
theorem dX6_serve_17 : decode cX6_serve 17 = .ok (.iload_n 3, 1) := by decide +kernel
theorem dX6_serve_18 : decode cX6_serve 18 = .ok (.iload_n 1, 1) := by decide +kernel
theorem dX6_serve_19 : decode cX6_serve 19 = .ok (.if_icmp .ge 185, 3) := by decide +kernel
theorem dX6_serve_22 : decode cX6_serve 22 = .ok (.aload_n 0, 1) := by decide +kernel
theorem dX6_serve_23 : decode cX6_serve 23 = .ok (.invokevirtual 184, 3) := by decide +kernel
theorem dX6_serve_26 : decode cX6_serve 26 = .ok (.istore 4, 2) := by decide +kernel
theorem dX6_serve_28 : decode cX6_serve 28 = .ok (.aload_n 0, 1) := by decide +kernel
theorem dX6_serve_29 : decode cX6_serve 29 = .ok (.getfield 21, 3) := by decide +kernel
theorem dX6_serve_32 : decode cX6_serve 32 = .ok (.iconst 2, 1) := by decide +kernel
theorem dX6_serve_33 : decode cX6_serve 33 = .ok (.if_icmp .eq 11, 3) := by decide +kernel
theorem dX6_serve_36 : decode cX6_serve 36 = .ok (.aload_n 0, 1) := by decide +kernel
theorem dX6_serve_37 : decode cX6_serve 37 = .ok (.getfield 21, 3) := by decide +kernel
theorem dX6_serve_40 : decode cX6_serve 40 = .ok (.iconst 4, 1) := by decide +kernel
theorem dX6_serve_41 : decode cX6_serve 41 = .ok (.if_icmp .ne 7, 3) := by decide +kernel
theorem dX6_serve_44 : decode cX6_serve 44 = .ok (.iconst 1, 1) := by decide +kernel
theorem dX6_serve_45 : decode cX6_serve 45 = .ok (.goto 4, 3) := by decide +kernel
theorem dX6_serve_48 : decode cX6_serve 48 = .ok (.iconst 0, 1) := by decide +kernel
theorem dX6_serve_49 : decode cX6_serve 49 = .ok (.istore 5, 2) := by decide +kernel
theorem dX6_serve_51 : decode cX6_serve 51 = .ok (.aload_n 0, 1) := by decide +kernel
theorem dX6_serve_52 : decode cX6_serve 52 = .ok (.iconst 2, 1) := by decide +kernel
theorem dX6_serve_53 : decode cX6_serve 53 = .ok (.invokevirtual 64, 3) := by decide +kernel
theorem dX6_serve_56 : decode cX6_serve 56 = .ok (.ifCond .eq 51, 3) := by decide +kernel
theorem dX6_serve_59 : decode cX6_serve 59 = .ok (.iload 5, 2) := by decide +kernel
theorem dX6_serve_61 : decode cX6_serve 61 = .ok (.ifCond .eq 46, 3) := by decide +kernel
theorem dX6_serve_64 : decode cX6_serve 64 = .ok (.aload_n 0, 1) := by decide +kernel
theorem dX6_serve_65 : decode cX6_serve 65 = .ok (.invokevirtual 187, 3) := by decide +kernel
theorem dX6_serve_68 : decode cX6_serve 68 = .ok (.istore 6, 2) := by decide +kernel
theorem dX6_serve_70 : decode cX6_serve 70 = .ok (.aload_n 0, 1) := by decide +kernel
theorem dX6_serve_71 : decode cX6_serve 71 = .ok (.getfield 190, 3) := by decide +kernel
theorem dX6_serve_74 : decode cX6_serve 74 = .ok (.sipush 200, 3) := by decide +kernel
theorem dX6_serve_77 : decode cX6_serve 77 = .ok (.if_icmp .ge 24, 3) := by decide +kernel
theorem dX6_serve_80 : decode cX6_serve 80 = .ok (.aload_n 0, 1) := by decide +kernel
theorem dX6_serve_81 : decode cX6_serve 81 = .ok (.getfield 24, 3) := by decide +kernel
theorem dX6_serve_84 : decode cX6_serve 84 = .ok (.aload_n 0, 1) := by decide +kernel
theorem dX6_serve_85 : decode cX6_serve 85 = .ok (.getfield 190, 3) := by decide +kernel
theorem dX6_serve_88 : decode cX6_serve 88 = .ok (.iload 6, 2) := by decide +kernel
theorem dX6_serve_90 : decode cX6_serve 90 = .ok (.iastore, 1) := by decide +kernel
theorem dX6_serve_91 : decode cX6_serve 91 = .ok (.aload_n 0, 1) := by decide +kernel
theorem dX6_serve_92 : decode cX6_serve 92 = .ok (.dup, 1) := by decide +kernel
theorem dX6_serve_93 : decode cX6_serve 93 = .ok (.getfield 190, 3) := by decide +kernel
theorem dX6_serve_96 : decode cX6_serve 96 = .ok (.iconst 1, 1) := by decide +kernel
theorem dX6_serve_97 : decode cX6_serve 97 = .ok (.iadd, 1) := by decide +kernel
theorem dX6_serve_98 : decode cX6_serve 98 = .ok (.putfield 190, 3) := by decide +kernel
theorem dX6_serve_101 : decode cX6_serve 101 = .ok (.iinc 2 1, 3) := by decide +kernel
theorem dX6_serve_104 : decode cX6_serve 104 = .ok (.goto 94, 3) := by decide +kernel
theorem dX6_serve_107 : decode cX6_serve 107 = .ok (.aload_n 0, 1) := by decide +kernel
theorem dX6_serve_108 : decode cX6_serve 108 = .ok (.iconst 2, 1) := by decide +kernel
theorem dX6_serve_109 : decode cX6_serve 109 = .ok (.invokevirtual 64, 3) := by decide +kernel
theorem dX6_serve_112 : decode cX6_serve 112 = .ok (.ifCond .eq 86, 3) := by decide +kernel
theorem dX6_serve_115 : decode cX6_serve 115 = .ok (.aload_n 0, 1) := by decide +kernel
theorem dX6_serve_116 : decode cX6_serve 116 = .ok (.getfield 21, 3) := by decide +kernel
theorem dX6_serve_119 : decode cX6_serve 119 = .ok (.iconst 3, 1) := by decide +kernel
theorem dX6_serve_120 : decode cX6_serve 120 = .ok (.if_icmp .eq 11, 3) := by decide +kernel
theorem dX6_serve_123 : decode cX6_serve 123 = .ok (.aload_n 0, 1) := by decide +kernel
theorem dX6_serve_124 : decode cX6_serve 124 = .ok (.getfield 21, 3) := by decide +kernel
theorem dX6_serve_127 : decode cX6_serve 127 = .ok (.iconst 5, 1) := by decide +kernel
theorem dX6_serve_128 : decode cX6_serve 128 = .ok (.if_icmp .ne 70, 3) := by decide +kernel
theorem dX6_serve_131 : decode cX6_serve 131 = .ok (.aload_n 0, 1) := by decide +kernel
theorem dX6_serve_132 : decode cX6_serve 132 = .ok (.getfield 193, 3) := by decide +kernel
theorem dX6_serve_135 : decode cX6_serve 135 = .ok (.aload_n 0, 1) := by decide +kernel
theorem dX6_serve_136 : decode cX6_serve 136 = .ok (.getfield 190, 3) := by decide +kernel
theorem dX6_serve_139 : decode cX6_serve 139 = .ok (.if_icmp .ge 7, 3) := by decide +kernel
theorem dX6_serve_142 : decode cX6_serve 142 = .ok (.iconst 1, 1) := by decide +kernel
theorem dX6_serve_143 : decode cX6_serve 143 = .ok (.goto 4, 3) := by decide +kernel
theorem dX6_serve_146 : decode cX6_serve 146 = .ok (.iconst 0, 1) := by decide +kernel
theorem dX6_serve_147 : decode cX6_serve 147 = .ok (.istore 6, 2) := by decide +kernel
theorem dX6_serve_149 : decode cX6_serve 149 = .ok (.aload_n 0, 1) := by decide +kernel
theorem dX6_serve_150 : decode cX6_serve 150 = .ok (.iload 6, 2) := by decide +kernel
theorem dX6_serve_152 : decode cX6_serve 152 = .ok (.ifCond .eq 15, 3) := by decide +kernel
theorem dX6_serve_155 : decode cX6_serve 155 = .ok (.aload_n 0, 1) := by decide +kernel
theorem dX6_serve_156 : decode cX6_serve 156 = .ok (.getfield 24, 3) := by decide +kernel
theorem dX6_serve_159 : decode cX6_serve 159 = .ok (.aload_n 0, 1) := by decide +kernel
theorem dX6_serve_160 : decode cX6_serve 160 = .ok (.getfield 193, 3) := by decide +kernel
theorem dX6_serve_163 : decode cX6_serve 163 = .ok (.iaload, 1) := by decide +kernel
theorem dX6_serve_164 : decode cX6_serve 164 = .ok (.goto 4, 3) := by decide +kernel
theorem dX6_serve_167 : decode cX6_serve 167 = .ok (.iconst 0, 1) := by decide +kernel
theorem dX6_serve_168 : decode cX6_serve 168 = .ok (.invokevirtual 196, 3) := by decide +kernel
theorem dX6_serve_171 : decode cX6_serve 171 = .ok (.istore 7, 2) := by decide +kernel
theorem dX6_serve_173 : decode cX6_serve 173 = .ok (.aload_n 0, 1) := by decide +kernel
theorem dX6_serve_174 : decode cX6_serve 174 = .ok (.iload 6, 2) := by decide +kernel
theorem dX6_serve_176 : decode cX6_serve 176 = .ok (.ifCond .eq 12, 3) := by decide +kernel
theorem dX6_serve_179 : decode cX6_serve 179 = .ok (.aload_n 0, 1) := by decide +kernel
theorem dX6_serve_180 : decode cX6_serve 180 = .ok (.getfield 193, 3) := by decide +kernel
theorem dX6_serve_183 : decode cX6_serve 183 = .ok (.iconst 1, 1) := by decide +kernel
theorem dX6_serve_184 : decode cX6_serve 184 = .ok (.iadd, 1) := by decide +kernel
theorem dX6_serve_185 : decode cX6_serve 185 = .ok (.goto 7, 3) := by decide +kernel
theorem dX6_serve_188 : decode cX6_serve 188 = .ok (.aload_n 0, 1) := by decide +kernel
theorem dX6_serve_189 : decode cX6_serve 189 = .ok (.getfield 193, 3) := by decide +kernel
theorem dX6_serve_192 : decode cX6_serve 192 = .ok (.putfield 193, 3) := by decide +kernel
theorem dX6_serve_195 : decode cX6_serve 195 = .ok (.iinc 2 1, 3) := by decide +kernel
theorem dX6_serve_198 : decode cX6_serve 198 = .ok (.iinc 3 1, 3) := by decide +kernel
theorem dX6_serve_201 : decode cX6_serve 201 = .ok (.goto (-184), 3) := by decide +kernel
theorem dX6_serve_204 : decode cX6_serve 204 = .ok (.iload_n 2, 1) := by decide +kernel
theorem dX6_serve_205 : decode cX6_serve 205 = .ok (.ireturn, 1) := by decide +kernel
theorem dX6_clear_0 : decode cX6_clear 0 = .ok (.aload_n 0, 1) := by decide +kernel
theorem dX6_clear_1 : decode cX6_clear 1 = .ok (.iconst 0, 1) := by decide +kernel
theorem dX6_clear_2 : decode cX6_clear 2 = .ok (.putfield 190, 3) := by decide +kernel
theorem dX6_clear_5 : decode cX6_clear 5 = .ok (.aload_n 0, 1) := by decide +kernel
theorem dX6_clear_6 : decode cX6_clear 6 = .ok (.iconst 0, 1) := by decide +kernel
theorem dX6_clear_7 : decode cX6_clear 7 = .ok (.putfield 193, 3) := by decide +kernel
theorem dX6_clear_10 : decode cX6_clear 10 = .ok (.return_, 1) := by decide +kernel
theorem dX6_fill_0 : decode cX6_fill 0 = .ok (.iload_n 1, 1) := by decide +kernel
theorem dX6_fill_1 : decode cX6_fill 1 = .ok (.ifCond .lt 33, 3) := by decide +kernel
theorem dX6_fill_4 : decode cX6_fill 4 = .ok (.iload_n 1, 1) := by decide +kernel
theorem dX6_fill_5 : decode cX6_fill 5 = .ok (.sipush 255, 3) := by decide +kernel
theorem dX6_fill_8 : decode cX6_fill 8 = .ok (.if_icmp .gt 26, 3) := by decide +kernel
theorem dX6_fill_11 : decode cX6_fill 11 = .ok (.iload_n 2, 1) := by decide +kernel
theorem dX6_fill_12 : decode cX6_fill 12 = .ok (.iconst 1, 1) := by decide +kernel
theorem dX6_fill_13 : decode cX6_fill 13 = .ok (.if_icmp .lt 21, 3) := by decide +kernel
theorem dX6_fill_16 : decode cX6_fill 16 = .ok (.iload_n 2, 1) := by decide +kernel
theorem dX6_fill_17 : decode cX6_fill 17 = .ok (.bipush 100, 2) := by decide +kernel
theorem dX6_fill_19 : decode cX6_fill 19 = .ok (.if_icmp .gt 15, 3) := by decide +kernel
theorem dX6_fill_22 : decode cX6_fill 22 = .ok (.aload_n 0, 1) := by decide +kernel
theorem dX6_fill_23 : decode cX6_fill 23 = .ok (.getfield 190, 3) := by decide +kernel
theorem dX6_fill_26 : decode cX6_fill 26 = .ok (.iload_n 2, 1) := by decide +kernel
theorem dX6_fill_27 : decode cX6_fill 27 = .ok (.iadd, 1) := by decide +kernel
theorem dX6_fill_28 : decode cX6_fill 28 = .ok (.sipush 200, 3) := by decide +kernel
theorem dX6_fill_31 : decode cX6_fill 31 = .ok (.if_icmp .le 5, 3) := by decide +kernel
theorem dX6_fill_34 : decode cX6_fill 34 = .ok (.iconst 0, 1) := by decide +kernel
theorem dX6_fill_35 : decode cX6_fill 35 = .ok (.ireturn, 1) := by decide +kernel
theorem dX6_fill_36 : decode cX6_fill 36 = .ok (.iconst 0, 1) := by decide +kernel
theorem dX6_fill_37 : decode cX6_fill 37 = .ok (.istore_n 3, 1) := by decide +kernel
theorem dX6_fill_38 : decode cX6_fill 38 = .ok (.iload_n 3, 1) := by decide +kernel
theorem dX6_fill_39 : decode cX6_fill 39 = .ok (.iload_n 2, 1) := by decide +kernel
theorem dX6_fill_40 : decode cX6_fill 40 = .ok (.if_icmp .ge 29, 3) := by decide +kernel
theorem dX6_fill_43 : decode cX6_fill 43 = .ok (.aload_n 0, 1) := by decide +kernel
theorem dX6_fill_44 : decode cX6_fill 44 = .ok (.getfield 24, 3) := by decide +kernel
theorem dX6_fill_47 : decode cX6_fill 47 = .ok (.aload_n 0, 1) := by decide +kernel
theorem dX6_fill_48 : decode cX6_fill 48 = .ok (.getfield 190, 3) := by decide +kernel
theorem dX6_fill_51 : decode cX6_fill 51 = .ok (.iload_n 1, 1) := by decide +kernel
theorem dX6_fill_52 : decode cX6_fill 52 = .ok (.iastore, 1) := by decide +kernel
theorem dX6_fill_53 : decode cX6_fill 53 = .ok (.aload_n 0, 1) := by decide +kernel
theorem dX6_fill_54 : decode cX6_fill 54 = .ok (.dup, 1) := by decide +kernel
theorem dX6_fill_55 : decode cX6_fill 55 = .ok (.getfield 190, 3) := by decide +kernel
theorem dX6_fill_58 : decode cX6_fill 58 = .ok (.iconst 1, 1) := by decide +kernel
theorem dX6_fill_59 : decode cX6_fill 59 = .ok (.iadd, 1) := by decide +kernel
theorem dX6_fill_60 : decode cX6_fill 60 = .ok (.putfield 190, 3) := by decide +kernel
theorem dX6_fill_63 : decode cX6_fill 63 = .ok (.iinc 3 1, 3) := by decide +kernel
theorem dX6_fill_66 : decode cX6_fill 66 = .ok (.goto (-28), 3) := by decide +kernel
theorem dX6_fill_69 : decode cX6_fill 69 = .ok (.iconst 1, 1) := by decide +kernel
theorem dX6_fill_70 : decode cX6_fill 70 = .ok (.ireturn, 1) := by decide +kernel
theorem dX6_buffer_0 : decode cX6_buffer 0 = .ok (.iload_n 1, 1) := by decide +kernel
theorem dX6_buffer_1 : decode cX6_buffer 1 = .ok (.iconst (-1), 1) := by decide +kernel
theorem dX6_buffer_2 : decode cX6_buffer 2 = .ok (.if_icmp .ne 10, 3) := by decide +kernel
theorem dX6_buffer_5 : decode cX6_buffer 5 = .ok (.aload_n 0, 1) := by decide +kernel
theorem dX6_buffer_6 : decode cX6_buffer 6 = .ok (.getfield 190, 3) := by decide +kernel
theorem dX6_buffer_9 : decode cX6_buffer 9 = .ok (.goto 25, 3) := by decide +kernel
theorem dX6_buffer_12 : decode cX6_buffer 12 = .ok (.iload_n 1, 1) := by decide +kernel
theorem dX6_buffer_13 : decode cX6_buffer 13 = .ok (.ifCond .lt 11, 3) := by decide +kernel
theorem dX6_buffer_16 : decode cX6_buffer 16 = .ok (.iload_n 1, 1) := by decide +kernel
theorem dX6_buffer_17 : decode cX6_buffer 17 = .ok (.aload_n 0, 1) := by decide +kernel
theorem dX6_buffer_18 : decode cX6_buffer 18 = .ok (.getfield 190, 3) := by decide +kernel
theorem dX6_buffer_21 : decode cX6_buffer 21 = .ok (.if_icmp .lt 7, 3) := by decide +kernel
theorem dX6_buffer_24 : decode cX6_buffer 24 = .ok (.iconst (-1), 1) := by decide +kernel
theorem dX6_buffer_25 : decode cX6_buffer 25 = .ok (.goto 9, 3) := by decide +kernel
theorem dX6_buffer_28 : decode cX6_buffer 28 = .ok (.aload_n 0, 1) := by decide +kernel
theorem dX6_buffer_29 : decode cX6_buffer 29 = .ok (.getfield 24, 3) := by decide +kernel
theorem dX6_buffer_32 : decode cX6_buffer 32 = .ok (.iload_n 1, 1) := by decide +kernel
theorem dX6_buffer_33 : decode cX6_buffer 33 = .ok (.iaload, 1) := by decide +kernel
theorem dX6_buffer_34 : decode cX6_buffer 34 = .ok (.ireturn, 1) := by decide +kernel
theorem dX6_protect_0 : decode cX6_protect 0 = .ok (.aload_n 0, 1) := by decide +kernel
theorem dX6_protect_1 : decode cX6_protect 1 = .ok (.iload_n 1, 1) := by decide +kernel
theorem dX6_protect_2 : decode cX6_protect 2 = .ok (.putfield 181, 3) := by decide +kernel
theorem dX6_protect_5 : decode cX6_protect 5 = .ok (.return_, 1) := by decide +kernel
theorem dX6_spoil_0 : decode cX6_spoil 0 = .ok (.iload_n 1, 1) := by decide +kernel
theorem dX6_spoil_1 : decode cX6_spoil 1 = .ok (.ifCond .lt 19, 3) := by decide +kernel
theorem dX6_spoil_4 : decode cX6_spoil 4 = .ok (.iload_n 1, 1) := by decide +kernel
theorem dX6_spoil_5 : decode cX6_spoil 5 = .ok (.iconst 3, 1) := by decide +kernel
theorem dX6_spoil_6 : decode cX6_spoil 6 = .ok (.if_icmp .gt 14, 3) := by decide +kernel
theorem dX6_spoil_9 : decode cX6_spoil 9 = .ok (.iload_n 2, 1) := by decide +kernel
theorem dX6_spoil_10 : decode cX6_spoil 10 = .ok (.ifCond .lt 10, 3) := by decide +kernel
theorem dX6_spoil_13 : decode cX6_spoil 13 = .ok (.iload_n 2, 1) := by decide +kernel
theorem dX6_spoil_14 : decode cX6_spoil 14 = .ok (.sipush 2400, 3) := by decide +kernel
theorem dX6_spoil_17 : decode cX6_spoil 17 = .ok (.if_icmp .lt 5, 3) := by decide +kernel
theorem dX6_spoil_20 : decode cX6_spoil 20 = .ok (.iconst 0, 1) := by decide +kernel
theorem dX6_spoil_21 : decode cX6_spoil 21 = .ok (.ireturn, 1) := by decide +kernel
theorem dX6_spoil_22 : decode cX6_spoil 22 = .ok (.aload_n 0, 1) := by decide +kernel
theorem dX6_spoil_23 : decode cX6_spoil 23 = .ok (.getfield 7, 3) := by decide +kernel
theorem dX6_spoil_26 : decode cX6_spoil 26 = .ok (.sipush 2400, 3) := by decide +kernel
theorem dX6_spoil_29 : decode cX6_spoil 29 = .ok (.iload_n 1, 1) := by decide +kernel
theorem dX6_spoil_30 : decode cX6_spoil 30 = .ok (.imul, 1) := by decide +kernel
theorem dX6_spoil_31 : decode cX6_spoil 31 = .ok (.iload_n 2, 1) := by decide +kernel
theorem dX6_spoil_32 : decode cX6_spoil 32 = .ok (.iadd, 1) := by decide +kernel
theorem dX6_spoil_33 : decode cX6_spoil 33 = .ok (.aload_n 0, 1) := by decide +kernel
theorem dX6_spoil_34 : decode cX6_spoil 34 = .ok (.getfield 7, 3) := by decide +kernel
theorem dX6_spoil_37 : decode cX6_spoil 37 = .ok (.sipush 2400, 3) := by decide +kernel
theorem dX6_spoil_40 : decode cX6_spoil 40 = .ok (.iload_n 1, 1) := by decide +kernel
theorem dX6_spoil_41 : decode cX6_spoil 41 = .ok (.imul, 1) := by decide +kernel
theorem dX6_spoil_42 : decode cX6_spoil 42 = .ok (.iload_n 2, 1) := by decide +kernel
theorem dX6_spoil_43 : decode cX6_spoil 43 = .ok (.iadd, 1) := by decide +kernel
theorem dX6_spoil_44 : decode cX6_spoil 44 = .ok (.baload, 1) := by decide +kernel
theorem dX6_spoil_45 : decode cX6_spoil 45 = .ok (.ifCond .ne 7, 3) := by decide +kernel
theorem dX6_spoil_48 : decode cX6_spoil 48 = .ok (.iconst 1, 1) := by decide +kernel
theorem dX6_spoil_49 : decode cX6_spoil 49 = .ok (.goto 4, 3) := by decide +kernel
theorem dX6_spoil_52 : decode cX6_spoil 52 = .ok (.iconst 0, 1) := by decide +kernel
theorem dX6_spoil_53 : decode cX6_spoil 53 = .ok (.bastore, 1) := by decide +kernel
theorem dX6_spoil_54 : decode cX6_spoil 54 = .ok (.iconst 1, 1) := by decide +kernel
theorem dX6_spoil_55 : decode cX6_spoil 55 = .ok (.ireturn, 1) := by decide +kernel
theorem dX6_cells_0 : decode cX6_cells 0 = .ok (.iload_n 1, 1) := by decide +kernel
theorem dX6_cells_1 : decode cX6_cells 1 = .ok (.ifCond .lt 19, 3) := by decide +kernel
theorem dX6_cells_4 : decode cX6_cells 4 = .ok (.iload_n 1, 1) := by decide +kernel
theorem dX6_cells_5 : decode cX6_cells 5 = .ok (.iconst 3, 1) := by decide +kernel
theorem dX6_cells_6 : decode cX6_cells 6 = .ok (.if_icmp .gt 14, 3) := by decide +kernel
theorem dX6_cells_9 : decode cX6_cells 9 = .ok (.iload_n 2, 1) := by decide +kernel
theorem dX6_cells_10 : decode cX6_cells 10 = .ok (.ifCond .lt 10, 3) := by decide +kernel
theorem dX6_cells_13 : decode cX6_cells 13 = .ok (.iload_n 2, 1) := by decide +kernel
theorem dX6_cells_14 : decode cX6_cells 14 = .ok (.sipush 150, 3) := by decide +kernel
theorem dX6_cells_17 : decode cX6_cells 17 = .ok (.if_icmp .lt 5, 3) := by decide +kernel
theorem dX6_cells_20 : decode cX6_cells 20 = .ok (.iconst (-1), 1) := by decide +kernel
theorem dX6_cells_21 : decode cX6_cells 21 = .ok (.ireturn, 1) := by decide +kernel
theorem dX6_cells_22 : decode cX6_cells 22 = .ok (.iconst 0, 1) := by decide +kernel
theorem dX6_cells_23 : decode cX6_cells 23 = .ok (.istore_n 3, 1) := by decide +kernel
theorem dX6_cells_24 : decode cX6_cells 24 = .ok (.iconst 0, 1) := by decide +kernel
theorem dX6_cells_25 : decode cX6_cells 25 = .ok (.istore 4, 2) := by decide +kernel
theorem dX6_cells_27 : decode cX6_cells 27 = .ok (.iload 4, 2) := by decide +kernel
theorem dX6_cells_29 : decode cX6_cells 29 = .ok (.bipush 16, 2) := by decide +kernel
theorem dX6_cells_31 : decode cX6_cells 31 = .ok (.if_icmp .ge 40, 3) := by decide +kernel
theorem dX6_cells_34 : decode cX6_cells 34 = .ok (.iload_n 3, 1) := by decide +kernel
theorem dX6_cells_35 : decode cX6_cells 35 = .ok (.iconst 1, 1) := by decide +kernel
theorem dX6_cells_36 : decode cX6_cells 36 = .ok (.ishl, 1) := by decide +kernel
theorem dX6_cells_37 : decode cX6_cells 37 = .ok (.aload_n 0, 1) := by decide +kernel
theorem dX6_cells_38 : decode cX6_cells 38 = .ok (.getfield 7, 3) := by decide +kernel
theorem dX6_cells_41 : decode cX6_cells 41 = .ok (.sipush 2400, 3) := by decide +kernel
theorem dX6_cells_44 : decode cX6_cells 44 = .ok (.iload_n 1, 1) := by decide +kernel
theorem dX6_cells_45 : decode cX6_cells 45 = .ok (.imul, 1) := by decide +kernel
theorem dX6_cells_46 : decode cX6_cells 46 = .ok (.bipush 16, 2) := by decide +kernel
theorem dX6_cells_48 : decode cX6_cells 48 = .ok (.iload_n 2, 1) := by decide +kernel
theorem dX6_cells_49 : decode cX6_cells 49 = .ok (.imul, 1) := by decide +kernel
theorem dX6_cells_50 : decode cX6_cells 50 = .ok (.iadd, 1) := by decide +kernel
theorem dX6_cells_51 : decode cX6_cells 51 = .ok (.iload 4, 2) := by decide +kernel
theorem dX6_cells_53 : decode cX6_cells 53 = .ok (.iadd, 1) := by decide +kernel
theorem dX6_cells_54 : decode cX6_cells 54 = .ok (.baload, 1) := by decide +kernel
theorem dX6_cells_55 : decode cX6_cells 55 = .ok (.ifCond .eq 7, 3) := by decide +kernel
theorem dX6_cells_58 : decode cX6_cells 58 = .ok (.iconst 1, 1) := by decide +kernel
theorem dX6_cells_59 : decode cX6_cells 59 = .ok (.goto 4, 3) := by decide +kernel
theorem dX6_cells_62 : decode cX6_cells 62 = .ok (.iconst 0, 1) := by decide +kernel
theorem dX6_cells_63 : decode cX6_cells 63 = .ok (.ior, 1) := by decide +kernel
theorem dX6_cells_64 : decode cX6_cells 64 = .ok (.istore_n 3, 1) := by decide +kernel
theorem dX6_cells_65 : decode cX6_cells 65 = .ok (.iinc 4 1, 3) := by decide +kernel
theorem dX6_cells_68 : decode cX6_cells 68 = .ok (.goto (-41), 3) := by decide +kernel
theorem dX6_cells_71 : decode cX6_cells 71 = .ok (.iload_n 3, 1) := by decide +kernel
theorem dX6_cells_72 : decode cX6_cells 72 = .ok (.ireturn, 1) := by decide +kernel
theorem dX6_look_0 : decode cX6_look 0 = .ok (.iload_n 1, 1) := by decide +kernel
theorem dX6_look_1 : decode cX6_look 1 = .ok (.tableswitch 95 0 7 #[47, 52, 57, 62, 67, 72, 77, 90], 47) := by decide +kernel
theorem dX6_look_48 : decode cX6_look 48 = .ok (.aload_n 0, 1) := by decide +kernel
theorem dX6_look_49 : decode cX6_look 49 = .ok (.getfield 38, 3) := by decide +kernel
theorem dX6_look_52 : decode cX6_look 52 = .ok (.ireturn, 1) := by decide +kernel
theorem dX6_look_53 : decode cX6_look 53 = .ok (.aload_n 0, 1) := by decide +kernel
theorem dX6_look_54 : decode cX6_look 54 = .ok (.getfield 77, 3) := by decide +kernel
theorem dX6_look_57 : decode cX6_look 57 = .ok (.ireturn, 1) := by decide +kernel
theorem dX6_look_58 : decode cX6_look 58 = .ok (.aload_n 0, 1) := by decide +kernel
theorem dX6_look_59 : decode cX6_look 59 = .ok (.getfield 71, 3) := by decide +kernel
theorem dX6_look_62 : decode cX6_look 62 = .ok (.ireturn, 1) := by decide +kernel
theorem dX6_look_63 : decode cX6_look 63 = .ok (.aload_n 0, 1) := by decide +kernel
theorem dX6_look_64 : decode cX6_look 64 = .ok (.getfield 61, 3) := by decide +kernel
theorem dX6_look_67 : decode cX6_look 67 = .ok (.ireturn, 1) := by decide +kernel
theorem dX6_look_68 : decode cX6_look 68 = .ok (.aload_n 0, 1) := by decide +kernel
theorem dX6_look_69 : decode cX6_look 69 = .ok (.getfield 101, 3) := by decide +kernel
theorem dX6_look_72 : decode cX6_look 72 = .ok (.ireturn, 1) := by decide +kernel
theorem dX6_look_73 : decode cX6_look 73 = .ok (.aload_n 0, 1) := by decide +kernel
theorem dX6_look_74 : decode cX6_look 74 = .ok (.getfield 104, 3) := by decide +kernel
theorem dX6_look_77 : decode cX6_look 77 = .ok (.ireturn, 1) := by decide +kernel
theorem dX6_look_78 : decode cX6_look 78 = .ok (.aload_n 0, 1) := by decide +kernel
theorem dX6_look_79 : decode cX6_look 79 = .ok (.getfield 41, 3) := by decide +kernel
theorem dX6_look_82 : decode cX6_look 82 = .ok (.ifCond .eq 7, 3) := by decide +kernel
theorem dX6_look_85 : decode cX6_look 85 = .ok (.iconst 1, 1) := by decide +kernel
theorem dX6_look_86 : decode cX6_look 86 = .ok (.goto 4, 3) := by decide +kernel
theorem dX6_look_89 : decode cX6_look 89 = .ok (.iconst 0, 1) := by decide +kernel
theorem dX6_look_90 : decode cX6_look 90 = .ok (.ireturn, 1) := by decide +kernel
theorem dX6_look_91 : decode cX6_look 91 = .ok (.aload_n 0, 1) := by decide +kernel
theorem dX6_look_92 : decode cX6_look 92 = .ok (.getfield 21, 3) := by decide +kernel
theorem dX6_look_95 : decode cX6_look 95 = .ok (.ireturn, 1) := by decide +kernel
theorem dX6_look_96 : decode cX6_look 96 = .ok (.iconst (-1), 1) := by decide +kernel
theorem dX6_look_97 : decode cX6_look 97 = .ok (.ireturn, 1) := by decide +kernel
