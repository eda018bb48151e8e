theorem dX1_init_0 : decode cX1_init 0 = .ok (.aload_n 0, 1) := by decide +kernel
theorem dX1_init_1 : decode cX1_init 1 = .ok (.invokespecial 3, 3) := by decide +kernel
theorem dX1_init_4 : decode cX1_init 4 = .ok (.aload_n 0, 1) := by decide +kernel
theorem dX1_init_5 : decode cX1_init 5 = .ok (.sipush 600, 3) := by decide +kernel
theorem dX1_init_8 : decode cX1_init 8 = .ok (.newarray .int, 2) := by decide +kernel
theorem dX1_init_10 : decode cX1_init 10 = .ok (.putfield 9, 3) := by decide +kernel
theorem dX1_init_13 : decode cX1_init 13 = .ok (.return_, 1) := by decide +kernel
theorem dX1_wordAt_0 : decode cX1_wordAt 0 = .ok (.iload_n 1, 1) := by decide +kernel
theorem dX1_wordAt_1 : decode cX1_wordAt 1 = .ok (.ifCond .lt 19, 3) := by decide +kernel
theorem dX1_wordAt_4 : decode cX1_wordAt 4 = .ok (.iload_n 1, 1) := by decide +kernel
theorem dX1_wordAt_5 : decode cX1_wordAt 5 = .ok (.iconst 4, 1) := by decide +kernel
theorem dX1_wordAt_6 : decode cX1_wordAt 6 = .ok (.if_icmp .ge 14, 3) := by decide +kernel
theorem dX1_wordAt_9 : decode cX1_wordAt 9 = .ok (.iload_n 2, 1) := by decide +kernel
theorem dX1_wordAt_10 : decode cX1_wordAt 10 = .ok (.ifCond .lt 10, 3) := by decide +kernel
theorem dX1_wordAt_13 : decode cX1_wordAt 13 = .ok (.iload_n 2, 1) := by decide +kernel
theorem dX1_wordAt_14 : decode cX1_wordAt 14 = .ok (.sipush 150, 3) := by decide +kernel
theorem dX1_wordAt_17 : decode cX1_wordAt 17 = .ok (.if_icmp .lt 5, 3) := by decide +kernel
theorem dX1_wordAt_20 : decode cX1_wordAt 20 = .ok (.iconst (-1), 1) := by decide +kernel
theorem dX1_wordAt_21 : decode cX1_wordAt 21 = .ok (.ireturn, 1) := by decide +kernel
theorem dX1_wordAt_22 : decode cX1_wordAt 22 = .ok (.aload_n 0, 1) := by decide +kernel
theorem dX1_wordAt_23 : decode cX1_wordAt 23 = .ok (.getfield 9, 3) := by decide +kernel
theorem dX1_wordAt_26 : decode cX1_wordAt 26 = .ok (.iload_n 1, 1) := by decide +kernel
theorem dX1_wordAt_27 : decode cX1_wordAt 27 = .ok (.sipush 150, 3) := by decide +kernel
theorem dX1_wordAt_30 : decode cX1_wordAt 30 = .ok (.imul, 1) := by decide +kernel
theorem dX1_wordAt_31 : decode cX1_wordAt 31 = .ok (.iload_n 2, 1) := by decide +kernel
theorem dX1_wordAt_32 : decode cX1_wordAt 32 = .ok (.iadd, 1) := by decide +kernel
theorem dX1_wordAt_33 : decode cX1_wordAt 33 = .ok (.iaload, 1) := by decide +kernel
theorem dX1_wordAt_34 : decode cX1_wordAt 34 = .ok (.ireturn, 1) := by decide +kernel
theorem dX1_turnOver_0 : decode cX1_turnOver 0 = .ok (.iload_n 1, 1) := by decide +kernel
theorem dX1_turnOver_1 : decode cX1_turnOver 1 = .ok (.ifCond .lt 19, 3) := by decide +kernel
theorem dX1_turnOver_4 : decode cX1_turnOver 4 = .ok (.iload_n 1, 1) := by decide +kernel
theorem dX1_turnOver_5 : decode cX1_turnOver 5 = .ok (.iconst 4, 1) := by decide +kernel
theorem dX1_turnOver_6 : decode cX1_turnOver 6 = .ok (.if_icmp .ge 14, 3) := by decide +kernel
theorem dX1_turnOver_9 : decode cX1_turnOver 9 = .ok (.iload_n 2, 1) := by decide +kernel
theorem dX1_turnOver_10 : decode cX1_turnOver 10 = .ok (.ifCond .lt 10, 3) := by decide +kernel
theorem dX1_turnOver_13 : decode cX1_turnOver 13 = .ok (.iload_n 2, 1) := by decide +kernel
theorem dX1_turnOver_14 : decode cX1_turnOver 14 = .ok (.sipush 2400, 3) := by decide +kernel
theorem dX1_turnOver_17 : decode cX1_turnOver 17 = .ok (.if_icmp .lt 5, 3) := by decide +kernel
theorem dX1_turnOver_20 : decode cX1_turnOver 20 = .ok (.iconst 0, 1) := by decide +kernel
theorem dX1_turnOver_21 : decode cX1_turnOver 21 = .ok (.ireturn, 1) := by decide +kernel
theorem dX1_turnOver_22 : decode cX1_turnOver 22 = .ok (.aload_n 0, 1) := by decide +kernel
theorem dX1_turnOver_23 : decode cX1_turnOver 23 = .ok (.getfield 9, 3) := by decide +kernel
theorem dX1_turnOver_26 : decode cX1_turnOver 26 = .ok (.iload_n 1, 1) := by decide +kernel
theorem dX1_turnOver_27 : decode cX1_turnOver 27 = .ok (.sipush 150, 3) := by decide +kernel
theorem dX1_turnOver_30 : decode cX1_turnOver 30 = .ok (.imul, 1) := by decide +kernel
theorem dX1_turnOver_31 : decode cX1_turnOver 31 = .ok (.iload_n 2, 1) := by decide +kernel
theorem dX1_turnOver_32 : decode cX1_turnOver 32 = .ok (.iconst 4, 1) := by decide +kernel
theorem dX1_turnOver_33 : decode cX1_turnOver 33 = .ok (.ishr, 1) := by decide +kernel
theorem dX1_turnOver_34 : decode cX1_turnOver 34 = .ok (.iadd, 1) := by decide +kernel
theorem dX1_turnOver_35 : decode cX1_turnOver 35 = .ok (.dup2, 1) := by decide +kernel
theorem dX1_turnOver_36 : decode cX1_turnOver 36 = .ok (.iaload, 1) := by decide +kernel
theorem dX1_turnOver_37 : decode cX1_turnOver 37 = .ok (.ldc 15, 2) := by decide +kernel
theorem dX1_turnOver_39 : decode cX1_turnOver 39 = .ok (.iload_n 2, 1) := by decide +kernel
theorem dX1_turnOver_40 : decode cX1_turnOver 40 = .ok (.bipush 15, 2) := by decide +kernel
theorem dX1_turnOver_42 : decode cX1_turnOver 42 = .ok (.iand, 1) := by decide +kernel
theorem dX1_turnOver_43 : decode cX1_turnOver 43 = .ok (.ishr, 1) := by decide +kernel
theorem dX1_turnOver_44 : decode cX1_turnOver 44 = .ok (.ixor, 1) := by decide +kernel
theorem dX1_turnOver_45 : decode cX1_turnOver 45 = .ok (.iastore, 1) := by decide +kernel
theorem dX1_turnOver_46 : decode cX1_turnOver 46 = .ok (.iconst 1, 1) := by decide +kernel
theorem dX1_turnOver_47 : decode cX1_turnOver 47 = .ok (.ireturn, 1) := by decide +kernel
set_option maxRecDepth 20000 in
theorem ggX1_cellUnderHead_X1_wordAt : GoodIn wsX1_cellUnderHead wsX1_wordAt := goodIn_r _ [7, 8, 9, 10, 11, 12] (by decide +kernel) (by decide +kernel)
set_option maxRecDepth 20000 in
theorem gX1_cellUnderHead_X1_wordAt : GoodIn wsX1_cellUnderHead (wsV RX1 23 RX1 yX1_wordAt wsX1_wordAt) := goodIn_app (goodIn_of _ (by decide +kernel)) ggX1_cellUnderHead_X1_wordAt
theorem dX1_cellUnderHead_0 : decode cX1_cellUnderHead 0 = .ok (.aload_n 0, 1) := by decide +kernel
theorem dX1_cellUnderHead_1 : decode cX1_cellUnderHead 1 = .ok (.aload_n 0, 1) := by decide +kernel
theorem dX1_cellUnderHead_2 : decode cX1_cellUnderHead 2 = .ok (.getfield 16, 3) := by decide +kernel
theorem dX1_cellUnderHead_5 : decode cX1_cellUnderHead 5 = .ok (.aload_n 0, 1) := by decide +kernel
theorem dX1_cellUnderHead_6 : decode cX1_cellUnderHead 6 = .ok (.getfield 20, 3) := by decide +kernel
theorem dX1_cellUnderHead_9 : decode cX1_cellUnderHead 9 = .ok (.iconst 4, 1) := by decide +kernel
theorem dX1_cellUnderHead_10 : decode cX1_cellUnderHead 10 = .ok (.ishr, 1) := by decide +kernel
theorem dX1_cellUnderHead_11 : decode cX1_cellUnderHead 11 = .ok (.invokevirtual 23, 3) := by decide +kernel
theorem dX1_cellUnderHead_14 : decode cX1_cellUnderHead 14 = .ok (.bipush 15, 2) := by decide +kernel
theorem dX1_cellUnderHead_16 : decode cX1_cellUnderHead 16 = .ok (.aload_n 0, 1) := by decide +kernel
theorem dX1_cellUnderHead_17 : decode cX1_cellUnderHead 17 = .ok (.getfield 20, 3) := by decide +kernel
theorem dX1_cellUnderHead_20 : decode cX1_cellUnderHead 20 = .ok (.bipush 15, 2) := by decide +kernel
theorem dX1_cellUnderHead_22 : decode cX1_cellUnderHead 22 = .ok (.iand, 1) := by decide +kernel
theorem dX1_cellUnderHead_23 : decode cX1_cellUnderHead 23 = .ok (.isub, 1) := by decide +kernel
theorem dX1_cellUnderHead_24 : decode cX1_cellUnderHead 24 = .ok (.ishr, 1) := by decide +kernel
theorem dX1_cellUnderHead_25 : decode cX1_cellUnderHead 25 = .ok (.iconst 1, 1) := by decide +kernel
theorem dX1_cellUnderHead_26 : decode cX1_cellUnderHead 26 = .ok (.iand, 1) := by decide +kernel
theorem dX1_cellUnderHead_27 : decode cX1_cellUnderHead 27 = .ok (.ireturn, 1) := by decide +kernel
set_option maxRecDepth 20000 in
theorem ggX1_writeUnderHead_X1_cellUnderHead : GoodIn wsX1_writeUnderHead wsX1_cellUnderHead := goodIn_r _ [7, 1, 2, 8, 9, 10, 6, 11, 12, 18, 19, 20, 21] (by decide +kernel) (by decide +kernel)
set_option maxRecDepth 20000 in
theorem gX1_writeUnderHead_X1_cellUnderHead : GoodIn wsX1_writeUnderHead (wsV RX1 27 RX1 yX1_cellUnderHead wsX1_cellUnderHead) := goodIn_app (goodIn_of _ (by decide +kernel)) ggX1_writeUnderHead_X1_cellUnderHead
set_option maxRecDepth 20000 in
theorem ggX1_writeUnderHead_X1_turnOver : GoodIn wsX1_writeUnderHead wsX1_turnOver := goodIn_r _ [16, 12, 17, 18, 19, 20, 21] (by decide +kernel) (by decide +kernel)
set_option maxRecDepth 20000 in
theorem gX1_writeUnderHead_X1_turnOver : GoodIn wsX1_writeUnderHead (wsV RX1 31 RX1 yX1_turnOver wsX1_turnOver) := goodIn_app (goodIn_of _ (by decide +kernel)) ggX1_writeUnderHead_X1_turnOver
theorem dX1_writeUnderHead_0 : decode cX1_writeUnderHead 0 = .ok (.aload_n 0, 1) := by decide +kernel
theorem dX1_writeUnderHead_1 : decode cX1_writeUnderHead 1 = .ok (.invokevirtual 27, 3) := by decide +kernel
theorem dX1_writeUnderHead_4 : decode cX1_writeUnderHead 4 = .ok (.iload_n 1, 1) := by decide +kernel
theorem dX1_writeUnderHead_5 : decode cX1_writeUnderHead 5 = .ok (.if_icmp .eq 16, 3) := by decide +kernel
theorem dX1_writeUnderHead_8 : decode cX1_writeUnderHead 8 = .ok (.aload_n 0, 1) := by decide +kernel
theorem dX1_writeUnderHead_9 : decode cX1_writeUnderHead 9 = .ok (.aload_n 0, 1) := by decide +kernel
theorem dX1_writeUnderHead_10 : decode cX1_writeUnderHead 10 = .ok (.getfield 16, 3) := by decide +kernel
theorem dX1_writeUnderHead_13 : decode cX1_writeUnderHead 13 = .ok (.aload_n 0, 1) := by decide +kernel
theorem dX1_writeUnderHead_14 : decode cX1_writeUnderHead 14 = .ok (.getfield 20, 3) := by decide +kernel
theorem dX1_writeUnderHead_17 : decode cX1_writeUnderHead 17 = .ok (.invokevirtual 31, 3) := by decide +kernel
theorem dX1_writeUnderHead_20 : decode cX1_writeUnderHead 20 = .ok (.pop, 1) := by decide +kernel
theorem dX1_writeUnderHead_21 : decode cX1_writeUnderHead 21 = .ok (.return_, 1) := by decide +kernel
theorem dX1_turnByOneCell_0 : decode cX1_turnByOneCell 0 = .ok (.aload_n 0, 1) := by decide +kernel
theorem dX1_turnByOneCell_1 : decode cX1_turnByOneCell 1 = .ok (.dup, 1) := by decide +kernel
theorem dX1_turnByOneCell_2 : decode cX1_turnByOneCell 2 = .ok (.getfield 20, 3) := by decide +kernel
theorem dX1_turnByOneCell_5 : decode cX1_turnByOneCell 5 = .ok (.iconst 1, 1) := by decide +kernel
theorem dX1_turnByOneCell_6 : decode cX1_turnByOneCell 6 = .ok (.iadd, 1) := by decide +kernel
theorem dX1_turnByOneCell_7 : decode cX1_turnByOneCell 7 = .ok (.putfield 20, 3) := by decide +kernel
theorem dX1_turnByOneCell_10 : decode cX1_turnByOneCell 10 = .ok (.aload_n 0, 1) := by decide +kernel
theorem dX1_turnByOneCell_11 : decode cX1_turnByOneCell 11 = .ok (.getfield 20, 3) := by decide +kernel
theorem dX1_turnByOneCell_14 : decode cX1_turnByOneCell 14 = .ok (.sipush 2400, 3) := by decide +kernel
theorem dX1_turnByOneCell_17 : decode cX1_turnByOneCell 17 = .ok (.if_icmp .ge 5, 3) := by decide +kernel
theorem dX1_turnByOneCell_20 : decode cX1_turnByOneCell 20 = .ok (.iconst 0, 1) := by decide +kernel
theorem dX1_turnByOneCell_21 : decode cX1_turnByOneCell 21 = .ok (.ireturn, 1) := by decide +kernel
theorem dX1_turnByOneCell_22 : decode cX1_turnByOneCell 22 = .ok (.aload_n 0, 1) := by decide +kernel
theorem dX1_turnByOneCell_23 : decode cX1_turnByOneCell 23 = .ok (.iconst 0, 1) := by decide +kernel
theorem dX1_turnByOneCell_24 : decode cX1_turnByOneCell 24 = .ok (.putfield 20, 3) := by decide +kernel
theorem dX1_turnByOneCell_27 : decode cX1_turnByOneCell 27 = .ok (.iconst 1, 1) := by decide +kernel
theorem dX1_turnByOneCell_28 : decode cX1_turnByOneCell 28 = .ok (.ireturn, 1) := by decide +kernel
theorem dX1_moveHead_0 : decode cX1_moveHead 0 = .ok (.aload_n 0, 1) := by decide +kernel
theorem dX1_moveHead_1 : decode cX1_moveHead 1 = .ok (.getfield 16, 3) := by decide +kernel
theorem dX1_moveHead_4 : decode cX1_moveHead 4 = .ok (.iload_n 1, 1) := by decide +kernel
theorem dX1_moveHead_5 : decode cX1_moveHead 5 = .ok (.iadd, 1) := by decide +kernel
theorem dX1_moveHead_6 : decode cX1_moveHead 6 = .ok (.istore_n 2, 1) := by decide +kernel
theorem dX1_moveHead_7 : decode cX1_moveHead 7 = .ok (.iload_n 2, 1) := by decide +kernel
theorem dX1_moveHead_8 : decode cX1_moveHead 8 = .ok (.ifCond .lt 13, 3) := by decide +kernel
theorem dX1_moveHead_11 : decode cX1_moveHead 11 = .ok (.iload_n 2, 1) := by decide +kernel
theorem dX1_moveHead_12 : decode cX1_moveHead 12 = .ok (.iconst 4, 1) := by decide +kernel
theorem dX1_moveHead_13 : decode cX1_moveHead 13 = .ok (.if_icmp .ge 8, 3) := by decide +kernel
theorem dX1_moveHead_16 : decode cX1_moveHead 16 = .ok (.aload_n 0, 1) := by decide +kernel
theorem dX1_moveHead_17 : decode cX1_moveHead 17 = .ok (.iload_n 2, 1) := by decide +kernel
theorem dX1_moveHead_18 : decode cX1_moveHead 18 = .ok (.putfield 16, 3) := by decide +kernel
theorem dX1_moveHead_21 : decode cX1_moveHead 21 = .ok (.return_, 1) := by decide +kernel
theorem dX2_init_0 : decode cX2_init 0 = .ok (.aload_n 0, 1) := by decide +kernel
theorem dX2_init_1 : decode cX2_init 1 = .ok (.invokespecial 3, 3) := by decide +kernel
theorem dX2_init_4 : decode cX2_init 4 = .ok (.aload_n 0, 1) := by decide +kernel
theorem dX2_init_5 : decode cX2_init 5 = .ok (.bipush 16, 2) := by decide +kernel
theorem dX2_init_7 : decode cX2_init 7 = .ok (.putfield 11, 3) := by decide +kernel
theorem dX2_init_10 : decode cX2_init 10 = .ok (.return_, 1) := by decide +kernel
theorem dX2_reset_0 : decode cX2_reset 0 = .ok (.aload_n 0, 1) := by decide +kernel
theorem dX2_reset_1 : decode cX2_reset 1 = .ok (.iconst 0, 1) := by decide +kernel
theorem dX2_reset_2 : decode cX2_reset 2 = .ok (.putfield 15, 3) := by decide +kernel
theorem dX2_reset_5 : decode cX2_reset 5 = .ok (.aload_n 0, 1) := by decide +kernel
theorem dX2_reset_6 : decode cX2_reset 6 = .ok (.iconst 0, 1) := by decide +kernel
theorem dX2_reset_7 : decode cX2_reset 7 = .ok (.putfield 19, 3) := by decide +kernel
theorem dX2_reset_10 : decode cX2_reset 10 = .ok (.aload_n 0, 1) := by decide +kernel
theorem dX2_reset_11 : decode cX2_reset 11 = .ok (.iconst 0, 1) := by decide +kernel
theorem dX2_reset_12 : decode cX2_reset 12 = .ok (.putfield 22, 3) := by decide +kernel
theorem dX2_reset_15 : decode cX2_reset 15 = .ok (.return_, 1) := by decide +kernel
theorem dX2_forgetDataSize_0 : decode cX2_forgetDataSize 0 = .ok (.aload_n 0, 1) := by decide +kernel
theorem dX2_forgetDataSize_1 : decode cX2_forgetDataSize 1 = .ok (.bipush 16, 2) := by decide +kernel
theorem dX2_forgetDataSize_3 : decode cX2_forgetDataSize 3 = .ok (.putfield 11, 3) := by decide +kernel
theorem dX2_forgetDataSize_6 : decode cX2_forgetDataSize 6 = .ok (.return_, 1) := by decide +kernel
theorem dX2_forgetWindow_0 : decode cX2_forgetWindow 0 = .ok (.aload_n 0, 1) := by decide +kernel
theorem dX2_forgetWindow_1 : decode cX2_forgetWindow 1 = .ok (.iconst 0, 1) := by decide +kernel
theorem dX2_forgetWindow_2 : decode cX2_forgetWindow 2 = .ok (.putfield 25, 3) := by decide +kernel
theorem dX2_forgetWindow_5 : decode cX2_forgetWindow 5 = .ok (.return_, 1) := by decide +kernel
set_option maxRecDepth 20000 in
theorem ggX2_readCell_X2_byteInWindow : GoodIn wsX2_readCell wsX2_byteInWindow := goodIn_r _ [12, 1, 42, 43, 44, 45, 46, 47, 48, 49, 50, 51, 52, 53, 54, 55] (by decide +kernel) (by decide +kernel)
set_option maxRecDepth 20000 in
theorem gX2_readCell_X2_byteInWindow : GoodIn wsX2_readCell (wsV RX2 32 RX2 yX2_byteInWindow wsX2_byteInWindow) := goodIn_app (goodIn_of _ (by decide +kernel)) ggX2_readCell_X2_byteInWindow
set_option maxRecDepth 20000 in
theorem ggX2_readCell_X2_beginField : GoodIn wsX2_readCell wsX2_beginField := goodIn_r _ [16, 5, 7, 4, 3, 17, 18, 19, 2, 20, 21, 22, 23, 24, 25, 42, 43, 44, 45, 46, 47, 48, 49, 50, 51, 52, 53, 54, 55] (by decide +kernel) (by decide +kernel)
set_option maxRecDepth 20000 in
theorem gX2_readCell_X2_beginField : GoodIn wsX2_readCell (wsV RX2 39 RX2 yX2_beginField wsX2_beginField) := goodIn_app (goodIn_of _ (by decide +kernel)) ggX2_readCell_X2_beginField
set_option maxRecDepth 20000 in
theorem ggX2_readCell_X2_addToField : GoodIn wsX2_readCell wsX2_addToField := goodIn_r _ [29, 20, 7, 4, 19, 30, 31, 3, 21, 22, 23, 24, 25, 32, 33, 34, 11, 35, 36, 37, 38, 39, 40, 41, 42, 43, 44, 45, 46, 47, 48, 49, 50, 51, 52, 53, 54, 55] (by decide +kernel) (by decide +kernel)
set_option maxRecDepth 20000 in
theorem gX2_readCell_X2_addToField : GoodIn wsX2_readCell (wsV RX2 42 RX2 yX2_addToField wsX2_addToField) := goodIn_app (goodIn_of _ (by decide +kernel)) ggX2_readCell_X2_addToField
theorem dX2_readCell_0 : decode cX2_readCell 0 = .ok (.aload_n 0, 1) := by decide +kernel
theorem dX2_readCell_1 : decode cX2_readCell 1 = .ok (.aload_n 0, 1) := by decide +kernel
theorem dX2_readCell_2 : decode cX2_readCell 2 = .ok (.getfield 25, 3) := by decide +kernel
theorem dX2_readCell_5 : decode cX2_readCell 5 = .ok (.iconst 1, 1) := by decide +kernel
theorem dX2_readCell_6 : decode cX2_readCell 6 = .ok (.ishl, 1) := by decide +kernel
theorem dX2_readCell_7 : decode cX2_readCell 7 = .ok (.iload_n 1, 1) := by decide +kernel
theorem dX2_readCell_8 : decode cX2_readCell 8 = .ok (.ior, 1) := by decide +kernel
theorem dX2_readCell_9 : decode cX2_readCell 9 = .ok (.ldc 28, 2) := by decide +kernel
theorem dX2_readCell_11 : decode cX2_readCell 11 = .ok (.iand, 1) := by decide +kernel
theorem dX2_readCell_12 : decode cX2_readCell 12 = .ok (.putfield 25, 3) := by decide +kernel
theorem dX2_readCell_15 : decode cX2_readCell 15 = .ok (.aload_n 0, 1) := by decide +kernel
theorem dX2_readCell_16 : decode cX2_readCell 16 = .ok (.getfield 25, 3) := by decide +kernel
theorem dX2_readCell_19 : decode cX2_readCell 19 = .ok (.sipush 17545, 3) := by decide +kernel
theorem dX2_readCell_22 : decode cX2_readCell 22 = .ok (.if_icmp .ne 39, 3) := by decide +kernel
theorem dX2_readCell_25 : decode cX2_readCell 25 = .ok (.aload_n 0, 1) := by decide +kernel
theorem dX2_readCell_26 : decode cX2_readCell 26 = .ok (.getfield 15, 3) := by decide +kernel
theorem dX2_readCell_29 : decode cX2_readCell 29 = .ok (.ifCond .eq 10, 3) := by decide +kernel
theorem dX2_readCell_32 : decode cX2_readCell 32 = .ok (.aload_n 0, 1) := by decide +kernel
theorem dX2_readCell_33 : decode cX2_readCell 33 = .ok (.getfield 22, 3) := by decide +kernel
theorem dX2_readCell_36 : decode cX2_readCell 36 = .ok (.ifCond .ne 25, 3) := by decide +kernel
theorem dX2_readCell_39 : decode cX2_readCell 39 = .ok (.aload_n 0, 1) := by decide +kernel
theorem dX2_readCell_40 : decode cX2_readCell 40 = .ok (.iconst 1, 1) := by decide +kernel
theorem dX2_readCell_41 : decode cX2_readCell 41 = .ok (.putfield 15, 3) := by decide +kernel
theorem dX2_readCell_44 : decode cX2_readCell 44 = .ok (.aload_n 0, 1) := by decide +kernel
theorem dX2_readCell_45 : decode cX2_readCell 45 = .ok (.dup, 1) := by decide +kernel
theorem dX2_readCell_46 : decode cX2_readCell 46 = .ok (.getfield 19, 3) := by decide +kernel
theorem dX2_readCell_49 : decode cX2_readCell 49 = .ok (.iconst 1, 1) := by decide +kernel
theorem dX2_readCell_50 : decode cX2_readCell 50 = .ok (.iadd, 1) := by decide +kernel
theorem dX2_readCell_51 : decode cX2_readCell 51 = .ok (.putfield 19, 3) := by decide +kernel
theorem dX2_readCell_54 : decode cX2_readCell 54 = .ok (.aload_n 0, 1) := by decide +kernel
theorem dX2_readCell_55 : decode cX2_readCell 55 = .ok (.iconst 0, 1) := by decide +kernel
theorem dX2_readCell_56 : decode cX2_readCell 56 = .ok (.putfield 29, 3) := by decide +kernel
theorem dX2_readCell_59 : decode cX2_readCell 59 = .ok (.iconst 0, 1) := by decide +kernel
theorem dX2_readCell_60 : decode cX2_readCell 60 = .ok (.ireturn, 1) := by decide +kernel
theorem dX2_readCell_61 : decode cX2_readCell 61 = .ok (.aload_n 0, 1) := by decide +kernel
theorem dX2_readCell_62 : decode cX2_readCell 62 = .ok (.getfield 15, 3) := by decide +kernel
theorem dX2_readCell_65 : decode cX2_readCell 65 = .ok (.ifCond .ne 5, 3) := by decide +kernel
theorem dX2_readCell_68 : decode cX2_readCell 68 = .ok (.iconst 0, 1) := by decide +kernel
theorem dX2_readCell_69 : decode cX2_readCell 69 = .ok (.ireturn, 1) := by decide +kernel
theorem dX2_readCell_70 : decode cX2_readCell 70 = .ok (.aload_n 0, 1) := by decide +kernel
theorem dX2_readCell_71 : decode cX2_readCell 71 = .ok (.dup, 1) := by decide +kernel
theorem dX2_readCell_72 : decode cX2_readCell 72 = .ok (.getfield 29, 3) := by decide +kernel
theorem dX2_readCell_75 : decode cX2_readCell 75 = .ok (.iconst 1, 1) := by decide +kernel
theorem dX2_readCell_76 : decode cX2_readCell 76 = .ok (.iadd, 1) := by decide +kernel
theorem dX2_readCell_77 : decode cX2_readCell 77 = .ok (.putfield 29, 3) := by decide +kernel
theorem dX2_readCell_80 : decode cX2_readCell 80 = .ok (.aload_n 0, 1) := by decide +kernel
theorem dX2_readCell_81 : decode cX2_readCell 81 = .ok (.getfield 29, 3) := by decide +kernel
theorem dX2_readCell_84 : decode cX2_readCell 84 = .ok (.bipush 16, 2) := by decide +kernel
theorem dX2_readCell_86 : decode cX2_readCell 86 = .ok (.if_icmp .ge 5, 3) := by decide +kernel
theorem dX2_readCell_89 : decode cX2_readCell 89 = .ok (.iconst 0, 1) := by decide +kernel
theorem dX2_readCell_90 : decode cX2_readCell 90 = .ok (.ireturn, 1) := by decide +kernel
theorem dX2_readCell_91 : decode cX2_readCell 91 = .ok (.aload_n 0, 1) := by decide +kernel
theorem dX2_readCell_92 : decode cX2_readCell 92 = .ok (.iconst 0, 1) := by decide +kernel
theorem dX2_readCell_93 : decode cX2_readCell 93 = .ok (.putfield 29, 3) := by decide +kernel
theorem dX2_readCell_96 : decode cX2_readCell 96 = .ok (.aload_n 0, 1) := by decide +kernel
theorem dX2_readCell_97 : decode cX2_readCell 97 = .ok (.aload_n 0, 1) := by decide +kernel
theorem dX2_readCell_98 : decode cX2_readCell 98 = .ok (.invokevirtual 32, 3) := by decide +kernel
theorem dX2_readCell_101 : decode cX2_readCell 101 = .ok (.putfield 36, 3) := by decide +kernel
theorem dX2_readCell_104 : decode cX2_readCell 104 = .ok (.aload_n 0, 1) := by decide +kernel
theorem dX2_readCell_105 : decode cX2_readCell 105 = .ok (.getfield 22, 3) := by decide +kernel
theorem dX2_readCell_108 : decode cX2_readCell 108 = .ok (.ifCond .ne 10, 3) := by decide +kernel
theorem dX2_readCell_111 : decode cX2_readCell 111 = .ok (.aload_n 0, 1) := by decide +kernel
theorem dX2_readCell_112 : decode cX2_readCell 112 = .ok (.invokevirtual 39, 3) := by decide +kernel
theorem dX2_readCell_115 : decode cX2_readCell 115 = .ok (.goto 7, 3) := by decide +kernel
theorem dX2_readCell_118 : decode cX2_readCell 118 = .ok (.aload_n 0, 1) := by decide +kernel
theorem dX2_readCell_119 : decode cX2_readCell 119 = .ok (.invokevirtual 42, 3) := by decide +kernel
theorem dX2_readCell_122 : decode cX2_readCell 122 = .ok (.ireturn, 1) := by decide +kernel
theorem dX2_byteInWindow_0 : decode cX2_byteInWindow 0 = .ok (.iconst 0, 1) := by decide +kernel
theorem dX2_byteInWindow_1 : decode cX2_byteInWindow 1 = .ok (.istore_n 1, 1) := by decide +kernel
theorem dX2_byteInWindow_2 : decode cX2_byteInWindow 2 = .ok (.bipush 14, 2) := by decide +kernel
theorem dX2_byteInWindow_4 : decode cX2_byteInWindow 4 = .ok (.istore_n 2, 1) := by decide +kernel
theorem dX2_byteInWindow_5 : decode cX2_byteInWindow 5 = .ok (.iload_n 2, 1) := by decide +kernel
theorem dX2_byteInWindow_6 : decode cX2_byteInWindow 6 = .ok (.ifCond .lt 22, 3) := by decide +kernel
theorem dX2_byteInWindow_9 : decode cX2_byteInWindow 9 = .ok (.iload_n 1, 1) := by decide +kernel
theorem dX2_byteInWindow_10 : decode cX2_byteInWindow 10 = .ok (.iconst 1, 1) := by decide +kernel
theorem dX2_byteInWindow_11 : decode cX2_byteInWindow 11 = .ok (.ishl, 1) := by decide +kernel
theorem dX2_byteInWindow_12 : decode cX2_byteInWindow 12 = .ok (.aload_n 0, 1) := by decide +kernel
theorem dX2_byteInWindow_13 : decode cX2_byteInWindow 13 = .ok (.getfield 25, 3) := by decide +kernel
theorem dX2_byteInWindow_16 : decode cX2_byteInWindow 16 = .ok (.iload_n 2, 1) := by decide +kernel
theorem dX2_byteInWindow_17 : decode cX2_byteInWindow 17 = .ok (.ishr, 1) := by decide +kernel
theorem dX2_byteInWindow_18 : decode cX2_byteInWindow 18 = .ok (.iconst 1, 1) := by decide +kernel
theorem dX2_byteInWindow_19 : decode cX2_byteInWindow 19 = .ok (.iand, 1) := by decide +kernel
theorem dX2_byteInWindow_20 : decode cX2_byteInWindow 20 = .ok (.ior, 1) := by decide +kernel
theorem dX2_byteInWindow_21 : decode cX2_byteInWindow 21 = .ok (.istore_n 1, 1) := by decide +kernel
theorem dX2_byteInWindow_22 : decode cX2_byteInWindow 22 = .ok (.iinc 2 (-2), 3) := by decide +kernel
theorem dX2_byteInWindow_25 : decode cX2_byteInWindow 25 = .ok (.goto (-20), 3) := by decide +kernel
theorem dX2_byteInWindow_28 : decode cX2_byteInWindow 28 = .ok (.iload_n 1, 1) := by decide +kernel
theorem dX2_byteInWindow_29 : decode cX2_byteInWindow 29 = .ok (.ireturn, 1) := by decide +kernel
set_option maxRecDepth 20000 in
theorem ggX2_beginField_X5_checkWith : GoodIn wsX2_beginField wsX5_checkWith := goodIn_r _ [12, 13, 14] (by decide +kernel) (by decide +kernel)
set_option maxRecDepth 20000 in
theorem gX2_beginField_X5_checkWith_n57 : GoodIn wsX2_beginField (wsX5_checkWith) := ggX2_beginField_X5_checkWith
theorem dX2_beginField_0 : decode cX2_beginField 0 = .ok (.aload_n 0, 1) := by decide +kernel
theorem dX2_beginField_1 : decode cX2_beginField 1 = .ok (.getfield 19, 3) := by decide +kernel
theorem dX2_beginField_4 : decode cX2_beginField 4 = .ok (.iconst 3, 1) := by decide +kernel
theorem dX2_beginField_5 : decode cX2_beginField 5 = .ok (.if_icmp .lt 7, 3) := by decide +kernel
theorem dX2_beginField_8 : decode cX2_beginField 8 = .ok (.iconst 1, 1) := by decide +kernel
theorem dX2_beginField_9 : decode cX2_beginField 9 = .ok (.goto 4, 3) := by decide +kernel
theorem dX2_beginField_12 : decode cX2_beginField 12 = .ok (.iconst 0, 1) := by decide +kernel
theorem dX2_beginField_13 : decode cX2_beginField 13 = .ok (.istore_n 1, 1) := by decide +kernel
theorem dX2_beginField_14 : decode cX2_beginField 14 = .ok (.aload_n 0, 1) := by decide +kernel
theorem dX2_beginField_15 : decode cX2_beginField 15 = .ok (.iconst 0, 1) := by decide +kernel
theorem dX2_beginField_16 : decode cX2_beginField 16 = .ok (.putfield 19, 3) := by decide +kernel
theorem dX2_beginField_19 : decode cX2_beginField 19 = .ok (.iload_n 1, 1) := by decide +kernel
theorem dX2_beginField_20 : decode cX2_beginField 20 = .ok (.ifCond .eq 21, 3) := by decide +kernel
theorem dX2_beginField_23 : decode cX2_beginField 23 = .ok (.aload_n 0, 1) := by decide +kernel
theorem dX2_beginField_24 : decode cX2_beginField 24 = .ok (.getfield 36, 3) := by decide +kernel
theorem dX2_beginField_27 : decode cX2_beginField 27 = .ok (.sipush 254, 3) := by decide +kernel
theorem dX2_beginField_30 : decode cX2_beginField 30 = .ok (.if_icmp .ne 11, 3) := by decide +kernel
theorem dX2_beginField_33 : decode cX2_beginField 33 = .ok (.aload_n 0, 1) := by decide +kernel
theorem dX2_beginField_34 : decode cX2_beginField 34 = .ok (.iconst 1, 1) := by decide +kernel
theorem dX2_beginField_35 : decode cX2_beginField 35 = .ok (.putfield 22, 3) := by decide +kernel
theorem dX2_beginField_38 : decode cX2_beginField 38 = .ok (.goto 42, 3) := by decide +kernel
theorem dX2_beginField_41 : decode cX2_beginField 41 = .ok (.iload_n 1, 1) := by decide +kernel
theorem dX2_beginField_42 : decode cX2_beginField 42 = .ok (.ifCond .eq 31, 3) := by decide +kernel
theorem dX2_beginField_45 : decode cX2_beginField 45 = .ok (.aload_n 0, 1) := by decide +kernel
theorem dX2_beginField_46 : decode cX2_beginField 46 = .ok (.getfield 36, 3) := by decide +kernel
theorem dX2_beginField_49 : decode cX2_beginField 49 = .ok (.sipush 251, 3) := by decide +kernel
theorem dX2_beginField_52 : decode cX2_beginField 52 = .ok (.if_icmp .eq 13, 3) := by decide +kernel
theorem dX2_beginField_55 : decode cX2_beginField 55 = .ok (.aload_n 0, 1) := by decide +kernel
theorem dX2_beginField_56 : decode cX2_beginField 56 = .ok (.getfield 36, 3) := by decide +kernel
theorem dX2_beginField_59 : decode cX2_beginField 59 = .ok (.sipush 248, 3) := by decide +kernel
theorem dX2_beginField_62 : decode cX2_beginField 62 = .ok (.if_icmp .ne 11, 3) := by decide +kernel
theorem dX2_beginField_65 : decode cX2_beginField 65 = .ok (.aload_n 0, 1) := by decide +kernel
theorem dX2_beginField_66 : decode cX2_beginField 66 = .ok (.iconst 2, 1) := by decide +kernel
theorem dX2_beginField_67 : decode cX2_beginField 67 = .ok (.putfield 22, 3) := by decide +kernel
theorem dX2_beginField_70 : decode cX2_beginField 70 = .ok (.goto 10, 3) := by decide +kernel
theorem dX2_beginField_73 : decode cX2_beginField 73 = .ok (.aload_n 0, 1) := by decide +kernel
theorem dX2_beginField_74 : decode cX2_beginField 74 = .ok (.iconst 0, 1) := by decide +kernel
theorem dX2_beginField_75 : decode cX2_beginField 75 = .ok (.putfield 15, 3) := by decide +kernel
theorem dX2_beginField_78 : decode cX2_beginField 78 = .ok (.iconst 0, 1) := by decide +kernel
theorem dX2_beginField_79 : decode cX2_beginField 79 = .ok (.ireturn, 1) := by decide +kernel
theorem dX2_beginField_80 : decode cX2_beginField 80 = .ok (.aload_n 0, 1) := by decide +kernel
theorem dX2_beginField_81 : decode cX2_beginField 81 = .ok (.aload_n 0, 1) := by decide +kernel
theorem dX2_beginField_82 : decode cX2_beginField 82 = .ok (.getfield 22, 3) := by decide +kernel
theorem dX2_beginField_85 : decode cX2_beginField 85 = .ok (.putfield 45, 3) := by decide +kernel
theorem dX2_beginField_88 : decode cX2_beginField 88 = .ok (.aload_n 0, 1) := by decide +kernel
theorem dX2_beginField_89 : decode cX2_beginField 89 = .ok (.aload_n 0, 1) := by decide +kernel
theorem dX2_beginField_90 : decode cX2_beginField 90 = .ok (.getfield 36, 3) := by decide +kernel
theorem dX2_beginField_93 : decode cX2_beginField 93 = .ok (.putfield 48, 3) := by decide +kernel
theorem dX2_beginField_96 : decode cX2_beginField 96 = .ok (.aload_n 0, 1) := by decide +kernel
theorem dX2_beginField_97 : decode cX2_beginField 97 = .ok (.iconst 0, 1) := by decide +kernel
theorem dX2_beginField_98 : decode cX2_beginField 98 = .ok (.putfield 51, 3) := by decide +kernel
theorem dX2_beginField_101 : decode cX2_beginField 101 = .ok (.aload_n 0, 1) := by decide +kernel
theorem dX2_beginField_102 : decode cX2_beginField 102 = .ok (.ldc 28, 2) := by decide +kernel
theorem dX2_beginField_104 : decode cX2_beginField 104 = .ok (.putfield 54, 3) := by decide +kernel
theorem dX2_beginField_107 : decode cX2_beginField 107 = .ok (.iconst 0, 1) := by decide +kernel
theorem dX2_beginField_108 : decode cX2_beginField 108 = .ok (.istore_n 2, 1) := by decide +kernel
theorem dX2_beginField_109 : decode cX2_beginField 109 = .ok (.iload_n 2, 1) := by decide +kernel
theorem dX2_beginField_110 : decode cX2_beginField 110 = .ok (.iconst 3, 1) := by decide +kernel
theorem dX2_beginField_111 : decode cX2_beginField 111 = .ok (.if_icmp .ge 23, 3) := by decide +kernel
theorem dX2_beginField_114 : decode cX2_beginField 114 = .ok (.aload_n 0, 1) := by decide +kernel
theorem dX2_beginField_115 : decode cX2_beginField 115 = .ok (.aload_n 0, 1) := by decide +kernel
theorem dX2_beginField_116 : decode cX2_beginField 116 = .ok (.getfield 54, 3) := by decide +kernel
theorem dX2_beginField_119 : decode cX2_beginField 119 = .ok (.sipush 161, 3) := by decide +kernel
theorem dX2_beginField_122 : decode cX2_beginField 122 = .ok (.invokestatic 57, 3) := by decide +kernel
theorem dX2_beginField_125 : decode cX2_beginField 125 = .ok (.putfield 54, 3) := by decide +kernel
theorem dX2_beginField_128 : decode cX2_beginField 128 = .ok (.iinc 2 1, 3) := by decide +kernel
theorem dX2_beginField_131 : decode cX2_beginField 131 = .ok (.goto (-22), 3) := by decide +kernel
theorem dX2_beginField_134 : decode cX2_beginField 134 = .ok (.aload_n 0, 1) := by decide +kernel
theorem dX2_beginField_135 : decode cX2_beginField 135 = .ok (.aload_n 0, 1) := by decide +kernel
theorem dX2_beginField_136 : decode cX2_beginField 136 = .ok (.getfield 54, 3) := by decide +kernel
theorem dX2_beginField_139 : decode cX2_beginField 139 = .ok (.aload_n 0, 1) := by decide +kernel
theorem dX2_beginField_140 : decode cX2_beginField 140 = .ok (.getfield 48, 3) := by decide +kernel
theorem dX2_beginField_143 : decode cX2_beginField 143 = .ok (.invokestatic 57, 3) := by decide +kernel
theorem dX2_beginField_146 : decode cX2_beginField 146 = .ok (.putfield 54, 3) := by decide +kernel
theorem dX2_beginField_149 : decode cX2_beginField 149 = .ok (.iconst 1, 1) := by decide +kernel
theorem dX2_beginField_150 : decode cX2_beginField 150 = .ok (.ireturn, 1) := by decide +kernel
set_option maxRecDepth 20000 in
theorem ggX2_addToField_X5_checkWith : GoodIn wsX2_addToField wsX5_checkWith := goodIn_r _ [10, 11, 12] (by decide +kernel) (by decide +kernel)
set_option maxRecDepth 20000 in
theorem gX2_addToField_X5_checkWith_n57 : GoodIn wsX2_addToField (wsX5_checkWith) := ggX2_addToField_X5_checkWith
set_option maxRecDepth 20000 in
theorem ggX2_addToField_X2_keepIdByte : GoodIn wsX2_addToField wsX2_keepIdByte := goodIn_r _ [17, 4, 2, 18, 19, 6, 24, 25, 26, 27, 28, 29, 30, 31, 32, 33, 34, 35, 36, 37] (by decide +kernel) (by decide +kernel)
set_option maxRecDepth 20000 in
theorem gX2_addToField_X2_keepIdByte : GoodIn wsX2_addToField (wsV RX2 61 RX2 yX2_keepIdByte wsX2_keepIdByte) := goodIn_app (goodIn_of _ (by decide +kernel)) ggX2_addToField_X2_keepIdByte
set_option maxRecDepth 20000 in
theorem ggX2_addToField_X2_isCheckRight : GoodIn wsX2_addToField wsX2_isCheckRight := goodIn_r _ [23, 1, 24, 25, 26, 27, 28, 29, 30, 31, 32, 33, 34, 35, 36, 37] (by decide +kernel) (by decide +kernel)
set_option maxRecDepth 20000 in
theorem gX2_addToField_X2_isCheckRight : GoodIn wsX2_addToField (wsV RX2 64 RX2 yX2_isCheckRight wsX2_isCheckRight) := goodIn_app (goodIn_of _ (by decide +kernel)) ggX2_addToField_X2_isCheckRight
theorem dX2_addToField_0 : decode cX2_addToField 0 = .ok (.aload_n 0, 1) := by decide +kernel
theorem dX2_addToField_1 : decode cX2_addToField 1 = .ok (.aload_n 0, 1) := by decide +kernel
theorem dX2_addToField_2 : decode cX2_addToField 2 = .ok (.getfield 54, 3) := by decide +kernel
theorem dX2_addToField_5 : decode cX2_addToField 5 = .ok (.aload_n 0, 1) := by decide +kernel
theorem dX2_addToField_6 : decode cX2_addToField 6 = .ok (.getfield 36, 3) := by decide +kernel
theorem dX2_addToField_9 : decode cX2_addToField 9 = .ok (.invokestatic 57, 3) := by decide +kernel
theorem dX2_addToField_12 : decode cX2_addToField 12 = .ok (.putfield 54, 3) := by decide +kernel
theorem dX2_addToField_15 : decode cX2_addToField 15 = .ok (.aload_n 0, 1) := by decide +kernel
theorem dX2_addToField_16 : decode cX2_addToField 16 = .ok (.getfield 22, 3) := by decide +kernel
theorem dX2_addToField_19 : decode cX2_addToField 19 = .ok (.iconst 1, 1) := by decide +kernel
theorem dX2_addToField_20 : decode cX2_addToField 20 = .ok (.if_icmp .ne 7, 3) := by decide +kernel
theorem dX2_addToField_23 : decode cX2_addToField 23 = .ok (.aload_n 0, 1) := by decide +kernel
theorem dX2_addToField_24 : decode cX2_addToField 24 = .ok (.invokevirtual 61, 3) := by decide +kernel
theorem dX2_addToField_27 : decode cX2_addToField 27 = .ok (.aload_n 0, 1) := by decide +kernel
theorem dX2_addToField_28 : decode cX2_addToField 28 = .ok (.dup, 1) := by decide +kernel
theorem dX2_addToField_29 : decode cX2_addToField 29 = .ok (.getfield 51, 3) := by decide +kernel
theorem dX2_addToField_32 : decode cX2_addToField 32 = .ok (.iconst 1, 1) := by decide +kernel
theorem dX2_addToField_33 : decode cX2_addToField 33 = .ok (.iadd, 1) := by decide +kernel
theorem dX2_addToField_34 : decode cX2_addToField 34 = .ok (.putfield 51, 3) := by decide +kernel
theorem dX2_addToField_37 : decode cX2_addToField 37 = .ok (.aload_n 0, 1) := by decide +kernel
theorem dX2_addToField_38 : decode cX2_addToField 38 = .ok (.getfield 22, 3) := by decide +kernel
theorem dX2_addToField_41 : decode cX2_addToField 41 = .ok (.iconst 1, 1) := by decide +kernel
theorem dX2_addToField_42 : decode cX2_addToField 42 = .ok (.if_icmp .ne 7, 3) := by decide +kernel
theorem dX2_addToField_45 : decode cX2_addToField 45 = .ok (.iconst 4, 1) := by decide +kernel
theorem dX2_addToField_46 : decode cX2_addToField 46 = .ok (.goto 7, 3) := by decide +kernel
theorem dX2_addToField_49 : decode cX2_addToField 49 = .ok (.aload_n 0, 1) := by decide +kernel
theorem dX2_addToField_50 : decode cX2_addToField 50 = .ok (.getfield 11, 3) := by decide +kernel
theorem dX2_addToField_53 : decode cX2_addToField 53 = .ok (.istore_n 1, 1) := by decide +kernel
theorem dX2_addToField_54 : decode cX2_addToField 54 = .ok (.aload_n 0, 1) := by decide +kernel
theorem dX2_addToField_55 : decode cX2_addToField 55 = .ok (.getfield 51, 3) := by decide +kernel
theorem dX2_addToField_58 : decode cX2_addToField 58 = .ok (.iload_n 1, 1) := by decide +kernel
theorem dX2_addToField_59 : decode cX2_addToField 59 = .ok (.iconst 2, 1) := by decide +kernel
theorem dX2_addToField_60 : decode cX2_addToField 60 = .ok (.iadd, 1) := by decide +kernel
theorem dX2_addToField_61 : decode cX2_addToField 61 = .ok (.if_icmp .ge 5, 3) := by decide +kernel
theorem dX2_addToField_64 : decode cX2_addToField 64 = .ok (.iconst 2, 1) := by decide +kernel
theorem dX2_addToField_65 : decode cX2_addToField 65 = .ok (.ireturn, 1) := by decide +kernel
theorem dX2_addToField_66 : decode cX2_addToField 66 = .ok (.aload_n 0, 1) := by decide +kernel
theorem dX2_addToField_67 : decode cX2_addToField 67 = .ok (.getfield 22, 3) := by decide +kernel
theorem dX2_addToField_70 : decode cX2_addToField 70 = .ok (.iconst 1, 1) := by decide +kernel
theorem dX2_addToField_71 : decode cX2_addToField 71 = .ok (.if_icmp .ne 23, 3) := by decide +kernel
theorem dX2_addToField_74 : decode cX2_addToField 74 = .ok (.aload_n 0, 1) := by decide +kernel
theorem dX2_addToField_75 : decode cX2_addToField 75 = .ok (.invokevirtual 64, 3) := by decide +kernel
theorem dX2_addToField_78 : decode cX2_addToField 78 = .ok (.ifCond .eq 16, 3) := by decide +kernel
theorem dX2_addToField_81 : decode cX2_addToField 81 = .ok (.aload_n 0, 1) := by decide +kernel
theorem dX2_addToField_82 : decode cX2_addToField 82 = .ok (.bipush 16, 2) := by decide +kernel
theorem dX2_addToField_84 : decode cX2_addToField 84 = .ok (.aload_n 0, 1) := by decide +kernel
theorem dX2_addToField_85 : decode cX2_addToField 85 = .ok (.getfield 68, 3) := by decide +kernel
theorem dX2_addToField_88 : decode cX2_addToField 88 = .ok (.iconst 1, 1) := by decide +kernel
theorem dX2_addToField_89 : decode cX2_addToField 89 = .ok (.iand, 1) := by decide +kernel
theorem dX2_addToField_90 : decode cX2_addToField 90 = .ok (.ishl, 1) := by decide +kernel
theorem dX2_addToField_91 : decode cX2_addToField 91 = .ok (.putfield 11, 3) := by decide +kernel
theorem dX2_addToField_94 : decode cX2_addToField 94 = .ok (.aload_n 0, 1) := by decide +kernel
theorem dX2_addToField_95 : decode cX2_addToField 95 = .ok (.iconst 0, 1) := by decide +kernel
theorem dX2_addToField_96 : decode cX2_addToField 96 = .ok (.putfield 22, 3) := by decide +kernel
theorem dX2_addToField_99 : decode cX2_addToField 99 = .ok (.aload_n 0, 1) := by decide +kernel
theorem dX2_addToField_100 : decode cX2_addToField 100 = .ok (.iconst 0, 1) := by decide +kernel
theorem dX2_addToField_101 : decode cX2_addToField 101 = .ok (.putfield 15, 3) := by decide +kernel
theorem dX2_addToField_104 : decode cX2_addToField 104 = .ok (.iconst 3, 1) := by decide +kernel
theorem dX2_addToField_105 : decode cX2_addToField 105 = .ok (.ireturn, 1) := by decide +kernel
theorem dX2_keepIdByte_0 : decode cX2_keepIdByte 0 = .ok (.aload_n 0, 1) := by decide +kernel
theorem dX2_keepIdByte_1 : decode cX2_keepIdByte 1 = .ok (.getfield 51, 3) := by decide +kernel
theorem dX2_keepIdByte_4 : decode cX2_keepIdByte 4 = .ok (.ifCond .ne 14, 3) := by decide +kernel
theorem dX2_keepIdByte_7 : decode cX2_keepIdByte 7 = .ok (.aload_n 0, 1) := by decide +kernel
theorem dX2_keepIdByte_8 : decode cX2_keepIdByte 8 = .ok (.aload_n 0, 1) := by decide +kernel
theorem dX2_keepIdByte_9 : decode cX2_keepIdByte 9 = .ok (.getfield 36, 3) := by decide +kernel
theorem dX2_keepIdByte_12 : decode cX2_keepIdByte 12 = .ok (.putfield 71, 3) := by decide +kernel
theorem dX2_keepIdByte_15 : decode cX2_keepIdByte 15 = .ok (.goto 38, 3) := by decide +kernel
theorem dX2_keepIdByte_18 : decode cX2_keepIdByte 18 = .ok (.aload_n 0, 1) := by decide +kernel
theorem dX2_keepIdByte_19 : decode cX2_keepIdByte 19 = .ok (.getfield 51, 3) := by decide +kernel
theorem dX2_keepIdByte_22 : decode cX2_keepIdByte 22 = .ok (.iconst 2, 1) := by decide +kernel
theorem dX2_keepIdByte_23 : decode cX2_keepIdByte 23 = .ok (.if_icmp .ne 14, 3) := by decide +kernel
theorem dX2_keepIdByte_26 : decode cX2_keepIdByte 26 = .ok (.aload_n 0, 1) := by decide +kernel
theorem dX2_keepIdByte_27 : decode cX2_keepIdByte 27 = .ok (.aload_n 0, 1) := by decide +kernel
theorem dX2_keepIdByte_28 : decode cX2_keepIdByte 28 = .ok (.getfield 36, 3) := by decide +kernel
theorem dX2_keepIdByte_31 : decode cX2_keepIdByte 31 = .ok (.putfield 74, 3) := by decide +kernel
theorem dX2_keepIdByte_34 : decode cX2_keepIdByte 34 = .ok (.goto 19, 3) := by decide +kernel
theorem dX2_keepIdByte_37 : decode cX2_keepIdByte 37 = .ok (.aload_n 0, 1) := by decide +kernel
theorem dX2_keepIdByte_38 : decode cX2_keepIdByte 38 = .ok (.getfield 51, 3) := by decide +kernel
theorem dX2_keepIdByte_41 : decode cX2_keepIdByte 41 = .ok (.iconst 3, 1) := by decide +kernel
theorem dX2_keepIdByte_42 : decode cX2_keepIdByte 42 = .ok (.if_icmp .ne 11, 3) := by decide +kernel
theorem dX2_keepIdByte_45 : decode cX2_keepIdByte 45 = .ok (.aload_n 0, 1) := by decide +kernel
theorem dX2_keepIdByte_46 : decode cX2_keepIdByte 46 = .ok (.aload_n 0, 1) := by decide +kernel
theorem dX2_keepIdByte_47 : decode cX2_keepIdByte 47 = .ok (.getfield 36, 3) := by decide +kernel
theorem dX2_keepIdByte_50 : decode cX2_keepIdByte 50 = .ok (.putfield 68, 3) := by decide +kernel
theorem dX2_keepIdByte_53 : decode cX2_keepIdByte 53 = .ok (.return_, 1) := by decide +kernel
theorem dX2_isCheckRight_0 : decode cX2_isCheckRight 0 = .ok (.aload_n 0, 1) := by decide +kernel
theorem dX2_isCheckRight_1 : decode cX2_isCheckRight 1 = .ok (.getfield 54, 3) := by decide +kernel
theorem dX2_isCheckRight_4 : decode cX2_isCheckRight 4 = .ok (.ifCond .ne 7, 3) := by decide +kernel
theorem dX2_isCheckRight_7 : decode cX2_isCheckRight 7 = .ok (.iconst 1, 1) := by decide +kernel
theorem dX2_isCheckRight_8 : decode cX2_isCheckRight 8 = .ok (.goto 4, 3) := by decide +kernel
theorem dX2_isCheckRight_11 : decode cX2_isCheckRight 11 = .ok (.iconst 0, 1) := by decide +kernel
theorem dX2_isCheckRight_12 : decode cX2_isCheckRight 12 = .ok (.ireturn, 1) := by decide +kernel
theorem dX2_isLatestFieldId_0 : decode cX2_isLatestFieldId 0 = .ok (.aload_n 0, 1) := by decide +kernel
theorem dX2_isLatestFieldId_1 : decode cX2_isLatestFieldId 1 = .ok (.getfield 45, 3) := by decide +kernel
theorem dX2_isLatestFieldId_4 : decode cX2_isLatestFieldId 4 = .ok (.iconst 1, 1) := by decide +kernel
theorem dX2_isLatestFieldId_5 : decode cX2_isLatestFieldId 5 = .ok (.if_icmp .ne 7, 3) := by decide +kernel
theorem dX2_isLatestFieldId_8 : decode cX2_isLatestFieldId 8 = .ok (.iconst 1, 1) := by decide +kernel
theorem dX2_isLatestFieldId_9 : decode cX2_isLatestFieldId 9 = .ok (.goto 4, 3) := by decide +kernel
theorem dX2_isLatestFieldId_12 : decode cX2_isLatestFieldId 12 = .ok (.iconst 0, 1) := by decide +kernel
theorem dX2_isLatestFieldId_13 : decode cX2_isLatestFieldId 13 = .ok (.ireturn, 1) := by decide +kernel
set_option maxRecDepth 20000 in
theorem ggX2_isLatestByteOfCheck_X2_isLatestFieldId : GoodIn wsX2_isLatestByteOfCheck wsX2_isLatestFieldId := goodIn_r _ [7, 8, 9, 10, 11, 12, 13, 14, 15, 16, 17, 18, 19, 20, 21, 22] (by decide +kernel) (by decide +kernel)
set_option maxRecDepth 20000 in
theorem gX2_isLatestByteOfCheck_X2_isLatestFieldId : GoodIn wsX2_isLatestByteOfCheck (wsV RX2 77 RX2 yX2_isLatestFieldId wsX2_isLatestFieldId) := goodIn_app (goodIn_of _ (by decide +kernel)) ggX2_isLatestByteOfCheck_X2_isLatestFieldId
theorem dX2_isLatestByteOfCheck_0 : decode cX2_isLatestByteOfCheck 0 = .ok (.aload_n 0, 1) := by decide +kernel
theorem dX2_isLatestByteOfCheck_1 : decode cX2_isLatestByteOfCheck 1 = .ok (.invokevirtual 77, 3) := by decide +kernel
theorem dX2_isLatestByteOfCheck_4 : decode cX2_isLatestByteOfCheck 4 = .ok (.ifCond .ne 18, 3) := by decide +kernel
theorem dX2_isLatestByteOfCheck_7 : decode cX2_isLatestByteOfCheck 7 = .ok (.aload_n 0, 1) := by decide +kernel
theorem dX2_isLatestByteOfCheck_8 : decode cX2_isLatestByteOfCheck 8 = .ok (.getfield 51, 3) := by decide +kernel
theorem dX2_isLatestByteOfCheck_11 : decode cX2_isLatestByteOfCheck 11 = .ok (.aload_n 0, 1) := by decide +kernel
theorem dX2_isLatestByteOfCheck_12 : decode cX2_isLatestByteOfCheck 12 = .ok (.getfield 11, 3) := by decide +kernel
theorem dX2_isLatestByteOfCheck_15 : decode cX2_isLatestByteOfCheck 15 = .ok (.if_icmp .le 7, 3) := by decide +kernel
theorem dX2_isLatestByteOfCheck_18 : decode cX2_isLatestByteOfCheck 18 = .ok (.iconst 1, 1) := by decide +kernel
theorem dX2_isLatestByteOfCheck_19 : decode cX2_isLatestByteOfCheck 19 = .ok (.goto 4, 3) := by decide +kernel
theorem dX2_isLatestByteOfCheck_22 : decode cX2_isLatestByteOfCheck 22 = .ok (.iconst 0, 1) := by decide +kernel
theorem dX2_isLatestByteOfCheck_23 : decode cX2_isLatestByteOfCheck 23 = .ok (.ireturn, 1) := by decide +kernel
theorem dX3_init_0 : decode cX3_init 0 = .ok (.aload_n 0, 1) := by decide +kernel
theorem dX3_init_1 : decode cX3_init 1 = .ok (.invokespecial 3, 3) := by decide +kernel
theorem dX3_init_4 : decode cX3_init 4 = .ok (.aload_n 0, 1) := by decide +kernel
theorem dX3_init_5 : decode cX3_init 5 = .ok (.sipush 200, 3) := by decide +kernel
theorem dX3_init_8 : decode cX3_init 8 = .ok (.newarray .int, 2) := by decide +kernel
theorem dX3_init_10 : decode cX3_init 10 = .ok (.putfield 11, 3) := by decide +kernel
theorem dX3_init_13 : decode cX3_init 13 = .ok (.return_, 1) := by decide +kernel
theorem dX3_makeEmpty_0 : decode cX3_makeEmpty 0 = .ok (.aload_n 0, 1) := by decide +kernel
theorem dX3_makeEmpty_1 : decode cX3_makeEmpty 1 = .ok (.iconst 0, 1) := by decide +kernel
theorem dX3_makeEmpty_2 : decode cX3_makeEmpty 2 = .ok (.putfield 15, 3) := by decide +kernel
theorem dX3_makeEmpty_5 : decode cX3_makeEmpty 5 = .ok (.aload_n 0, 1) := by decide +kernel
theorem dX3_makeEmpty_6 : decode cX3_makeEmpty 6 = .ok (.iconst 0, 1) := by decide +kernel
theorem dX3_makeEmpty_7 : decode cX3_makeEmpty 7 = .ok (.putfield 19, 3) := by decide +kernel
theorem dX3_makeEmpty_10 : decode cX3_makeEmpty 10 = .ok (.return_, 1) := by decide +kernel
theorem dX3_hasRoomFor_0 : decode cX3_hasRoomFor 0 = .ok (.iload_n 1, 1) := by decide +kernel
theorem dX3_hasRoomFor_1 : decode cX3_hasRoomFor 1 = .ok (.sipush 200, 3) := by decide +kernel
theorem dX3_hasRoomFor_4 : decode cX3_hasRoomFor 4 = .ok (.aload_n 0, 1) := by decide +kernel
theorem dX3_hasRoomFor_5 : decode cX3_hasRoomFor 5 = .ok (.getfield 15, 3) := by decide +kernel
theorem dX3_hasRoomFor_8 : decode cX3_hasRoomFor 8 = .ok (.isub, 1) := by decide +kernel
theorem dX3_hasRoomFor_9 : decode cX3_hasRoomFor 9 = .ok (.if_icmp .gt 7, 3) := by decide +kernel
theorem dX3_hasRoomFor_12 : decode cX3_hasRoomFor 12 = .ok (.iconst 1, 1) := by decide +kernel
theorem dX3_hasRoomFor_13 : decode cX3_hasRoomFor 13 = .ok (.goto 4, 3) := by decide +kernel
theorem dX3_hasRoomFor_16 : decode cX3_hasRoomFor 16 = .ok (.iconst 0, 1) := by decide +kernel
theorem dX3_hasRoomFor_17 : decode cX3_hasRoomFor 17 = .ok (.ireturn, 1) := by decide +kernel
theorem dX3_append_0 : decode cX3_append 0 = .ok (.aload_n 0, 1) := by decide +kernel
theorem dX3_append_1 : decode cX3_append 1 = .ok (.getfield 15, 3) := by decide +kernel
theorem dX3_append_4 : decode cX3_append 4 = .ok (.ifCond .lt 33, 3) := by decide +kernel
theorem dX3_append_7 : decode cX3_append 7 = .ok (.aload_n 0, 1) := by decide +kernel
theorem dX3_append_8 : decode cX3_append 8 = .ok (.getfield 15, 3) := by decide +kernel
theorem dX3_append_11 : decode cX3_append 11 = .ok (.sipush 200, 3) := by decide +kernel
theorem dX3_append_14 : decode cX3_append 14 = .ok (.if_icmp .ge 23, 3) := by decide +kernel
theorem dX3_append_17 : decode cX3_append 17 = .ok (.aload_n 0, 1) := by decide +kernel
theorem dX3_append_18 : decode cX3_append 18 = .ok (.getfield 11, 3) := by decide +kernel
theorem dX3_append_21 : decode cX3_append 21 = .ok (.aload_n 0, 1) := by decide +kernel
theorem dX3_append_22 : decode cX3_append 22 = .ok (.getfield 15, 3) := by decide +kernel
theorem dX3_append_25 : decode cX3_append 25 = .ok (.iload_n 1, 1) := by decide +kernel
theorem dX3_append_26 : decode cX3_append 26 = .ok (.iastore, 1) := by decide +kernel
theorem dX3_append_27 : decode cX3_append 27 = .ok (.aload_n 0, 1) := by decide +kernel
theorem dX3_append_28 : decode cX3_append 28 = .ok (.dup, 1) := by decide +kernel
theorem dX3_append_29 : decode cX3_append 29 = .ok (.getfield 15, 3) := by decide +kernel
theorem dX3_append_32 : decode cX3_append 32 = .ok (.iconst 1, 1) := by decide +kernel
theorem dX3_append_33 : decode cX3_append 33 = .ok (.iadd, 1) := by decide +kernel
theorem dX3_append_34 : decode cX3_append 34 = .ok (.putfield 15, 3) := by decide +kernel
theorem dX3_append_37 : decode cX3_append 37 = .ok (.return_, 1) := by decide +kernel
theorem dX3_byteAt_0 : decode cX3_byteAt 0 = .ok (.iload_n 1, 1) := by decide +kernel
theorem dX3_byteAt_1 : decode cX3_byteAt 1 = .ok (.ifCond .lt 18, 3) := by decide +kernel
theorem dX3_byteAt_4 : decode cX3_byteAt 4 = .ok (.iload_n 1, 1) := by decide +kernel
theorem dX3_byteAt_5 : decode cX3_byteAt 5 = .ok (.aload_n 0, 1) := by decide +kernel
theorem dX3_byteAt_6 : decode cX3_byteAt 6 = .ok (.getfield 15, 3) := by decide +kernel
theorem dX3_byteAt_9 : decode cX3_byteAt 9 = .ok (.if_icmp .ge 10, 3) := by decide +kernel
theorem dX3_byteAt_12 : decode cX3_byteAt 12 = .ok (.iload_n 1, 1) := by decide +kernel
theorem dX3_byteAt_13 : decode cX3_byteAt 13 = .ok (.sipush 200, 3) := by decide +kernel
theorem dX3_byteAt_16 : decode cX3_byteAt 16 = .ok (.if_icmp .lt 5, 3) := by decide +kernel
theorem dX3_byteAt_19 : decode cX3_byteAt 19 = .ok (.iconst (-1), 1) := by decide +kernel
theorem dX3_byteAt_20 : decode cX3_byteAt 20 = .ok (.ireturn, 1) := by decide +kernel
theorem dX3_byteAt_21 : decode cX3_byteAt 21 = .ok (.aload_n 0, 1) := by decide +kernel
theorem dX3_byteAt_22 : decode cX3_byteAt 22 = .ok (.getfield 11, 3) := by decide +kernel
theorem dX3_byteAt_25 : decode cX3_byteAt 25 = .ok (.iload_n 1, 1) := by decide +kernel
theorem dX3_byteAt_26 : decode cX3_byteAt 26 = .ok (.iaload, 1) := by decide +kernel
theorem dX3_byteAt_27 : decode cX3_byteAt 27 = .ok (.ireturn, 1) := by decide +kernel
set_option maxRecDepth 20000 in
theorem ggX3_nextByte_X3_byteAt : GoodIn wsX3_nextByte wsX3_byteAt := goodIn_r _ [6, 7, 8, 9, 10, 11] (by decide +kernel) (by decide +kernel)
set_option maxRecDepth 20000 in
theorem gX3_nextByte_X3_byteAt : GoodIn wsX3_nextByte (wsV RX3 22 RX3 yX3_byteAt wsX3_byteAt) := goodIn_app (goodIn_of _ (by decide +kernel)) ggX3_nextByte_X3_byteAt
theorem dX3_nextByte_0 : decode cX3_nextByte 0 = .ok (.aload_n 0, 1) := by decide +kernel
theorem dX3_nextByte_1 : decode cX3_nextByte 1 = .ok (.aload_n 0, 1) := by decide +kernel
theorem dX3_nextByte_2 : decode cX3_nextByte 2 = .ok (.getfield 19, 3) := by decide +kernel
theorem dX3_nextByte_5 : decode cX3_nextByte 5 = .ok (.invokevirtual 22, 3) := by decide +kernel
theorem dX3_nextByte_8 : decode cX3_nextByte 8 = .ok (.istore_n 1, 1) := by decide +kernel
theorem dX3_nextByte_9 : decode cX3_nextByte 9 = .ok (.iload_n 1, 1) := by decide +kernel
theorem dX3_nextByte_10 : decode cX3_nextByte 10 = .ok (.iconst (-1), 1) := by decide +kernel
theorem dX3_nextByte_11 : decode cX3_nextByte 11 = .ok (.if_icmp .ne 5, 3) := by decide +kernel
theorem dX3_nextByte_14 : decode cX3_nextByte 14 = .ok (.iconst 0, 1) := by decide +kernel
theorem dX3_nextByte_15 : decode cX3_nextByte 15 = .ok (.ireturn, 1) := by decide +kernel
theorem dX3_nextByte_16 : decode cX3_nextByte 16 = .ok (.aload_n 0, 1) := by decide +kernel
theorem dX3_nextByte_17 : decode cX3_nextByte 17 = .ok (.dup, 1) := by decide +kernel
theorem dX3_nextByte_18 : decode cX3_nextByte 18 = .ok (.getfield 19, 3) := by decide +kernel
theorem dX3_nextByte_21 : decode cX3_nextByte 21 = .ok (.iconst 1, 1) := by decide +kernel
theorem dX3_nextByte_22 : decode cX3_nextByte 22 = .ok (.iadd, 1) := by decide +kernel
theorem dX3_nextByte_23 : decode cX3_nextByte 23 = .ok (.putfield 19, 3) := by decide +kernel
theorem dX3_nextByte_26 : decode cX3_nextByte 26 = .ok (.iload_n 1, 1) := by decide +kernel
theorem dX3_nextByte_27 : decode cX3_nextByte 27 = .ok (.ireturn, 1) := by decide +kernel
theorem dX4_init_0 : decode cX4_init 0 = .ok (.aload_n 0, 1) := by decide +kernel
theorem dX4_init_1 : decode cX4_init 1 = .ok (.invokespecial 3, 3) := by decide +kernel
theorem dX4_init_4 : decode cX4_init 4 = .ok (.return_, 1) := by decide +kernel
theorem dX4_start_0 : decode cX4_start 0 = .ok (.aload_n 0, 1) := by decide +kernel
theorem dX4_start_1 : decode cX4_start 1 = .ok (.iconst 0, 1) := by decide +kernel
theorem dX4_start_2 : decode cX4_start 2 = .ok (.putfield 9, 3) := by decide +kernel
theorem dX4_start_5 : decode cX4_start 5 = .ok (.aload_n 0, 1) := by decide +kernel
theorem dX4_start_6 : decode cX4_start 6 = .ok (.iconst 0, 1) := by decide +kernel
theorem dX4_start_7 : decode cX4_start 7 = .ok (.putfield 15, 3) := by decide +kernel
theorem dX4_start_10 : decode cX4_start 10 = .ok (.aload_n 0, 1) := by decide +kernel
theorem dX4_start_11 : decode cX4_start 11 = .ok (.ldc 18, 2) := by decide +kernel
theorem dX4_start_13 : decode cX4_start 13 = .ok (.putfield 19, 3) := by decide +kernel
theorem dX4_start_16 : decode cX4_start 16 = .ok (.aload_n 0, 1) := by decide +kernel
theorem dX4_start_17 : decode cX4_start 17 = .ok (.iconst 0, 1) := by decide +kernel
theorem dX4_start_18 : decode cX4_start 18 = .ok (.putfield 22, 3) := by decide +kernel
theorem dX4_start_21 : decode cX4_start 21 = .ok (.aload_n 0, 1) := by decide +kernel
theorem dX4_start_22 : decode cX4_start 22 = .ok (.iconst 0, 1) := by decide +kernel
theorem dX4_start_23 : decode cX4_start 23 = .ok (.putfield 25, 3) := by decide +kernel
theorem dX4_start_26 : decode cX4_start 26 = .ok (.aload_n 0, 1) := by decide +kernel
theorem dX4_start_27 : decode cX4_start 27 = .ok (.iconst 0, 1) := by decide +kernel
theorem dX4_start_28 : decode cX4_start 28 = .ok (.putfield 29, 3) := by decide +kernel
theorem dX4_start_31 : decode cX4_start 31 = .ok (.return_, 1) := by decide +kernel
set_option maxRecDepth 20000 in
theorem ggX4_putMark_X5_checkWith : GoodIn wsX4_putMark wsX5_checkWith := goodIn_r _ [7, 8, 9] (by decide +kernel) (by decide +kernel)
set_option maxRecDepth 20000 in
theorem gX4_putMark_X5_checkWith_n32 : GoodIn wsX4_putMark (wsX5_checkWith) := ggX4_putMark_X5_checkWith
set_option maxRecDepth 20000 in
theorem ggX4_putMark_X4_putWord : GoodIn wsX4_putMark wsX4_putWord := goodIn_r _ [14, 15, 16, 17, 18, 19, 20, 21, 22, 23, 24] (by decide +kernel) (by decide +kernel)
set_option maxRecDepth 20000 in
theorem gX4_putMark_X4_putWord : GoodIn wsX4_putMark (wsV RX4 36 RX4 yX4_putWord wsX4_putWord) := goodIn_app (goodIn_of _ (by decide +kernel)) ggX4_putMark_X4_putWord
theorem dX4_putMark_0 : decode cX4_putMark 0 = .ok (.aload_n 0, 1) := by decide +kernel
theorem dX4_putMark_1 : decode cX4_putMark 1 = .ok (.getfield 25, 3) := by decide +kernel
theorem dX4_putMark_4 : decode cX4_putMark 4 = .ok (.ifCond .ne 9, 3) := by decide +kernel
theorem dX4_putMark_7 : decode cX4_putMark 7 = .ok (.aload_n 0, 1) := by decide +kernel
theorem dX4_putMark_8 : decode cX4_putMark 8 = .ok (.ldc 18, 2) := by decide +kernel
theorem dX4_putMark_10 : decode cX4_putMark 10 = .ok (.putfield 19, 3) := by decide +kernel
theorem dX4_putMark_13 : decode cX4_putMark 13 = .ok (.aload_n 0, 1) := by decide +kernel
theorem dX4_putMark_14 : decode cX4_putMark 14 = .ok (.aload_n 0, 1) := by decide +kernel
theorem dX4_putMark_15 : decode cX4_putMark 15 = .ok (.getfield 19, 3) := by decide +kernel
theorem dX4_putMark_18 : decode cX4_putMark 18 = .ok (.sipush 161, 3) := by decide +kernel
theorem dX4_putMark_21 : decode cX4_putMark 21 = .ok (.invokestatic 32, 3) := by decide +kernel
theorem dX4_putMark_24 : decode cX4_putMark 24 = .ok (.putfield 19, 3) := by decide +kernel
theorem dX4_putMark_27 : decode cX4_putMark 27 = .ok (.aload_n 0, 1) := by decide +kernel
theorem dX4_putMark_28 : decode cX4_putMark 28 = .ok (.iconst 1, 1) := by decide +kernel
theorem dX4_putMark_29 : decode cX4_putMark 29 = .ok (.putfield 25, 3) := by decide +kernel
theorem dX4_putMark_32 : decode cX4_putMark 32 = .ok (.aload_n 0, 1) := by decide +kernel
theorem dX4_putMark_33 : decode cX4_putMark 33 = .ok (.iconst 1, 1) := by decide +kernel
theorem dX4_putMark_34 : decode cX4_putMark 34 = .ok (.putfield 15, 3) := by decide +kernel
theorem dX4_putMark_37 : decode cX4_putMark 37 = .ok (.aload_n 0, 1) := by decide +kernel
theorem dX4_putMark_38 : decode cX4_putMark 38 = .ok (.sipush 17545, 3) := by decide +kernel
theorem dX4_putMark_41 : decode cX4_putMark 41 = .ok (.invokevirtual 36, 3) := by decide +kernel
theorem dX4_putMark_44 : decode cX4_putMark 44 = .ok (.return_, 1) := by decide +kernel
set_option maxRecDepth 20000 in
theorem ggX4_putByte_X5_checkWith : GoodIn wsX4_putByte wsX5_checkWith := goodIn_r _ [4, 5, 6] (by decide +kernel) (by decide +kernel)
set_option maxRecDepth 20000 in
theorem gX4_putByte_X5_checkWith_n32 : GoodIn wsX4_putByte (wsX5_checkWith) := ggX4_putByte_X5_checkWith
set_option maxRecDepth 20000 in
theorem ggX4_putByte_X4_putUnchecked : GoodIn wsX4_putByte wsX4_putUnchecked := goodIn_r _ [11, 12, 13, 14, 15, 16, 10, 17, 18, 19, 20, 21, 22, 23, 24, 25, 26, 27] (by decide +kernel) (by decide +kernel)
set_option maxRecDepth 20000 in
theorem gX4_putByte_X4_putUnchecked : GoodIn wsX4_putByte (wsV RX4 40 RX4 yX4_putUnchecked wsX4_putUnchecked) := goodIn_app (goodIn_of _ (by decide +kernel)) ggX4_putByte_X4_putUnchecked
theorem dX4_putByte_0 : decode cX4_putByte 0 = .ok (.aload_n 0, 1) := by decide +kernel
theorem dX4_putByte_1 : decode cX4_putByte 1 = .ok (.aload_n 0, 1) := by decide +kernel
theorem dX4_putByte_2 : decode cX4_putByte 2 = .ok (.getfield 19, 3) := by decide +kernel
theorem dX4_putByte_5 : decode cX4_putByte 5 = .ok (.iload_n 1, 1) := by decide +kernel
theorem dX4_putByte_6 : decode cX4_putByte 6 = .ok (.invokestatic 32, 3) := by decide +kernel
theorem dX4_putByte_9 : decode cX4_putByte 9 = .ok (.putfield 19, 3) := by decide +kernel
theorem dX4_putByte_12 : decode cX4_putByte 12 = .ok (.aload_n 0, 1) := by decide +kernel
theorem dX4_putByte_13 : decode cX4_putByte 13 = .ok (.iload_n 1, 1) := by decide +kernel
theorem dX4_putByte_14 : decode cX4_putByte 14 = .ok (.invokevirtual 40, 3) := by decide +kernel
theorem dX4_putByte_17 : decode cX4_putByte 17 = .ok (.return_, 1) := by decide +kernel
set_option maxRecDepth 20000 in
theorem ggX4_putHalfOfCheck_X4_putUnchecked : GoodIn wsX4_putHalfOfCheck wsX4_putUnchecked := goodIn_r _ [7, 8, 9, 10, 11, 12, 6, 13, 14, 15, 16, 17, 18, 19, 20, 21, 22, 23] (by decide +kernel) (by decide +kernel)
set_option maxRecDepth 20000 in
theorem gX4_putHalfOfCheck_X4_putUnchecked : GoodIn wsX4_putHalfOfCheck (wsV RX4 40 RX4 yX4_putUnchecked wsX4_putUnchecked) := goodIn_app (goodIn_of _ (by decide +kernel)) ggX4_putHalfOfCheck_X4_putUnchecked
theorem dX4_putHalfOfCheck_0 : decode cX4_putHalfOfCheck 0 = .ok (.aload_n 0, 1) := by decide +kernel
theorem dX4_putHalfOfCheck_1 : decode cX4_putHalfOfCheck 1 = .ok (.getfield 29, 3) := by decide +kernel
theorem dX4_putHalfOfCheck_4 : decode cX4_putHalfOfCheck 4 = .ok (.ifCond .eq 14, 3) := by decide +kernel
theorem dX4_putHalfOfCheck_7 : decode cX4_putHalfOfCheck 7 = .ok (.aload_n 0, 1) := by decide +kernel
theorem dX4_putHalfOfCheck_8 : decode cX4_putHalfOfCheck 8 = .ok (.getfield 19, 3) := by decide +kernel
theorem dX4_putHalfOfCheck_11 : decode cX4_putHalfOfCheck 11 = .ok (.sipush 255, 3) := by decide +kernel
theorem dX4_putHalfOfCheck_14 : decode cX4_putHalfOfCheck 14 = .ok (.iand, 1) := by decide +kernel
theorem dX4_putHalfOfCheck_15 : decode cX4_putHalfOfCheck 15 = .ok (.goto 10, 3) := by decide +kernel
theorem dX4_putHalfOfCheck_18 : decode cX4_putHalfOfCheck 18 = .ok (.aload_n 0, 1) := by decide +kernel
theorem dX4_putHalfOfCheck_19 : decode cX4_putHalfOfCheck 19 = .ok (.getfield 19, 3) := by decide +kernel
theorem dX4_putHalfOfCheck_22 : decode cX4_putHalfOfCheck 22 = .ok (.bipush 8, 2) := by decide +kernel
theorem dX4_putHalfOfCheck_24 : decode cX4_putHalfOfCheck 24 = .ok (.ishr, 1) := by decide +kernel
theorem dX4_putHalfOfCheck_25 : decode cX4_putHalfOfCheck 25 = .ok (.istore_n 1, 1) := by decide +kernel
theorem dX4_putHalfOfCheck_26 : decode cX4_putHalfOfCheck 26 = .ok (.aload_n 0, 1) := by decide +kernel
theorem dX4_putHalfOfCheck_27 : decode cX4_putHalfOfCheck 27 = .ok (.aload_n 0, 1) := by decide +kernel
theorem dX4_putHalfOfCheck_28 : decode cX4_putHalfOfCheck 28 = .ok (.getfield 29, 3) := by decide +kernel
theorem dX4_putHalfOfCheck_31 : decode cX4_putHalfOfCheck 31 = .ok (.ifCond .ne 7, 3) := by decide +kernel
theorem dX4_putHalfOfCheck_34 : decode cX4_putHalfOfCheck 34 = .ok (.iconst 1, 1) := by decide +kernel
theorem dX4_putHalfOfCheck_35 : decode cX4_putHalfOfCheck 35 = .ok (.goto 4, 3) := by decide +kernel
theorem dX4_putHalfOfCheck_38 : decode cX4_putHalfOfCheck 38 = .ok (.iconst 0, 1) := by decide +kernel
theorem dX4_putHalfOfCheck_39 : decode cX4_putHalfOfCheck 39 = .ok (.putfield 29, 3) := by decide +kernel
theorem dX4_putHalfOfCheck_42 : decode cX4_putHalfOfCheck 42 = .ok (.aload_n 0, 1) := by decide +kernel
theorem dX4_putHalfOfCheck_43 : decode cX4_putHalfOfCheck 43 = .ok (.iload_n 1, 1) := by decide +kernel
theorem dX4_putHalfOfCheck_44 : decode cX4_putHalfOfCheck 44 = .ok (.invokevirtual 40, 3) := by decide +kernel
theorem dX4_putHalfOfCheck_47 : decode cX4_putHalfOfCheck 47 = .ok (.return_, 1) := by decide +kernel
theorem dX4_nextCell_0 : decode cX4_nextCell 0 = .ok (.aload_n 0, 1) := by decide +kernel
theorem dX4_nextCell_1 : decode cX4_nextCell 1 = .ok (.dup, 1) := by decide +kernel
theorem dX4_nextCell_2 : decode cX4_nextCell 2 = .ok (.getfield 9, 3) := by decide +kernel
theorem dX4_nextCell_5 : decode cX4_nextCell 5 = .ok (.iconst 1, 1) := by decide +kernel
theorem dX4_nextCell_6 : decode cX4_nextCell 6 = .ok (.isub, 1) := by decide +kernel
theorem dX4_nextCell_7 : decode cX4_nextCell 7 = .ok (.putfield 9, 3) := by decide +kernel
theorem dX4_nextCell_10 : decode cX4_nextCell 10 = .ok (.aload_n 0, 1) := by decide +kernel
theorem dX4_nextCell_11 : decode cX4_nextCell 11 = .ok (.getfield 43, 3) := by decide +kernel
theorem dX4_nextCell_14 : decode cX4_nextCell 14 = .ok (.aload_n 0, 1) := by decide +kernel
theorem dX4_nextCell_15 : decode cX4_nextCell 15 = .ok (.getfield 9, 3) := by decide +kernel
theorem dX4_nextCell_18 : decode cX4_nextCell 18 = .ok (.bipush 15, 2) := by decide +kernel
theorem dX4_nextCell_20 : decode cX4_nextCell 20 = .ok (.iand, 1) := by decide +kernel
theorem dX4_nextCell_21 : decode cX4_nextCell 21 = .ok (.ishr, 1) := by decide +kernel
theorem dX4_nextCell_22 : decode cX4_nextCell 22 = .ok (.iconst 1, 1) := by decide +kernel
theorem dX4_nextCell_23 : decode cX4_nextCell 23 = .ok (.iand, 1) := by decide +kernel
theorem dX4_nextCell_24 : decode cX4_nextCell 24 = .ok (.ireturn, 1) := by decide +kernel
set_option maxRecDepth 20000 in
theorem ggX4_putUnchecked_X4_putWord : GoodIn wsX4_putUnchecked wsX4_putWord := goodIn_r _ [7, 8, 9, 10, 11, 12, 13, 14, 15, 16, 17] (by decide +kernel) (by decide +kernel)
set_option maxRecDepth 20000 in
theorem gX4_putUnchecked_X4_putWord : GoodIn wsX4_putUnchecked (wsV RX4 36 RX4 yX4_putWord wsX4_putWord) := goodIn_app (goodIn_of _ (by decide +kernel)) ggX4_putUnchecked_X4_putWord
theorem dX4_putUnchecked_0 : decode cX4_putUnchecked 0 = .ok (.iconst 0, 1) := by decide +kernel
theorem dX4_putUnchecked_1 : decode cX4_putUnchecked 1 = .ok (.istore_n 2, 1) := by decide +kernel
theorem dX4_putUnchecked_2 : decode cX4_putUnchecked 2 = .ok (.bipush 7, 2) := by decide +kernel
theorem dX4_putUnchecked_4 : decode cX4_putUnchecked 4 = .ok (.istore_n 3, 1) := by decide +kernel
theorem dX4_putUnchecked_5 : decode cX4_putUnchecked 5 = .ok (.iload_n 3, 1) := by decide +kernel
theorem dX4_putUnchecked_6 : decode cX4_putUnchecked 6 = .ok (.ifCond .lt 45, 3) := by decide +kernel
theorem dX4_putUnchecked_9 : decode cX4_putUnchecked 9 = .ok (.iload_n 1, 1) := by decide +kernel
theorem dX4_putUnchecked_10 : decode cX4_putUnchecked 10 = .ok (.iload_n 3, 1) := by decide +kernel
theorem dX4_putUnchecked_11 : decode cX4_putUnchecked 11 = .ok (.ishr, 1) := by decide +kernel
theorem dX4_putUnchecked_12 : decode cX4_putUnchecked 12 = .ok (.iconst 1, 1) := by decide +kernel
theorem dX4_putUnchecked_13 : decode cX4_putUnchecked 13 = .ok (.iand, 1) := by decide +kernel
theorem dX4_putUnchecked_14 : decode cX4_putUnchecked 14 = .ok (.istore 4, 2) := by decide +kernel
theorem dX4_putUnchecked_16 : decode cX4_putUnchecked 16 = .ok (.aload_n 0, 1) := by decide +kernel
theorem dX4_putUnchecked_17 : decode cX4_putUnchecked 17 = .ok (.getfield 15, 3) := by decide +kernel
theorem dX4_putUnchecked_20 : decode cX4_putUnchecked 20 = .ok (.iload 4, 2) := by decide +kernel
theorem dX4_putUnchecked_22 : decode cX4_putUnchecked 22 = .ok (.ior, 1) := by decide +kernel
theorem dX4_putUnchecked_23 : decode cX4_putUnchecked 23 = .ok (.iconst 1, 1) := by decide +kernel
theorem dX4_putUnchecked_24 : decode cX4_putUnchecked 24 = .ok (.ixor, 1) := by decide +kernel
theorem dX4_putUnchecked_25 : decode cX4_putUnchecked 25 = .ok (.istore 5, 2) := by decide +kernel
theorem dX4_putUnchecked_27 : decode cX4_putUnchecked 27 = .ok (.iload_n 2, 1) := by decide +kernel
theorem dX4_putUnchecked_28 : decode cX4_putUnchecked 28 = .ok (.iconst 2, 1) := by decide +kernel
theorem dX4_putUnchecked_29 : decode cX4_putUnchecked 29 = .ok (.ishl, 1) := by decide +kernel
theorem dX4_putUnchecked_30 : decode cX4_putUnchecked 30 = .ok (.iload 5, 2) := by decide +kernel
theorem dX4_putUnchecked_32 : decode cX4_putUnchecked 32 = .ok (.iconst 1, 1) := by decide +kernel
theorem dX4_putUnchecked_33 : decode cX4_putUnchecked 33 = .ok (.ishl, 1) := by decide +kernel
theorem dX4_putUnchecked_34 : decode cX4_putUnchecked 34 = .ok (.ior, 1) := by decide +kernel
theorem dX4_putUnchecked_35 : decode cX4_putUnchecked 35 = .ok (.iload 4, 2) := by decide +kernel
theorem dX4_putUnchecked_37 : decode cX4_putUnchecked 37 = .ok (.ior, 1) := by decide +kernel
theorem dX4_putUnchecked_38 : decode cX4_putUnchecked 38 = .ok (.istore_n 2, 1) := by decide +kernel
theorem dX4_putUnchecked_39 : decode cX4_putUnchecked 39 = .ok (.aload_n 0, 1) := by decide +kernel
theorem dX4_putUnchecked_40 : decode cX4_putUnchecked 40 = .ok (.iload 4, 2) := by decide +kernel
theorem dX4_putUnchecked_42 : decode cX4_putUnchecked 42 = .ok (.putfield 15, 3) := by decide +kernel
theorem dX4_putUnchecked_45 : decode cX4_putUnchecked 45 = .ok (.iinc 3 (-1), 3) := by decide +kernel
theorem dX4_putUnchecked_48 : decode cX4_putUnchecked 48 = .ok (.goto (-43), 3) := by decide +kernel
theorem dX4_putUnchecked_51 : decode cX4_putUnchecked 51 = .ok (.aload_n 0, 1) := by decide +kernel
theorem dX4_putUnchecked_52 : decode cX4_putUnchecked 52 = .ok (.iconst 0, 1) := by decide +kernel
theorem dX4_putUnchecked_53 : decode cX4_putUnchecked 53 = .ok (.putfield 25, 3) := by decide +kernel
theorem dX4_putUnchecked_56 : decode cX4_putUnchecked 56 = .ok (.aload_n 0, 1) := by decide +kernel
theorem dX4_putUnchecked_57 : decode cX4_putUnchecked 57 = .ok (.iload_n 2, 1) := by decide +kernel
theorem dX4_putUnchecked_58 : decode cX4_putUnchecked 58 = .ok (.invokevirtual 36, 3) := by decide +kernel
theorem dX4_putUnchecked_61 : decode cX4_putUnchecked 61 = .ok (.return_, 1) := by decide +kernel
theorem dX4_putWord_0 : decode cX4_putWord 0 = .ok (.aload_n 0, 1) := by decide +kernel
theorem dX4_putWord_1 : decode cX4_putWord 1 = .ok (.iload_n 1, 1) := by decide +kernel
theorem dX4_putWord_2 : decode cX4_putWord 2 = .ok (.putfield 43, 3) := by decide +kernel
theorem dX4_putWord_5 : decode cX4_putWord 5 = .ok (.aload_n 0, 1) := by decide +kernel
theorem dX4_putWord_6 : decode cX4_putWord 6 = .ok (.bipush 16, 2) := by decide +kernel
theorem dX4_putWord_8 : decode cX4_putWord 8 = .ok (.putfield 9, 3) := by decide +kernel
theorem dX4_putWord_11 : decode cX4_putWord 11 = .ok (.aload_n 0, 1) := by decide +kernel
theorem dX4_putWord_12 : decode cX4_putWord 12 = .ok (.dup, 1) := by decide +kernel
theorem dX4_putWord_13 : decode cX4_putWord 13 = .ok (.getfield 22, 3) := by decide +kernel
theorem dX4_putWord_16 : decode cX4_putWord 16 = .ok (.iconst 1, 1) := by decide +kernel
theorem dX4_putWord_17 : decode cX4_putWord 17 = .ok (.iadd, 1) := by decide +kernel
theorem dX4_putWord_18 : decode cX4_putWord 18 = .ok (.putfield 22, 3) := by decide +kernel
theorem dX4_putWord_21 : decode cX4_putWord 21 = .ok (.return_, 1) := by decide +kernel
set_option maxRecDepth 20000 in
theorem ggX5_init_X1_init : GoodIn wsX5_init wsX1_init := goodIn_r _ [22, 23, 2, 3, 24, 25, 50, 51, 52, 53] (by decide +kernel) (by decide +kernel)
set_option maxRecDepth 20000 in
theorem gX5_init_X1_init : GoodIn wsX5_init (wsX1_init) := ggX5_init_X1_init
set_option maxRecDepth 20000 in
theorem ggX5_init_X2_init : GoodIn wsX5_init wsX2_init := goodIn_r _ [28, 29, 2, 3, 30, 58, 59, 60, 61, 62, 63, 64, 65, 66, 67, 68, 69, 70, 71] (by decide +kernel) (by decide +kernel)
set_option maxRecDepth 20000 in
theorem gX5_init_X2_init : GoodIn wsX5_init (wsX2_init) := ggX5_init_X2_init
set_option maxRecDepth 20000 in
theorem ggX5_init_X0_init : GoodIn wsX5_init wsX0_init := goodIn_r _ [33, 34, 2, 3, 35, 36, 37, 38, 39, 40, 41, 42, 43, 44, 72, 73, 74, 75, 76, 77, 78, 79, 80, 81, 82, 83, 87, 88, 89, 90, 91, 92, 93] (by decide +kernel) (by decide +kernel)
set_option maxRecDepth 20000 in
theorem gX5_init_X0_init : GoodIn wsX5_init (wsX0_init) := ggX5_init_X0_init
set_option maxRecDepth 20000 in
theorem ggX5_init_X3_init : GoodIn wsX5_init wsX3_init := goodIn_r _ [47, 48, 2, 3, 24, 49, 84, 85, 86] (by decide +kernel) (by decide +kernel)
set_option maxRecDepth 20000 in
theorem gX5_init_X3_init : GoodIn wsX5_init (wsX3_init) := ggX5_init_X3_init
theorem dX5_init_0 : decode cX5_init 0 = .ok (.aload_n 0, 1) := by decide +kernel
theorem dX5_init_1 : decode cX5_init 1 = .ok (.invokespecial 1, 3) := by decide +kernel
theorem dX5_init_4 : decode cX5_init 4 = .ok (.aload_n 0, 1) := by decide +kernel
theorem dX5_init_5 : decode cX5_init 5 = .ok (.new 7, 3) := by decide +kernel
theorem dX5_init_8 : decode cX5_init 8 = .ok (.dup, 1) := by decide +kernel
theorem dX5_init_9 : decode cX5_init 9 = .ok (.invokespecial 9, 3) := by decide +kernel
theorem dX5_init_12 : decode cX5_init 12 = .ok (.putfield 10, 3) := by decide +kernel
theorem dX5_init_15 : decode cX5_init 15 = .ok (.aload_n 0, 1) := by decide +kernel
theorem dX5_init_16 : decode cX5_init 16 = .ok (.new 16, 3) := by decide +kernel
theorem dX5_init_19 : decode cX5_init 19 = .ok (.dup, 1) := by decide +kernel
theorem dX5_init_20 : decode cX5_init 20 = .ok (.invokespecial 18, 3) := by decide +kernel
theorem dX5_init_23 : decode cX5_init 23 = .ok (.putfield 19, 3) := by decide +kernel
theorem dX5_init_26 : decode cX5_init 26 = .ok (.aload_n 0, 1) := by decide +kernel
theorem dX5_init_27 : decode cX5_init 27 = .ok (.new 23, 3) := by decide +kernel
theorem dX5_init_30 : decode cX5_init 30 = .ok (.dup, 1) := by decide +kernel
theorem dX5_init_31 : decode cX5_init 31 = .ok (.aload_n 0, 1) := by decide +kernel
theorem dX5_init_32 : decode cX5_init 32 = .ok (.getfield 10, 3) := by decide +kernel
theorem dX5_init_35 : decode cX5_init 35 = .ok (.aload_n 0, 1) := by decide +kernel
theorem dX5_init_36 : decode cX5_init 36 = .ok (.getfield 19, 3) := by decide +kernel
theorem dX5_init_39 : decode cX5_init 39 = .ok (.invokespecial 25, 3) := by decide +kernel
theorem dX5_init_42 : decode cX5_init 42 = .ok (.putfield 28, 3) := by decide +kernel
theorem dX5_init_45 : decode cX5_init 45 = .ok (.aload_n 0, 1) := by decide +kernel
theorem dX5_init_46 : decode cX5_init 46 = .ok (.new 32, 3) := by decide +kernel
theorem dX5_init_49 : decode cX5_init 49 = .ok (.dup, 1) := by decide +kernel
theorem dX5_init_50 : decode cX5_init 50 = .ok (.invokespecial 34, 3) := by decide +kernel
theorem dX5_init_53 : decode cX5_init 53 = .ok (.putfield 35, 3) := by decide +kernel
theorem dX5_init_56 : decode cX5_init 56 = .ok (.return_, 1) := by decide +kernel
set_option maxRecDepth 20000 in
theorem ggX5_command_X0_begin : GoodIn wsX5_command wsX0_begin := goodIn_r _ [6, 7, 8, 9, 10, 11, 12, 13, 14, 15, 16, 17, 18, 19, 5, 20, 21, 22, 23, 24, 25, 26, 27, 28, 29, 30, 31, 32, 33, 34, 35, 36, 37, 38, 39, 40, 41, 42, 43, 44, 45, 46, 51, 52, 53, 54, 55, 56, 57, 58, 59, 60, 61, 62, 63, 64, 65, 66, 67, 68, 69, 70, 71, 72, 73, 74, 75, 76, 77, 78, 79, 80] (by decide +kernel) (by decide +kernel)
set_option maxRecDepth 20000 in
theorem gX5_command_X0_begin : GoodIn wsX5_command (wsV RX5 39 RX0 yX0_begin wsX0_begin) := goodIn_app (goodIn_of _ (by decide +kernel)) ggX5_command_X0_begin
theorem dX5_command_0 : decode cX5_command 0 = .ok (.aload_n 0, 1) := by decide +kernel
theorem dX5_command_1 : decode cX5_command 1 = .ok (.getfield 28, 3) := by decide +kernel
theorem dX5_command_4 : decode cX5_command 4 = .ok (.iload_n 1, 1) := by decide +kernel
theorem dX5_command_5 : decode cX5_command 5 = .ok (.iload_n 2, 1) := by decide +kernel
theorem dX5_command_6 : decode cX5_command 6 = .ok (.invokevirtual 39, 3) := by decide +kernel
theorem dX5_command_9 : decode cX5_command 9 = .ok (.ireturn, 1) := by decide +kernel
set_option maxRecDepth 20000 in
theorem ggX5_force_X0_has : GoodIn wsX5_force wsX0_has := goodIn_r _ [6, 7, 24, 25, 26, 27, 28, 29, 30, 31, 32, 33, 34, 35] (by decide +kernel) (by decide +kernel)
set_option maxRecDepth 20000 in
theorem gX5_force_X0_has : GoodIn wsX5_force (wsV RX5 43 RX0 yX0_has wsX0_has) := goodIn_app (goodIn_of _ (by decide +kernel)) ggX5_force_X0_has
set_option maxRecDepth 20000 in
theorem ggX5_force_X0_end : GoodIn wsX5_force wsX0_end := goodIn_r _ [11, 7, 12, 13, 14, 15, 16, 17, 18, 19, 24, 25, 26, 27, 28, 29, 30, 31, 32, 33, 34, 35, 36, 37, 38, 39, 40, 41, 42, 43, 44, 45, 46, 47, 48, 49] (by decide +kernel) (by decide +kernel)
set_option maxRecDepth 20000 in
theorem gX5_force_X0_end : GoodIn wsX5_force (wsV RX5 47 RX0 yX0_end wsX0_end) := goodIn_app (goodIn_of _ (by decide +kernel)) ggX5_force_X0_end
theorem dX5_force_0 : decode cX5_force 0 = .ok (.aload_n 0, 1) := by decide +kernel
theorem dX5_force_1 : decode cX5_force 1 = .ok (.getfield 28, 3) := by decide +kernel
theorem dX5_force_4 : decode cX5_force 4 = .ok (.iconst 1, 1) := by decide +kernel
theorem dX5_force_5 : decode cX5_force 5 = .ok (.invokevirtual 43, 3) := by decide +kernel
theorem dX5_force_8 : decode cX5_force 8 = .ok (.ifCond .ne 5, 3) := by decide +kernel
theorem dX5_force_11 : decode cX5_force 11 = .ok (.iconst 0, 1) := by decide +kernel
theorem dX5_force_12 : decode cX5_force 12 = .ok (.ireturn, 1) := by decide +kernel
theorem dX5_force_13 : decode cX5_force 13 = .ok (.aload_n 0, 1) := by decide +kernel
theorem dX5_force_14 : decode cX5_force 14 = .ok (.getfield 28, 3) := by decide +kernel
theorem dX5_force_17 : decode cX5_force 17 = .ok (.invokevirtual 47, 3) := by decide +kernel
theorem dX5_force_20 : decode cX5_force 20 = .ok (.iconst 1, 1) := by decide +kernel
theorem dX5_force_21 : decode cX5_force 21 = .ok (.ireturn, 1) := by decide +kernel
set_option maxRecDepth 20000 in
theorem ggX5_set_X5_isByte : GoodIn wsX5_set wsX5_isByte := goodIn_r _ [5] (by decide +kernel) (by decide +kernel)
set_option maxRecDepth 20000 in
theorem gX5_set_X5_isByte : GoodIn wsX5_set (va_wsS RX5 50 yX5_isByte wsX5_isByte) := goodIn_app (goodIn_of _ (by decide +kernel)) ggX5_set_X5_isByte
set_option maxRecDepth 20000 in
theorem ggX5_set_X0_has : GoodIn wsX5_set wsX0_has := goodIn_r _ [10, 11, 16, 17, 18, 19, 20, 21, 22, 23, 24, 25, 26, 27] (by decide +kernel) (by decide +kernel)
set_option maxRecDepth 20000 in
theorem gX5_set_X0_has : GoodIn wsX5_set (wsV RX5 43 RX0 yX0_has wsX0_has) := goodIn_app (goodIn_of _ (by decide +kernel)) ggX5_set_X0_has
theorem dX5_set_0 : decode cX5_set 0 = .ok (.iload_n 2, 1) := by decide +kernel
theorem dX5_set_1 : decode cX5_set 1 = .ok (.invokestatic 50, 3) := by decide +kernel
theorem dX5_set_4 : decode cX5_set 4 = .ok (.ifCond .eq 14, 3) := by decide +kernel
theorem dX5_set_7 : decode cX5_set 7 = .ok (.aload_n 0, 1) := by decide +kernel
theorem dX5_set_8 : decode cX5_set 8 = .ok (.getfield 28, 3) := by decide +kernel
theorem dX5_set_11 : decode cX5_set 11 = .ok (.iconst 1, 1) := by decide +kernel
theorem dX5_set_12 : decode cX5_set 12 = .ok (.invokevirtual 43, 3) := by decide +kernel
theorem dX5_set_15 : decode cX5_set 15 = .ok (.ifCond .eq 5, 3) := by decide +kernel
theorem dX5_set_18 : decode cX5_set 18 = .ok (.iconst 0, 1) := by decide +kernel
theorem dX5_set_19 : decode cX5_set 19 = .ok (.ireturn, 1) := by decide +kernel
theorem dX5_set_20 : decode cX5_set 20 = .ok (.iload_n 1, 1) := by decide +kernel
theorem dX5_set_21 : decode cX5_set 21 = .ok (.ifCond .ne 13, 3) := by decide +kernel
theorem dX5_set_24 : decode cX5_set 24 = .ok (.aload_n 0, 1) := by decide +kernel
theorem dX5_set_25 : decode cX5_set 25 = .ok (.getfield 28, 3) := by decide +kernel
theorem dX5_set_28 : decode cX5_set 28 = .ok (.iload_n 2, 1) := by decide +kernel
theorem dX5_set_29 : decode cX5_set 29 = .ok (.putfield 53, 3) := by decide +kernel
theorem dX5_set_32 : decode cX5_set 32 = .ok (.iconst 1, 1) := by decide +kernel
theorem dX5_set_33 : decode cX5_set 33 = .ok (.ireturn, 1) := by decide +kernel
theorem dX5_set_34 : decode cX5_set 34 = .ok (.iload_n 1, 1) := by decide +kernel
theorem dX5_set_35 : decode cX5_set 35 = .ok (.iconst 1, 1) := by decide +kernel
theorem dX5_set_36 : decode cX5_set 36 = .ok (.if_icmp .ne 13, 3) := by decide +kernel
theorem dX5_set_39 : decode cX5_set 39 = .ok (.aload_n 0, 1) := by decide +kernel
theorem dX5_set_40 : decode cX5_set 40 = .ok (.getfield 28, 3) := by decide +kernel
theorem dX5_set_43 : decode cX5_set 43 = .ok (.iload_n 2, 1) := by decide +kernel
theorem dX5_set_44 : decode cX5_set 44 = .ok (.putfield 57, 3) := by decide +kernel
theorem dX5_set_47 : decode cX5_set 47 = .ok (.iconst 1, 1) := by decide +kernel
theorem dX5_set_48 : decode cX5_set 48 = .ok (.ireturn, 1) := by decide +kernel
theorem dX5_set_49 : decode cX5_set 49 = .ok (.iconst 0, 1) := by decide +kernel
theorem dX5_set_50 : decode cX5_set 50 = .ok (.ireturn, 1) := by decide +kernel
set_option maxRecDepth 20000 in
theorem ggX5_give_X5_isByte : GoodIn wsX5_give wsX5_isByte := goodIn_r _ [5] (by decide +kernel) (by decide +kernel)
set_option maxRecDepth 20000 in
theorem gX5_give_X5_isByte : GoodIn wsX5_give (va_wsS RX5 50 yX5_isByte wsX5_isByte) := goodIn_app (goodIn_of _ (by decide +kernel)) ggX5_give_X5_isByte
set_option maxRecDepth 20000 in
theorem ggX5_give_X0_acceptData : GoodIn wsX5_give wsX0_acceptData := goodIn_r _ [10, 11, 12, 17, 18, 19, 20, 21, 22, 23, 24, 25, 26, 27, 28] (by decide +kernel) (by decide +kernel)
set_option maxRecDepth 20000 in
theorem gX5_give_X0_acceptData : GoodIn wsX5_give (wsV RX5 60 RX0 yX0_acceptData wsX0_acceptData) := goodIn_app (goodIn_of _ (by decide +kernel)) ggX5_give_X0_acceptData
theorem dX5_give_0 : decode cX5_give 0 = .ok (.iload_n 1, 1) := by decide +kernel
theorem dX5_give_1 : decode cX5_give 1 = .ok (.invokestatic 50, 3) := by decide +kernel
theorem dX5_give_4 : decode cX5_give 4 = .ok (.ifCond .ne 5, 3) := by decide +kernel
theorem dX5_give_7 : decode cX5_give 7 = .ok (.iconst 0, 1) := by decide +kernel
theorem dX5_give_8 : decode cX5_give 8 = .ok (.ireturn, 1) := by decide +kernel
theorem dX5_give_9 : decode cX5_give 9 = .ok (.aload_n 0, 1) := by decide +kernel
theorem dX5_give_10 : decode cX5_give 10 = .ok (.getfield 28, 3) := by decide +kernel
theorem dX5_give_13 : decode cX5_give 13 = .ok (.iload_n 1, 1) := by decide +kernel
theorem dX5_give_14 : decode cX5_give 14 = .ok (.invokevirtual 60, 3) := by decide +kernel
theorem dX5_give_17 : decode cX5_give 17 = .ok (.iconst 1, 1) := by decide +kernel
theorem dX5_give_18 : decode cX5_give 18 = .ok (.ireturn, 1) := by decide +kernel
set_option maxRecDepth 20000 in
theorem ggX5_take_X0_handOutData : GoodIn wsX5_take wsX0_handOutData := goodIn_r _ [6, 7, 8, 13, 14, 15, 16, 17, 18, 19, 20, 21, 22, 23, 24] (by decide +kernel) (by decide +kernel)
set_option maxRecDepth 20000 in
theorem gX5_take_X0_handOutData : GoodIn wsX5_take (wsV RX5 64 RX0 yX0_handOutData wsX0_handOutData) := goodIn_app (goodIn_of _ (by decide +kernel)) ggX5_take_X0_handOutData
theorem dX5_take_0 : decode cX5_take 0 = .ok (.aload_n 0, 1) := by decide +kernel
theorem dX5_take_1 : decode cX5_take 1 = .ok (.getfield 28, 3) := by decide +kernel
theorem dX5_take_4 : decode cX5_take 4 = .ok (.invokevirtual 64, 3) := by decide +kernel
theorem dX5_take_7 : decode cX5_take 7 = .ok (.ireturn, 1) := by decide +kernel
set_option maxRecDepth 20000 in
theorem ggX5_run_X0_passByteTime : GoodIn wsX5_run wsX0_passByteTime := goodIn_r _ [6, 7, 8, 9, 10, 11, 5, 12, 13, 14, 15, 16, 17, 18, 19, 20, 21, 22, 23, 24, 25, 26, 27, 28, 29, 30, 31, 32, 33, 34, 35, 36, 37, 38, 39, 40, 41, 42, 43, 44, 45, 46, 47, 48, 49, 50, 51, 52, 53, 54, 55, 56, 57, 58, 59, 60, 61, 62, 63, 64, 65, 66, 67, 68, 69, 70, 71, 72, 73, 74, 75, 76, 77, 78, 79, 80, 81, 82, 83, 84, 85, 86, 87, 88, 89, 90, 91, 92, 93, 94, 95, 96, 97, 98, 99, 100, 101, 102, 103, 104, 105, 106, 107, 108, 109, 110, 111, 112, 113, 114, 115, 116, 117, 118, 119, 120, 121, 122, 123, 124, 125, 126, 127, 128, 129, 130, 131, 132, 133, 134, 135, 136, 137, 138, 139, 140, 141, 142, 143, 144, 145, 146, 147, 148, 149, 150, 151, 152, 153, 154, 155, 156, 157, 158, 159, 160, 161, 162, 163, 164, 165, 166, 167, 168, 169, 170, 171, 172, 173, 174, 175, 176, 177, 178, 179, 180, 181, 182, 183, 184, 185, 186, 187, 188, 189, 190, 191, 192, 193, 194, 195, 196, 197, 198, 199, 200, 201, 202, 203, 204, 205, 206, 207, 208, 209, 210, 211, 212, 213, 214, 215, 216, 221, 222, 223, 224, 225, 226, 227, 228, 229, 230, 231, 232, 233, 234, 235, 236, 237, 238, 239, 240, 241, 242, 243, 244, 245, 246, 247, 248, 249, 250, 251, 252, 253, 254, 255, 256, 257] (by decide +kernel) (by decide +kernel)
set_option maxRecDepth 20000 in
theorem gX5_run_X0_passByteTime : GoodIn wsX5_run (wsV RX5 68 RX0 yX0_passByteTime wsX0_passByteTime) := goodIn_app (goodIn_of _ (by decide +kernel)) ggX5_run_X0_passByteTime
theorem dX5_run_0 : decode cX5_run 0 = .ok (.iload_n 1, 1) := by decide +kernel
theorem dX5_run_1 : decode cX5_run 1 = .ok (.ifCond .lt 10, 3) := by decide +kernel
theorem dX5_run_4 : decode cX5_run 4 = .ok (.iload_n 1, 1) := by decide +kernel
theorem dX5_run_5 : decode cX5_run 5 = .ok (.sipush 200, 3) := by decide +kernel
theorem dX5_run_8 : decode cX5_run 8 = .ok (.if_icmp .le 5, 3) := by decide +kernel
theorem dX5_run_11 : decode cX5_run 11 = .ok (.iconst (-1), 1) := by decide +kernel
theorem dX5_run_12 : decode cX5_run 12 = .ok (.ireturn, 1) := by decide +kernel
theorem dX5_run_13 : decode cX5_run 13 = .ok (.iconst 0, 1) := by decide +kernel
theorem dX5_run_14 : decode cX5_run 14 = .ok (.istore_n 2, 1) := by decide +kernel
theorem dX5_run_15 : decode cX5_run 15 = .ok (.iconst 0, 1) := by decide +kernel
theorem dX5_run_16 : decode cX5_run 16 = .ok (.istore_n 3, 1) := by decide +kernel
theorem dX5_run_17 : decode cX5_run 17 = .ok (.iload_n 3, 1) := by decide +kernel
theorem dX5_run_18 : decode cX5_run 18 = .ok (.iload_n 1, 1) := by decide +kernel
theorem dX5_run_19 : decode cX5_run 19 = .ok (.if_icmp .ge 22, 3) := by decide +kernel
theorem dX5_run_22 : decode cX5_run 22 = .ok (.aload_n 0, 1) := by decide +kernel
theorem dX5_run_23 : decode cX5_run 23 = .ok (.getfield 28, 3) := by decide +kernel
theorem dX5_run_26 : decode cX5_run 26 = .ok (.invokevirtual 68, 3) := by decide +kernel
theorem dX5_run_29 : decode cX5_run 29 = .ok (.ifCond .eq 6, 3) := by decide +kernel
theorem dX5_run_32 : decode cX5_run 32 = .ok (.iinc 2 1, 3) := by decide +kernel
theorem dX5_run_35 : decode cX5_run 35 = .ok (.iinc 3 1, 3) := by decide +kernel
theorem dX5_run_38 : decode cX5_run 38 = .ok (.goto (-21), 3) := by decide +kernel
theorem dX5_run_41 : decode cX5_run 41 = .ok (.iload_n 2, 1) := by decide +kernel
theorem dX5_run_42 : decode cX5_run 42 = .ok (.ireturn, 1) := by decide +kernel
set_option maxRecDepth 20000 in
theorem ggX5_serve_X0_passByteTime : GoodIn wsX5_serve wsX0_passByteTime := goodIn_r _ [6, 7, 8, 9, 10, 11, 5, 12, 13, 14, 15, 16, 17, 18, 19, 20, 21, 22, 23, 24, 25, 26, 27, 28, 29, 30, 31, 32, 33, 34, 35, 36, 37, 38, 39, 40, 41, 42, 43, 44, 45, 46, 47, 48, 49, 50, 51, 52, 53, 54, 55, 56, 57, 58, 59, 60, 61, 62, 63, 64, 65, 66, 67, 68, 69, 70, 71, 72, 73, 74, 75, 76, 77, 78, 79, 80, 81, 82, 83, 84, 85, 86, 87, 88, 89, 90, 91, 92, 93, 94, 95, 96, 97, 98, 99, 100, 101, 102, 103, 104, 105, 106, 107, 108, 109, 110, 111, 112, 113, 114, 115, 116, 117, 118, 119, 120, 121, 122, 123, 124, 125, 126, 127, 128, 129, 130, 131, 132, 133, 134, 135, 136, 137, 138, 139, 140, 141, 142, 143, 144, 145, 146, 147, 148, 149, 150, 151, 152, 153, 154, 155, 156, 157, 158, 159, 160, 161, 162, 163, 164, 165, 166, 167, 168, 169, 170, 171, 172, 173, 174, 175, 176, 177, 178, 179, 180, 181, 182, 183, 184, 185, 186, 187, 188, 189, 190, 191, 192, 193, 194, 195, 196, 197, 198, 199, 200, 201, 202, 203, 204, 205, 206, 207, 208, 209, 210, 211, 212, 213, 214, 215, 216, 251, 252, 253, 254, 255, 256, 257, 258, 259, 260, 261, 262, 263, 264, 265, 266, 267, 268, 269, 270, 271, 272, 273, 274, 275, 276, 277, 278, 279, 280, 281, 282, 283, 284, 285, 286, 287] (by decide +kernel) (by decide +kernel)
set_option maxRecDepth 20000 in
theorem gX5_serve_X0_passByteTime : GoodIn wsX5_serve (wsV RX5 68 RX0 yX0_passByteTime wsX0_passByteTime) := goodIn_app (goodIn_of _ (by decide +kernel)) ggX5_serve_X0_passByteTime
set_option maxRecDepth 20000 in
theorem ggX5_serve_X0_has : GoodIn wsX5_serve wsX0_has := goodIn_r _ [49, 20, 251, 252, 253, 254, 255, 256, 257, 258, 259, 260, 261, 262] (by decide +kernel) (by decide +kernel)
set_option maxRecDepth 20000 in
theorem gX5_serve_X0_has : GoodIn wsX5_serve (wsV RX5 43 RX0 yX0_has wsX0_has) := goodIn_app (goodIn_of _ (by decide +kernel)) ggX5_serve_X0_has
set_option maxRecDepth 20000 in
theorem ggX5_serve_X5_serveOneByte : GoodIn wsX5_serve wsX5_serveOneByte := goodIn_r _ [221, 1, 222, 223, 224, 225, 5, 226, 20, 45, 227, 228, 229, 230, 231, 232, 233, 234, 235, 236, 237, 238, 239, 240, 241, 242, 243, 244, 245, 246, 247, 248, 249, 250, 251, 252, 253, 254, 255, 256, 257, 258, 259, 260, 261, 262, 288, 289, 290] (by decide +kernel) (by decide +kernel)
set_option maxRecDepth 20000 in
theorem gX5_serve_X5_serveOneByte : GoodIn wsX5_serve (wsV RX5 72 RX5 yX5_serveOneByte wsX5_serveOneByte) := goodIn_app (goodIn_of _ (by decide +kernel)) ggX5_serve_X5_serveOneByte
theorem dX5_serve_0 : decode cX5_serve 0 = .ok (.iload_n 1, 1) := by decide +kernel
theorem dX5_serve_1 : decode cX5_serve 1 = .ok (.ifCond .lt 10, 3) := by decide +kernel
theorem dX5_serve_4 : decode cX5_serve 4 = .ok (.iload_n 1, 1) := by decide +kernel
theorem dX5_serve_5 : decode cX5_serve 5 = .ok (.sipush 200, 3) := by decide +kernel
theorem dX5_serve_8 : decode cX5_serve 8 = .ok (.if_icmp .le 5, 3) := by decide +kernel
theorem dX5_serve_11 : decode cX5_serve 11 = .ok (.iconst (-1), 1) := by decide +kernel
theorem dX5_serve_12 : decode cX5_serve 12 = .ok (.ireturn, 1) := by decide +kernel
theorem dX5_serve_13 : decode cX5_serve 13 = .ok (.iconst 0, 1) := by decide +kernel
theorem dX5_serve_14 : decode cX5_serve 14 = .ok (.istore_n 2, 1) := by decide +kernel
theorem dX5_serve_15 : decode cX5_serve 15 = .ok (.iconst 0, 1) := by decide +kernel
theorem dX5_serve_16 : decode cX5_serve 16 = .ok (.istore_n 3, 1) := by decide +kernel
theorem dX5_serve_17 : decode cX5_serve 17 = .ok (.iload_n 3, 1) := by decide +kernel
theorem dX5_serve_18 : decode cX5_serve 18 = .ok (.iload_n 1, 1) := by decide +kernel
theorem dX5_serve_19 : decode cX5_serve 19 = .ok (.if_icmp .ge 35, 3) := by decide +kernel
theorem dX5_serve_22 : decode cX5_serve 22 = .ok (.aload_n 0, 1) := by decide +kernel
theorem dX5_serve_23 : decode cX5_serve 23 = .ok (.getfield 28, 3) := by decide +kernel
theorem dX5_serve_26 : decode cX5_serve 26 = .ok (.invokevirtual 68, 3) := by decide +kernel
theorem dX5_serve_29 : decode cX5_serve 29 = .ok (.pop, 1) := by decide +kernel
theorem dX5_serve_30 : decode cX5_serve 30 = .ok (.aload_n 0, 1) := by decide +kernel
theorem dX5_serve_31 : decode cX5_serve 31 = .ok (.getfield 28, 3) := by decide +kernel
theorem dX5_serve_34 : decode cX5_serve 34 = .ok (.iconst 2, 1) := by decide +kernel
theorem dX5_serve_35 : decode cX5_serve 35 = .ok (.invokevirtual 43, 3) := by decide +kernel
theorem dX5_serve_38 : decode cX5_serve 38 = .ok (.ifCond .eq 10, 3) := by decide +kernel
theorem dX5_serve_41 : decode cX5_serve 41 = .ok (.aload_n 0, 1) := by decide +kernel
theorem dX5_serve_42 : decode cX5_serve 42 = .ok (.invokevirtual 72, 3) := by decide +kernel
theorem dX5_serve_45 : decode cX5_serve 45 = .ok (.iinc 2 1, 3) := by decide +kernel
theorem dX5_serve_48 : decode cX5_serve 48 = .ok (.iinc 3 1, 3) := by decide +kernel
theorem dX5_serve_51 : decode cX5_serve 51 = .ok (.goto (-34), 3) := by decide +kernel
theorem dX5_serve_54 : decode cX5_serve 54 = .ok (.iload_n 2, 1) := by decide +kernel
theorem dX5_serve_55 : decode cX5_serve 55 = .ok (.ireturn, 1) := by decide +kernel
set_option maxRecDepth 20000 in
theorem ggX5_serveOneByte_X0_handOutData : GoodIn wsX5_serveOneByte wsX0_handOutData := goodIn_r _ [7, 8, 9, 34, 35, 36, 37, 38, 39, 40, 41, 42, 43, 44, 45] (by decide +kernel) (by decide +kernel)
set_option maxRecDepth 20000 in
theorem gX5_serveOneByte_X0_handOutData : GoodIn wsX5_serveOneByte (wsV RX5 64 RX0 yX0_handOutData wsX0_handOutData) := goodIn_app (goodIn_of _ (by decide +kernel)) ggX5_serveOneByte_X0_handOutData
set_option maxRecDepth 20000 in
theorem ggX5_serveOneByte_X3_append : GoodIn wsX5_serveOneByte wsX3_append := goodIn_r _ [14, 15, 16, 46, 47, 48] (by decide +kernel) (by decide +kernel)
set_option maxRecDepth 20000 in
theorem gX5_serveOneByte_X3_append : GoodIn wsX5_serveOneByte (wsV RX5 78 RX3 yX3_append wsX3_append) := goodIn_app (goodIn_of _ (by decide +kernel)) ggX5_serveOneByte_X3_append
set_option maxRecDepth 20000 in
theorem ggX5_serveOneByte_X3_nextByte : GoodIn wsX5_serveOneByte wsX3_nextByte := goodIn_r _ [20, 21, 22, 23, 24, 13, 25, 15, 16, 46, 47, 48] (by decide +kernel) (by decide +kernel)
set_option maxRecDepth 20000 in
theorem gX5_serveOneByte_X3_nextByte : GoodIn wsX5_serveOneByte (wsV RX5 81 RX3 yX3_nextByte wsX3_nextByte) := goodIn_app (goodIn_of _ (by decide +kernel)) ggX5_serveOneByte_X3_nextByte
set_option maxRecDepth 20000 in
theorem ggX5_serveOneByte_X0_acceptData : GoodIn wsX5_serveOneByte wsX0_acceptData := goodIn_r _ [29, 9, 8, 34, 35, 36, 37, 38, 39, 40, 41, 42, 43, 44, 45] (by decide +kernel) (by decide +kernel)
set_option maxRecDepth 20000 in
theorem gX5_serveOneByte_X0_acceptData : GoodIn wsX5_serveOneByte (wsV RX5 60 RX0 yX0_acceptData wsX0_acceptData) := goodIn_app (goodIn_of _ (by decide +kernel)) ggX5_serveOneByte_X0_acceptData
theorem dX5_serveOneByte_0 : decode cX5_serveOneByte 0 = .ok (.aload_n 0, 1) := by decide +kernel
theorem dX5_serveOneByte_1 : decode cX5_serveOneByte 1 = .ok (.getfield 28, 3) := by decide +kernel
theorem dX5_serveOneByte_4 : decode cX5_serveOneByte 4 = .ok (.getfield 75, 3) := by decide +kernel
theorem dX5_serveOneByte_7 : decode cX5_serveOneByte 7 = .ok (.iconst 2, 1) := by decide +kernel
theorem dX5_serveOneByte_8 : decode cX5_serveOneByte 8 = .ok (.if_icmp .eq 14, 3) := by decide +kernel
theorem dX5_serveOneByte_11 : decode cX5_serveOneByte 11 = .ok (.aload_n 0, 1) := by decide +kernel
theorem dX5_serveOneByte_12 : decode cX5_serveOneByte 12 = .ok (.getfield 28, 3) := by decide +kernel
theorem dX5_serveOneByte_15 : decode cX5_serveOneByte 15 = .ok (.getfield 75, 3) := by decide +kernel
theorem dX5_serveOneByte_18 : decode cX5_serveOneByte 18 = .ok (.iconst 4, 1) := by decide +kernel
theorem dX5_serveOneByte_19 : decode cX5_serveOneByte 19 = .ok (.if_icmp .ne 20, 3) := by decide +kernel
theorem dX5_serveOneByte_22 : decode cX5_serveOneByte 22 = .ok (.aload_n 0, 1) := by decide +kernel
theorem dX5_serveOneByte_23 : decode cX5_serveOneByte 23 = .ok (.getfield 35, 3) := by decide +kernel
theorem dX5_serveOneByte_26 : decode cX5_serveOneByte 26 = .ok (.aload_n 0, 1) := by decide +kernel
theorem dX5_serveOneByte_27 : decode cX5_serveOneByte 27 = .ok (.getfield 28, 3) := by decide +kernel
theorem dX5_serveOneByte_30 : decode cX5_serveOneByte 30 = .ok (.invokevirtual 64, 3) := by decide +kernel
theorem dX5_serveOneByte_33 : decode cX5_serveOneByte 33 = .ok (.invokevirtual 78, 3) := by decide +kernel
theorem dX5_serveOneByte_36 : decode cX5_serveOneByte 36 = .ok (.goto 17, 3) := by decide +kernel
theorem dX5_serveOneByte_39 : decode cX5_serveOneByte 39 = .ok (.aload_n 0, 1) := by decide +kernel
theorem dX5_serveOneByte_40 : decode cX5_serveOneByte 40 = .ok (.getfield 28, 3) := by decide +kernel
theorem dX5_serveOneByte_43 : decode cX5_serveOneByte 43 = .ok (.aload_n 0, 1) := by decide +kernel
theorem dX5_serveOneByte_44 : decode cX5_serveOneByte 44 = .ok (.getfield 35, 3) := by decide +kernel
theorem dX5_serveOneByte_47 : decode cX5_serveOneByte 47 = .ok (.invokevirtual 81, 3) := by decide +kernel
theorem dX5_serveOneByte_50 : decode cX5_serveOneByte 50 = .ok (.invokevirtual 60, 3) := by decide +kernel
theorem dX5_serveOneByte_53 : decode cX5_serveOneByte 53 = .ok (.return_, 1) := by decide +kernel
set_option maxRecDepth 20000 in
theorem ggX5_clear_X3_makeEmpty : GoodIn wsX5_clear wsX3_makeEmpty := goodIn_r _ [6, 7, 8, 13, 14, 15] (by decide +kernel) (by decide +kernel)
set_option maxRecDepth 20000 in
theorem gX5_clear_X3_makeEmpty : GoodIn wsX5_clear (wsV RX5 84 RX3 yX3_makeEmpty wsX3_makeEmpty) := goodIn_app (goodIn_of _ (by decide +kernel)) ggX5_clear_X3_makeEmpty
theorem dX5_clear_0 : decode cX5_clear 0 = .ok (.aload_n 0, 1) := by decide +kernel
theorem dX5_clear_1 : decode cX5_clear 1 = .ok (.getfield 35, 3) := by decide +kernel
theorem dX5_clear_4 : decode cX5_clear 4 = .ok (.invokevirtual 84, 3) := by decide +kernel
theorem dX5_clear_7 : decode cX5_clear 7 = .ok (.return_, 1) := by decide +kernel
set_option maxRecDepth 20000 in
theorem ggX5_fill_X5_isByte : GoodIn wsX5_fill wsX5_isByte := goodIn_r _ [5] (by decide +kernel) (by decide +kernel)
set_option maxRecDepth 20000 in
theorem gX5_fill_X5_isByte : GoodIn wsX5_fill (va_wsS RX5 50 yX5_isByte wsX5_isByte) := goodIn_app (goodIn_of _ (by decide +kernel)) ggX5_fill_X5_isByte
set_option maxRecDepth 20000 in
theorem ggX5_fill_X3_hasRoomFor : GoodIn wsX5_fill wsX3_hasRoomFor := goodIn_r _ [10, 11, 21, 22, 23] (by decide +kernel) (by decide +kernel)
set_option maxRecDepth 20000 in
theorem gX5_fill_X3_hasRoomFor : GoodIn wsX5_fill (wsV RX5 87 RX3 yX3_hasRoomFor wsX3_hasRoomFor) := goodIn_app (goodIn_of _ (by decide +kernel)) ggX5_fill_X3_hasRoomFor
set_option maxRecDepth 20000 in
theorem ggX5_fill_X3_append : GoodIn wsX5_fill wsX3_append := goodIn_r _ [15, 11, 16, 21, 22, 23] (by decide +kernel) (by decide +kernel)
set_option maxRecDepth 20000 in
theorem gX5_fill_X3_append : GoodIn wsX5_fill (wsV RX5 78 RX3 yX3_append wsX3_append) := goodIn_app (goodIn_of _ (by decide +kernel)) ggX5_fill_X3_append
theorem dX5_fill_0 : decode cX5_fill 0 = .ok (.iload_n 1, 1) := by decide +kernel
theorem dX5_fill_1 : decode cX5_fill 1 = .ok (.invokestatic 50, 3) := by decide +kernel
theorem dX5_fill_4 : decode cX5_fill 4 = .ok (.ifCond .eq 25, 3) := by decide +kernel
theorem dX5_fill_7 : decode cX5_fill 7 = .ok (.iload_n 2, 1) := by decide +kernel
theorem dX5_fill_8 : decode cX5_fill 8 = .ok (.iconst 1, 1) := by decide +kernel
theorem dX5_fill_9 : decode cX5_fill 9 = .ok (.if_icmp .lt 20, 3) := by decide +kernel
theorem dX5_fill_12 : decode cX5_fill 12 = .ok (.iload_n 2, 1) := by decide +kernel
theorem dX5_fill_13 : decode cX5_fill 13 = .ok (.bipush 100, 2) := by decide +kernel
theorem dX5_fill_15 : decode cX5_fill 15 = .ok (.if_icmp .gt 14, 3) := by decide +kernel
theorem dX5_fill_18 : decode cX5_fill 18 = .ok (.aload_n 0, 1) := by decide +kernel
theorem dX5_fill_19 : decode cX5_fill 19 = .ok (.getfield 35, 3) := by decide +kernel
theorem dX5_fill_22 : decode cX5_fill 22 = .ok (.iload_n 2, 1) := by decide +kernel
theorem dX5_fill_23 : decode cX5_fill 23 = .ok (.invokevirtual 87, 3) := by decide +kernel
theorem dX5_fill_26 : decode cX5_fill 26 = .ok (.ifCond .ne 5, 3) := by decide +kernel
theorem dX5_fill_29 : decode cX5_fill 29 = .ok (.iconst 0, 1) := by decide +kernel
theorem dX5_fill_30 : decode cX5_fill 30 = .ok (.ireturn, 1) := by decide +kernel
theorem dX5_fill_31 : decode cX5_fill 31 = .ok (.iconst 0, 1) := by decide +kernel
theorem dX5_fill_32 : decode cX5_fill 32 = .ok (.istore_n 3, 1) := by decide +kernel
theorem dX5_fill_33 : decode cX5_fill 33 = .ok (.iload_n 3, 1) := by decide +kernel
theorem dX5_fill_34 : decode cX5_fill 34 = .ok (.iload_n 2, 1) := by decide +kernel
theorem dX5_fill_35 : decode cX5_fill 35 = .ok (.if_icmp .ge 17, 3) := by decide +kernel
theorem dX5_fill_38 : decode cX5_fill 38 = .ok (.aload_n 0, 1) := by decide +kernel
theorem dX5_fill_39 : decode cX5_fill 39 = .ok (.getfield 35, 3) := by decide +kernel
theorem dX5_fill_42 : decode cX5_fill 42 = .ok (.iload_n 1, 1) := by decide +kernel
theorem dX5_fill_43 : decode cX5_fill 43 = .ok (.invokevirtual 78, 3) := by decide +kernel
theorem dX5_fill_46 : decode cX5_fill 46 = .ok (.iinc 3 1, 3) := by decide +kernel
theorem dX5_fill_49 : decode cX5_fill 49 = .ok (.goto (-16), 3) := by decide +kernel
theorem dX5_fill_52 : decode cX5_fill 52 = .ok (.iconst 1, 1) := by decide +kernel
theorem dX5_fill_53 : decode cX5_fill 53 = .ok (.ireturn, 1) := by decide +kernel
set_option maxRecDepth 20000 in
theorem ggX5_buffer_X3_byteAt : GoodIn wsX5_buffer wsX3_byteAt := goodIn_r _ [6, 7, 8, 13, 14, 15] (by decide +kernel) (by decide +kernel)
set_option maxRecDepth 20000 in
theorem gX5_buffer_X3_byteAt : GoodIn wsX5_buffer (wsV RX5 93 RX3 yX3_byteAt wsX3_byteAt) := goodIn_app (goodIn_of _ (by decide +kernel)) ggX5_buffer_X3_byteAt
theorem dX5_buffer_0 : decode cX5_buffer 0 = .ok (.iload_n 1, 1) := by decide +kernel
theorem dX5_buffer_1 : decode cX5_buffer 1 = .ok (.iconst (-1), 1) := by decide +kernel
theorem dX5_buffer_2 : decode cX5_buffer 2 = .ok (.if_icmp .ne 13, 3) := by decide +kernel
theorem dX5_buffer_5 : decode cX5_buffer 5 = .ok (.aload_n 0, 1) := by decide +kernel
theorem dX5_buffer_6 : decode cX5_buffer 6 = .ok (.getfield 35, 3) := by decide +kernel
theorem dX5_buffer_9 : decode cX5_buffer 9 = .ok (.getfield 90, 3) := by decide +kernel
theorem dX5_buffer_12 : decode cX5_buffer 12 = .ok (.goto 11, 3) := by decide +kernel
theorem dX5_buffer_15 : decode cX5_buffer 15 = .ok (.aload_n 0, 1) := by decide +kernel
theorem dX5_buffer_16 : decode cX5_buffer 16 = .ok (.getfield 35, 3) := by decide +kernel
theorem dX5_buffer_19 : decode cX5_buffer 19 = .ok (.iload_n 1, 1) := by decide +kernel
theorem dX5_buffer_20 : decode cX5_buffer 20 = .ok (.invokevirtual 93, 3) := by decide +kernel
theorem dX5_buffer_23 : decode cX5_buffer 23 = .ok (.ireturn, 1) := by decide +kernel
theorem dX5_protect_0 : decode cX5_protect 0 = .ok (.aload_n 0, 1) := by decide +kernel
theorem dX5_protect_1 : decode cX5_protect 1 = .ok (.getfield 10, 3) := by decide +kernel
theorem dX5_protect_4 : decode cX5_protect 4 = .ok (.iload_n 1, 1) := by decide +kernel
theorem dX5_protect_5 : decode cX5_protect 5 = .ok (.putfield 97, 3) := by decide +kernel
theorem dX5_protect_8 : decode cX5_protect 8 = .ok (.return_, 1) := by decide +kernel
set_option maxRecDepth 20000 in
theorem ggX5_spoil_X1_turnOver : GoodIn wsX5_spoil wsX1_turnOver := goodIn_r _ [6, 7, 8, 13, 14, 15, 16] (by decide +kernel) (by decide +kernel)
set_option maxRecDepth 20000 in
theorem gX5_spoil_X1_turnOver : GoodIn wsX5_spoil (wsV RX5 101 RX1 yX1_turnOver wsX1_turnOver) := goodIn_app (goodIn_of _ (by decide +kernel)) ggX5_spoil_X1_turnOver
theorem dX5_spoil_0 : decode cX5_spoil 0 = .ok (.aload_n 0, 1) := by decide +kernel
theorem dX5_spoil_1 : decode cX5_spoil 1 = .ok (.getfield 10, 3) := by decide +kernel
theorem dX5_spoil_4 : decode cX5_spoil 4 = .ok (.iload_n 1, 1) := by decide +kernel
theorem dX5_spoil_5 : decode cX5_spoil 5 = .ok (.iload_n 2, 1) := by decide +kernel
theorem dX5_spoil_6 : decode cX5_spoil 6 = .ok (.invokevirtual 101, 3) := by decide +kernel
theorem dX5_spoil_9 : decode cX5_spoil 9 = .ok (.ireturn, 1) := by decide +kernel
set_option maxRecDepth 20000 in
theorem ggX5_cells_X1_wordAt : GoodIn wsX5_cells wsX1_wordAt := goodIn_r _ [6, 7, 12, 13, 14, 15] (by decide +kernel) (by decide +kernel)
set_option maxRecDepth 20000 in
theorem gX5_cells_X1_wordAt : GoodIn wsX5_cells (wsV RX5 105 RX1 yX1_wordAt wsX1_wordAt) := goodIn_app (goodIn_of _ (by decide +kernel)) ggX5_cells_X1_wordAt
theorem dX5_cells_0 : decode cX5_cells 0 = .ok (.aload_n 0, 1) := by decide +kernel
theorem dX5_cells_1 : decode cX5_cells 1 = .ok (.getfield 10, 3) := by decide +kernel
theorem dX5_cells_4 : decode cX5_cells 4 = .ok (.iload_n 1, 1) := by decide +kernel
theorem dX5_cells_5 : decode cX5_cells 5 = .ok (.iload_n 2, 1) := by decide +kernel
theorem dX5_cells_6 : decode cX5_cells 6 = .ok (.invokevirtual 105, 3) := by decide +kernel
theorem dX5_cells_9 : decode cX5_cells 9 = .ok (.ireturn, 1) := by decide +kernel
theorem dX5_look_0 : decode cX5_look 0 = .ok (.iload_n 1, 1) := by decide +kernel
theorem dX5_look_1 : decode cX5_look 1 = .ok (.tableswitch 119 0 7 #[47, 55, 63, 71, 79, 87, 95, 111], 47) := by decide +kernel
theorem dX5_look_48 : decode cX5_look 48 = .ok (.aload_n 0, 1) := by decide +kernel
theorem dX5_look_49 : decode cX5_look 49 = .ok (.getfield 28, 3) := by decide +kernel
theorem dX5_look_52 : decode cX5_look 52 = .ok (.getfield 109, 3) := by decide +kernel
theorem dX5_look_55 : decode cX5_look 55 = .ok (.ireturn, 1) := by decide +kernel
theorem dX5_look_56 : decode cX5_look 56 = .ok (.aload_n 0, 1) := by decide +kernel
theorem dX5_look_57 : decode cX5_look 57 = .ok (.getfield 28, 3) := by decide +kernel
theorem dX5_look_60 : decode cX5_look 60 = .ok (.getfield 53, 3) := by decide +kernel
theorem dX5_look_63 : decode cX5_look 63 = .ok (.ireturn, 1) := by decide +kernel
theorem dX5_look_64 : decode cX5_look 64 = .ok (.aload_n 0, 1) := by decide +kernel
theorem dX5_look_65 : decode cX5_look 65 = .ok (.getfield 28, 3) := by decide +kernel
theorem dX5_look_68 : decode cX5_look 68 = .ok (.getfield 57, 3) := by decide +kernel
theorem dX5_look_71 : decode cX5_look 71 = .ok (.ireturn, 1) := by decide +kernel
theorem dX5_look_72 : decode cX5_look 72 = .ok (.aload_n 0, 1) := by decide +kernel
theorem dX5_look_73 : decode cX5_look 73 = .ok (.getfield 28, 3) := by decide +kernel
theorem dX5_look_76 : decode cX5_look 76 = .ok (.getfield 112, 3) := by decide +kernel
theorem dX5_look_79 : decode cX5_look 79 = .ok (.ireturn, 1) := by decide +kernel
theorem dX5_look_80 : decode cX5_look 80 = .ok (.aload_n 0, 1) := by decide +kernel
theorem dX5_look_81 : decode cX5_look 81 = .ok (.getfield 10, 3) := by decide +kernel
theorem dX5_look_84 : decode cX5_look 84 = .ok (.getfield 115, 3) := by decide +kernel
theorem dX5_look_87 : decode cX5_look 87 = .ok (.ireturn, 1) := by decide +kernel
theorem dX5_look_88 : decode cX5_look 88 = .ok (.aload_n 0, 1) := by decide +kernel
theorem dX5_look_89 : decode cX5_look 89 = .ok (.getfield 10, 3) := by decide +kernel
theorem dX5_look_92 : decode cX5_look 92 = .ok (.getfield 118, 3) := by decide +kernel
theorem dX5_look_95 : decode cX5_look 95 = .ok (.ireturn, 1) := by decide +kernel
theorem dX5_look_96 : decode cX5_look 96 = .ok (.aload_n 0, 1) := by decide +kernel
theorem dX5_look_97 : decode cX5_look 97 = .ok (.getfield 19, 3) := by decide +kernel
theorem dX5_look_100 : decode cX5_look 100 = .ok (.getfield 121, 3) := by decide +kernel
theorem dX5_look_103 : decode cX5_look 103 = .ok (.ifCond .eq 7, 3) := by decide +kernel
theorem dX5_look_106 : decode cX5_look 106 = .ok (.iconst 1, 1) := by decide +kernel
theorem dX5_look_107 : decode cX5_look 107 = .ok (.goto 4, 3) := by decide +kernel
theorem dX5_look_110 : decode cX5_look 110 = .ok (.iconst 0, 1) := by decide +kernel
theorem dX5_look_111 : decode cX5_look 111 = .ok (.ireturn, 1) := by decide +kernel
theorem dX5_look_112 : decode cX5_look 112 = .ok (.aload_n 0, 1) := by decide +kernel
theorem dX5_look_113 : decode cX5_look 113 = .ok (.getfield 28, 3) := by decide +kernel
theorem dX5_look_116 : decode cX5_look 116 = .ok (.getfield 75, 3) := by decide +kernel
theorem dX5_look_119 : decode cX5_look 119 = .ok (.ireturn, 1) := by decide +kernel
theorem dX5_look_120 : decode cX5_look 120 = .ok (.iconst (-1), 1) := by decide +kernel
theorem dX5_look_121 : decode cX5_look 121 = .ok (.ireturn, 1) := by decide +kernel
theorem dX5_isByte_0 : decode cX5_isByte 0 = .ok (.iload_n 0, 1) := by decide +kernel
theorem dX5_isByte_1 : decode cX5_isByte 1 = .ok (.ifCond .lt 14, 3) := by decide +kernel
theorem dX5_isByte_4 : decode cX5_isByte 4 = .ok (.iload_n 0, 1) := by decide +kernel
theorem dX5_isByte_5 : decode cX5_isByte 5 = .ok (.sipush 255, 3) := by decide +kernel
theorem dX5_isByte_8 : decode cX5_isByte 8 = .ok (.if_icmp .gt 7, 3) := by decide +kernel
theorem dX5_isByte_11 : decode cX5_isByte 11 = .ok (.iconst 1, 1) := by decide +kernel
theorem dX5_isByte_12 : decode cX5_isByte 12 = .ok (.goto 4, 3) := by decide +kernel
theorem dX5_isByte_15 : decode cX5_isByte 15 = .ok (.iconst 0, 1) := by decide +kernel
theorem dX5_isByte_16 : decode cX5_isByte 16 = .ok (.ireturn, 1) := by decide +kernel
theorem dX5_checkWith_0 : decode cX5_checkWith 0 = .ok (.iload_n 0, 1) := by decide +kernel
theorem dX5_checkWith_1 : decode cX5_checkWith 1 = .ok (.iload_n 1, 1) := by decide +kernel
theorem dX5_checkWith_2 : decode cX5_checkWith 2 = .ok (.bipush 8, 2) := by decide +kernel
theorem dX5_checkWith_4 : decode cX5_checkWith 4 = .ok (.ishl, 1) := by decide +kernel
theorem dX5_checkWith_5 : decode cX5_checkWith 5 = .ok (.ixor, 1) := by decide +kernel
theorem dX5_checkWith_6 : decode cX5_checkWith 6 = .ok (.istore_n 2, 1) := by decide +kernel
theorem dX5_checkWith_7 : decode cX5_checkWith 7 = .ok (.iconst 0, 1) := by decide +kernel
theorem dX5_checkWith_8 : decode cX5_checkWith 8 = .ok (.istore_n 3, 1) := by decide +kernel
theorem dX5_checkWith_9 : decode cX5_checkWith 9 = .ok (.iload_n 3, 1) := by decide +kernel
theorem dX5_checkWith_10 : decode cX5_checkWith 10 = .ok (.bipush 8, 2) := by decide +kernel
theorem dX5_checkWith_12 : decode cX5_checkWith 12 = .ok (.if_icmp .ge 31, 3) := by decide +kernel
theorem dX5_checkWith_15 : decode cX5_checkWith 15 = .ok (.iload_n 2, 1) := by decide +kernel
theorem dX5_checkWith_16 : decode cX5_checkWith 16 = .ok (.iconst 1, 1) := by decide +kernel
theorem dX5_checkWith_17 : decode cX5_checkWith 17 = .ok (.ishl, 1) := by decide +kernel
theorem dX5_checkWith_18 : decode cX5_checkWith 18 = .ok (.istore_n 2, 1) := by decide +kernel
theorem dX5_checkWith_19 : decode cX5_checkWith 19 = .ok (.iload_n 2, 1) := by decide +kernel
theorem dX5_checkWith_20 : decode cX5_checkWith 20 = .ok (.ldc 124, 2) := by decide +kernel
theorem dX5_checkWith_22 : decode cX5_checkWith 22 = .ok (.iand, 1) := by decide +kernel
theorem dX5_checkWith_23 : decode cX5_checkWith 23 = .ok (.ifCond .eq 9, 3) := by decide +kernel
theorem dX5_checkWith_26 : decode cX5_checkWith 26 = .ok (.iload_n 2, 1) := by decide +kernel
theorem dX5_checkWith_27 : decode cX5_checkWith 27 = .ok (.sipush 4129, 3) := by decide +kernel
theorem dX5_checkWith_30 : decode cX5_checkWith 30 = .ok (.ixor, 1) := by decide +kernel
theorem dX5_checkWith_31 : decode cX5_checkWith 31 = .ok (.istore_n 2, 1) := by decide +kernel
theorem dX5_checkWith_32 : decode cX5_checkWith 32 = .ok (.iload_n 2, 1) := by decide +kernel
theorem dX5_checkWith_33 : decode cX5_checkWith 33 = .ok (.ldc 125, 2) := by decide +kernel
theorem dX5_checkWith_35 : decode cX5_checkWith 35 = .ok (.iand, 1) := by decide +kernel
theorem dX5_checkWith_36 : decode cX5_checkWith 36 = .ok (.istore_n 2, 1) := by decide +kernel
theorem dX5_checkWith_37 : decode cX5_checkWith 37 = .ok (.iinc 3 1, 3) := by decide +kernel
theorem dX5_checkWith_40 : decode cX5_checkWith 40 = .ok (.goto (-31), 3) := by decide +kernel
theorem dX5_checkWith_43 : decode cX5_checkWith 43 = .ok (.iload_n 2, 1) := by decide +kernel
theorem dX5_checkWith_44 : decode cX5_checkWith 44 = .ok (.ireturn, 1) := by decide +kernel
