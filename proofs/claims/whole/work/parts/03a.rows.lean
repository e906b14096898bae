set_option maxRecDepth 20000 in
theorem ggX0_init_X0_shape : GoodIn wsX0_init wsX0_shape := goodIn_r _ [19] (by decide +kernel) (by decide +kernel)
set_option maxRecDepth 20000 in
theorem gX0_init_X0_shape : GoodIn wsX0_init (va_wsS RX0 41 yX0_shape wsX0_shape) := goodIn_app (goodIn_of _ (by decide +kernel)) ggX0_init_X0_shape
theorem dX0_init_0 : decode cX0_init 0 = .ok (.aload_n 0, 1) := by decide +kernel
theorem dX0_init_1 : decode cX0_init 1 = .ok (.invokespecial 3, 3) := by decide +kernel
theorem dX0_init_4 : decode cX0_init 4 = .ok (.aload_n 0, 1) := by decide +kernel
theorem dX0_init_5 : decode cX0_init 5 = .ok (.bipush 36, 2) := by decide +kernel
theorem dX0_init_7 : decode cX0_init 7 = .ok (.newarray .int, 2) := by decide +kernel
theorem dX0_init_9 : decode cX0_init 9 = .ok (.putfield 9, 3) := by decide +kernel
theorem dX0_init_12 : decode cX0_init 12 = .ok (.aload_n 0, 1) := by decide +kernel
theorem dX0_init_13 : decode cX0_init 13 = .ok (.bipush 36, 2) := by decide +kernel
theorem dX0_init_15 : decode cX0_init 15 = .ok (.newarray .int, 2) := by decide +kernel
theorem dX0_init_17 : decode cX0_init 17 = .ok (.putfield 15, 3) := by decide +kernel
theorem dX0_init_20 : decode cX0_init 20 = .ok (.aload_n 0, 1) := by decide +kernel
theorem dX0_init_21 : decode cX0_init 21 = .ok (.iconst 0, 1) := by decide +kernel
theorem dX0_init_22 : decode cX0_init 22 = .ok (.putfield 18, 3) := by decide +kernel
theorem dX0_init_25 : decode cX0_init 25 = .ok (.aload_n 0, 1) := by decide +kernel
theorem dX0_init_26 : decode cX0_init 26 = .ok (.iconst 0, 1) := by decide +kernel
theorem dX0_init_27 : decode cX0_init 27 = .ok (.putfield 22, 3) := by decide +kernel
theorem dX0_init_30 : decode cX0_init 30 = .ok (.aload_n 0, 1) := by decide +kernel
theorem dX0_init_31 : decode cX0_init 31 = .ok (.iload_n 2, 1) := by decide +kernel
theorem dX0_init_32 : decode cX0_init 32 = .ok (.putfield 26, 3) := by decide +kernel
theorem dX0_init_35 : decode cX0_init 35 = .ok (.aload_n 0, 1) := by decide +kernel
theorem dX0_init_36 : decode cX0_init 36 = .ok (.iload_n 3, 1) := by decide +kernel
theorem dX0_init_37 : decode cX0_init 37 = .ok (.putfield 29, 3) := by decide +kernel
theorem dX0_init_40 : decode cX0_init 40 = .ok (.aload_n 0, 1) := by decide +kernel
theorem dX0_init_41 : decode cX0_init 41 = .ok (.iload 4, 2) := by decide +kernel
theorem dX0_init_43 : decode cX0_init 43 = .ok (.putfield 32, 3) := by decide +kernel
theorem dX0_init_46 : decode cX0_init 46 = .ok (.aload_n 0, 1) := by decide +kernel
theorem dX0_init_47 : decode cX0_init 47 = .ok (.iload 5, 2) := by decide +kernel
theorem dX0_init_49 : decode cX0_init 49 = .ok (.putfield 35, 3) := by decide +kernel
theorem dX0_init_52 : decode cX0_init 52 = .ok (.aload_n 0, 1) := by decide +kernel
theorem dX0_init_53 : decode cX0_init 53 = .ok (.iload_n 2, 1) := by decide +kernel
theorem dX0_init_54 : decode cX0_init 54 = .ok (.iload_n 3, 1) := by decide +kernel
theorem dX0_init_55 : decode cX0_init 55 = .ok (.imul, 1) := by decide +kernel
theorem dX0_init_56 : decode cX0_init 56 = .ok (.putfield 38, 3) := by decide +kernel
theorem dX0_init_59 : decode cX0_init 59 = .ok (.aload_n 0, 1) := by decide +kernel
theorem dX0_init_60 : decode cX0_init 60 = .ok (.iload_n 1, 1) := by decide +kernel
theorem dX0_init_61 : decode cX0_init 61 = .ok (.iload_n 2, 1) := by decide +kernel
theorem dX0_init_62 : decode cX0_init 62 = .ok (.iload_n 3, 1) := by decide +kernel
theorem dX0_init_63 : decode cX0_init 63 = .ok (.invokestatic 41, 3) := by decide +kernel
theorem dX0_init_66 : decode cX0_init 66 = .ok (.putfield 45, 3) := by decide +kernel
theorem dX0_init_69 : decode cX0_init 69 = .ok (.aload_n 0, 1) := by decide +kernel
theorem dX0_init_70 : decode cX0_init 70 = .ok (.iload_n 1, 1) := by decide +kernel
theorem dX0_init_71 : decode cX0_init 71 = .ok (.iload_n 3, 1) := by decide +kernel
theorem dX0_init_72 : decode cX0_init 72 = .ok (.iload_n 2, 1) := by decide +kernel
theorem dX0_init_73 : decode cX0_init 73 = .ok (.invokestatic 41, 3) := by decide +kernel
theorem dX0_init_76 : decode cX0_init 76 = .ok (.putfield 49, 3) := by decide +kernel
theorem dX0_init_79 : decode cX0_init 79 = .ok (.return_, 1) := by decide +kernel
theorem dX0_shape_0 : decode cX0_shape 0 = .ok (.lconst 1, 1) := by decide +kernel
theorem dX0_shape_1 : decode cX0_shape 1 = .ok (.iload_n 1, 1) := by decide +kernel
theorem dX0_shape_2 : decode cX0_shape 2 = .ok (.lshl, 1) := by decide +kernel
theorem dX0_shape_3 : decode cX0_shape 3 = .ok (.lconst 1, 1) := by decide +kernel
theorem dX0_shape_4 : decode cX0_shape 4 = .ok (.lsub, 1) := by decide +kernel
theorem dX0_shape_5 : decode cX0_shape 5 = .ok (.lstore_n 3, 1) := by decide +kernel
theorem dX0_shape_6 : decode cX0_shape 6 = .ok (.lconst 0, 1) := by decide +kernel
theorem dX0_shape_7 : decode cX0_shape 7 = .ok (.lstore 5, 2) := by decide +kernel
theorem dX0_shape_9 : decode cX0_shape 9 = .ok (.iconst 0, 1) := by decide +kernel
theorem dX0_shape_10 : decode cX0_shape 10 = .ok (.istore 7, 2) := by decide +kernel
theorem dX0_shape_12 : decode cX0_shape 12 = .ok (.iload 7, 2) := by decide +kernel
theorem dX0_shape_14 : decode cX0_shape 14 = .ok (.iload_n 2, 1) := by decide +kernel
theorem dX0_shape_15 : decode cX0_shape 15 = .ok (.if_icmp .ge 20, 3) := by decide +kernel
theorem dX0_shape_18 : decode cX0_shape 18 = .ok (.lload 5, 2) := by decide +kernel
theorem dX0_shape_20 : decode cX0_shape 20 = .ok (.lload_n 3, 1) := by decide +kernel
theorem dX0_shape_21 : decode cX0_shape 21 = .ok (.iload 7, 2) := by decide +kernel
theorem dX0_shape_23 : decode cX0_shape 23 = .ok (.iload_n 0, 1) := by decide +kernel
theorem dX0_shape_24 : decode cX0_shape 24 = .ok (.imul, 1) := by decide +kernel
theorem dX0_shape_25 : decode cX0_shape 25 = .ok (.lshl, 1) := by decide +kernel
theorem dX0_shape_26 : decode cX0_shape 26 = .ok (.lor, 1) := by decide +kernel
theorem dX0_shape_27 : decode cX0_shape 27 = .ok (.lstore 5, 2) := by decide +kernel
theorem dX0_shape_29 : decode cX0_shape 29 = .ok (.iinc 7 1, 3) := by decide +kernel
theorem dX0_shape_32 : decode cX0_shape 32 = .ok (.goto (-20), 3) := by decide +kernel
theorem dX0_shape_35 : decode cX0_shape 35 = .ok (.lload 5, 2) := by decide +kernel
theorem dX0_shape_37 : decode cX0_shape 37 = .ok (.lreturn, 1) := by decide +kernel
theorem dX0_across_0 : decode cX0_across 0 = .ok (.iload_n 1, 1) := by decide +kernel
theorem dX0_across_1 : decode cX0_across 1 = .ok (.ifCond .ne 10, 3) := by decide +kernel
theorem dX0_across_4 : decode cX0_across 4 = .ok (.aload_n 0, 1) := by decide +kernel
theorem dX0_across_5 : decode cX0_across 5 = .ok (.getfield 26, 3) := by decide +kernel
theorem dX0_across_8 : decode cX0_across 8 = .ok (.goto 7, 3) := by decide +kernel
theorem dX0_across_11 : decode cX0_across 11 = .ok (.aload_n 0, 1) := by decide +kernel
theorem dX0_across_12 : decode cX0_across 12 = .ok (.getfield 29, 3) := by decide +kernel
theorem dX0_across_15 : decode cX0_across 15 = .ok (.ireturn, 1) := by decide +kernel
theorem dX0_along_0 : decode cX0_along 0 = .ok (.iload_n 1, 1) := by decide +kernel
theorem dX0_along_1 : decode cX0_along 1 = .ok (.ifCond .ne 10, 3) := by decide +kernel
theorem dX0_along_4 : decode cX0_along 4 = .ok (.aload_n 0, 1) := by decide +kernel
theorem dX0_along_5 : decode cX0_along 5 = .ok (.getfield 29, 3) := by decide +kernel
theorem dX0_along_8 : decode cX0_along 8 = .ok (.goto 7, 3) := by decide +kernel
theorem dX0_along_11 : decode cX0_along 11 = .ok (.aload_n 0, 1) := by decide +kernel
theorem dX0_along_12 : decode cX0_along 12 = .ok (.getfield 26, 3) := by decide +kernel
theorem dX0_along_15 : decode cX0_along 15 = .ok (.ireturn, 1) := by decide +kernel
theorem dX0_cellsAt_0 : decode cX0_cellsAt 0 = .ok (.iload_n 2, 1) := by decide +kernel
theorem dX0_cellsAt_1 : decode cX0_cellsAt 1 = .ok (.ifCond .ne 10, 3) := by decide +kernel
theorem dX0_cellsAt_4 : decode cX0_cellsAt 4 = .ok (.aload_n 0, 1) := by decide +kernel
theorem dX0_cellsAt_5 : decode cX0_cellsAt 5 = .ok (.getfield 45, 3) := by decide +kernel
theorem dX0_cellsAt_8 : decode cX0_cellsAt 8 = .ok (.goto 7, 3) := by decide +kernel
theorem dX0_cellsAt_11 : decode cX0_cellsAt 11 = .ok (.aload_n 0, 1) := by decide +kernel
theorem dX0_cellsAt_12 : decode cX0_cellsAt 12 = .ok (.getfield 49, 3) := by decide +kernel
theorem dX0_cellsAt_15 : decode cX0_cellsAt 15 = .ok (.iload_n 1, 1) := by decide +kernel
theorem dX0_cellsAt_16 : decode cX0_cellsAt 16 = .ok (.lshl, 1) := by decide +kernel
theorem dX0_cellsAt_17 : decode cX0_cellsAt 17 = .ok (.lreturn, 1) := by decide +kernel
set_option maxRecDepth 20000 in
theorem ggX0_cellsOfBox_X3_isOutside : GoodIn wsX0_cellsOfBox wsX3_isOutside := goodIn_r _ [6] (by decide +kernel) (by decide +kernel)
set_option maxRecDepth 20000 in
theorem gX0_cellsOfBox_X3_isOutside_n52 : GoodIn wsX0_cellsOfBox (wsX3_isOutside) := ggX0_cellsOfBox_X3_isOutside
set_option maxRecDepth 20000 in
theorem ggX0_cellsOfBox_X0_cellsAt : GoodIn wsX0_cellsOfBox wsX0_cellsAt := goodIn_r _ [11, 12, 13, 14, 15, 16, 17, 18, 19, 20, 21, 22, 23, 24] (by decide +kernel) (by decide +kernel)
set_option maxRecDepth 20000 in
theorem gX0_cellsOfBox_X0_cellsAt : GoodIn wsX0_cellsOfBox (wsV RX0 56 RX0 yX0_cellsAt wsX0_cellsAt) := goodIn_app (goodIn_of _ (by decide +kernel)) ggX0_cellsOfBox_X0_cellsAt
theorem dX0_cellsOfBox_0 : decode cX0_cellsOfBox 0 = .ok (.iload_n 1, 1) := by decide +kernel
theorem dX0_cellsOfBox_1 : decode cX0_cellsOfBox 1 = .ok (.iconst 0, 1) := by decide +kernel
theorem dX0_cellsOfBox_2 : decode cX0_cellsOfBox 2 = .ok (.aload_n 0, 1) := by decide +kernel
theorem dX0_cellsOfBox_3 : decode cX0_cellsOfBox 3 = .ok (.getfield 18, 3) := by decide +kernel
theorem dX0_cellsOfBox_6 : decode cX0_cellsOfBox 6 = .ok (.iconst 1, 1) := by decide +kernel
theorem dX0_cellsOfBox_7 : decode cX0_cellsOfBox 7 = .ok (.isub, 1) := by decide +kernel
theorem dX0_cellsOfBox_8 : decode cX0_cellsOfBox 8 = .ok (.invokestatic 52, 3) := by decide +kernel
theorem dX0_cellsOfBox_11 : decode cX0_cellsOfBox 11 = .ok (.ifCond .eq 7, 3) := by decide +kernel
theorem dX0_cellsOfBox_14 : decode cX0_cellsOfBox 14 = .ok (.lconst 0, 1) := by decide +kernel
theorem dX0_cellsOfBox_15 : decode cX0_cellsOfBox 15 = .ok (.goto 19, 3) := by decide +kernel
theorem dX0_cellsOfBox_18 : decode cX0_cellsOfBox 18 = .ok (.aload_n 0, 1) := by decide +kernel
theorem dX0_cellsOfBox_19 : decode cX0_cellsOfBox 19 = .ok (.aload_n 0, 1) := by decide +kernel
theorem dX0_cellsOfBox_20 : decode cX0_cellsOfBox 20 = .ok (.getfield 9, 3) := by decide +kernel
theorem dX0_cellsOfBox_23 : decode cX0_cellsOfBox 23 = .ok (.iload_n 1, 1) := by decide +kernel
theorem dX0_cellsOfBox_24 : decode cX0_cellsOfBox 24 = .ok (.iaload, 1) := by decide +kernel
theorem dX0_cellsOfBox_25 : decode cX0_cellsOfBox 25 = .ok (.aload_n 0, 1) := by decide +kernel
theorem dX0_cellsOfBox_26 : decode cX0_cellsOfBox 26 = .ok (.getfield 15, 3) := by decide +kernel
theorem dX0_cellsOfBox_29 : decode cX0_cellsOfBox 29 = .ok (.iload_n 1, 1) := by decide +kernel
theorem dX0_cellsOfBox_30 : decode cX0_cellsOfBox 30 = .ok (.iaload, 1) := by decide +kernel
theorem dX0_cellsOfBox_31 : decode cX0_cellsOfBox 31 = .ok (.invokevirtual 56, 3) := by decide +kernel
theorem dX0_cellsOfBox_34 : decode cX0_cellsOfBox 34 = .ok (.lreturn, 1) := by decide +kernel
set_option maxRecDepth 20000 in
theorem ggX0_cellsOfFirst_X0_cellsOfBox : GoodIn wsX0_cellsOfFirst wsX0_cellsOfBox := goodIn_ca (goodIn_r _ [5, 6, 7, 8, 9, 10, 11, 12, 13, 14, 4, 15, 16, 17, 18, 19, 20, 21, 22, 23, 24, 25, 26, 27, 28] (by decide +kernel) (by decide +kernel)) (goodIn_sub (fun _ h => List.mem_cons_of_mem _ (List.mem_append_right _ h)) (by decide +kernel))
set_option maxRecDepth 20000 in
theorem gX0_cellsOfFirst_X0_cellsOfBox : GoodIn wsX0_cellsOfFirst (wsV RX0 60 RX0 yX0_cellsOfBox wsX0_cellsOfBox) := goodIn_app (goodIn_of _ (by decide +kernel)) ggX0_cellsOfFirst_X0_cellsOfBox
theorem dX0_cellsOfFirst_0 : decode cX0_cellsOfFirst 0 = .ok (.lconst 0, 1) := by decide +kernel
theorem dX0_cellsOfFirst_1 : decode cX0_cellsOfFirst 1 = .ok (.lstore_n 2, 1) := by decide +kernel
theorem dX0_cellsOfFirst_2 : decode cX0_cellsOfFirst 2 = .ok (.iconst 0, 1) := by decide +kernel
theorem dX0_cellsOfFirst_3 : decode cX0_cellsOfFirst 3 = .ok (.istore 4, 2) := by decide +kernel
theorem dX0_cellsOfFirst_5 : decode cX0_cellsOfFirst 5 = .ok (.iload 4, 2) := by decide +kernel
theorem dX0_cellsOfFirst_7 : decode cX0_cellsOfFirst 7 = .ok (.iload_n 1, 1) := by decide +kernel
theorem dX0_cellsOfFirst_8 : decode cX0_cellsOfFirst 8 = .ok (.if_icmp .ge 18, 3) := by decide +kernel
theorem dX0_cellsOfFirst_11 : decode cX0_cellsOfFirst 11 = .ok (.lload_n 2, 1) := by decide +kernel
theorem dX0_cellsOfFirst_12 : decode cX0_cellsOfFirst 12 = .ok (.aload_n 0, 1) := by decide +kernel
theorem dX0_cellsOfFirst_13 : decode cX0_cellsOfFirst 13 = .ok (.iload 4, 2) := by decide +kernel
theorem dX0_cellsOfFirst_15 : decode cX0_cellsOfFirst 15 = .ok (.invokevirtual 60, 3) := by decide +kernel
theorem dX0_cellsOfFirst_18 : decode cX0_cellsOfFirst 18 = .ok (.lor, 1) := by decide +kernel
theorem dX0_cellsOfFirst_19 : decode cX0_cellsOfFirst 19 = .ok (.lstore_n 2, 1) := by decide +kernel
theorem dX0_cellsOfFirst_20 : decode cX0_cellsOfFirst 20 = .ok (.iinc 4 1, 3) := by decide +kernel
theorem dX0_cellsOfFirst_23 : decode cX0_cellsOfFirst 23 = .ok (.goto (-18), 3) := by decide +kernel
theorem dX0_cellsOfFirst_26 : decode cX0_cellsOfFirst 26 = .ok (.lload_n 2, 1) := by decide +kernel
theorem dX0_cellsOfFirst_27 : decode cX0_cellsOfFirst 27 = .ok (.lreturn, 1) := by decide +kernel
theorem dX0_keepPattern_0 : decode cX0_keepPattern 0 = .ok (.aload_n 0, 1) := by decide +kernel
theorem dX0_keepPattern_1 : decode cX0_keepPattern 1 = .ok (.iload_n 3, 1) := by decide +kernel
theorem dX0_keepPattern_2 : decode cX0_keepPattern 2 = .ok (.bipush 36, 2) := by decide +kernel
theorem dX0_keepPattern_4 : decode cX0_keepPattern 4 = .ok (.invokestatic 64, 3) := by decide +kernel
theorem dX0_keepPattern_7 : decode cX0_keepPattern 7 = .ok (.putfield 18, 3) := by decide +kernel
theorem dX0_keepPattern_10 : decode cX0_keepPattern 10 = .ok (.iconst 0, 1) := by decide +kernel
theorem dX0_keepPattern_11 : decode cX0_keepPattern 11 = .ok (.istore 4, 2) := by decide +kernel
theorem dX0_keepPattern_13 : decode cX0_keepPattern 13 = .ok (.iload 4, 2) := by decide +kernel
theorem dX0_keepPattern_15 : decode cX0_keepPattern 15 = .ok (.aload_n 0, 1) := by decide +kernel
theorem dX0_keepPattern_16 : decode cX0_keepPattern 16 = .ok (.getfield 18, 3) := by decide +kernel
theorem dX0_keepPattern_19 : decode cX0_keepPattern 19 = .ok (.if_icmp .ge 31, 3) := by decide +kernel
theorem dX0_keepPattern_22 : decode cX0_keepPattern 22 = .ok (.aload_n 0, 1) := by decide +kernel
theorem dX0_keepPattern_23 : decode cX0_keepPattern 23 = .ok (.getfield 9, 3) := by decide +kernel
theorem dX0_keepPattern_26 : decode cX0_keepPattern 26 = .ok (.iload 4, 2) := by decide +kernel
theorem dX0_keepPattern_28 : decode cX0_keepPattern 28 = .ok (.aload_n 1, 1) := by decide +kernel
theorem dX0_keepPattern_29 : decode cX0_keepPattern 29 = .ok (.iload 4, 2) := by decide +kernel
theorem dX0_keepPattern_31 : decode cX0_keepPattern 31 = .ok (.iaload, 1) := by decide +kernel
theorem dX0_keepPattern_32 : decode cX0_keepPattern 32 = .ok (.iastore, 1) := by decide +kernel
theorem dX0_keepPattern_33 : decode cX0_keepPattern 33 = .ok (.aload_n 0, 1) := by decide +kernel
theorem dX0_keepPattern_34 : decode cX0_keepPattern 34 = .ok (.getfield 15, 3) := by decide +kernel
theorem dX0_keepPattern_37 : decode cX0_keepPattern 37 = .ok (.iload 4, 2) := by decide +kernel
theorem dX0_keepPattern_39 : decode cX0_keepPattern 39 = .ok (.aload_n 2, 1) := by decide +kernel
theorem dX0_keepPattern_40 : decode cX0_keepPattern 40 = .ok (.iload 4, 2) := by decide +kernel
theorem dX0_keepPattern_42 : decode cX0_keepPattern 42 = .ok (.iaload, 1) := by decide +kernel
theorem dX0_keepPattern_43 : decode cX0_keepPattern 43 = .ok (.iastore, 1) := by decide +kernel
theorem dX0_keepPattern_44 : decode cX0_keepPattern 44 = .ok (.iinc 4 1, 3) := by decide +kernel
theorem dX0_keepPattern_47 : decode cX0_keepPattern 47 = .ok (.goto (-34), 3) := by decide +kernel
theorem dX0_keepPattern_50 : decode cX0_keepPattern 50 = .ok (.return_, 1) := by decide +kernel
theorem dX1_init_0 : decode cX1_init 0 = .ok (.aload_n 0, 1) := by decide +kernel
theorem dX1_init_1 : decode cX1_init 1 = .ok (.invokespecial 3, 3) := by decide +kernel
theorem dX1_init_4 : decode cX1_init 4 = .ok (.aload_n 0, 1) := by decide +kernel
theorem dX1_init_5 : decode cX1_init 5 = .ok (.bipush 10, 2) := by decide +kernel
theorem dX1_init_7 : decode cX1_init 7 = .ok (.newarray .int, 2) := by decide +kernel
theorem dX1_init_9 : decode cX1_init 9 = .ok (.putfield 9, 3) := by decide +kernel
theorem dX1_init_12 : decode cX1_init 12 = .ok (.aload_n 0, 1) := by decide +kernel
theorem dX1_init_13 : decode cX1_init 13 = .ok (.bipush 10, 2) := by decide +kernel
theorem dX1_init_15 : decode cX1_init 15 = .ok (.newarray .int, 2) := by decide +kernel
theorem dX1_init_17 : decode cX1_init 17 = .ok (.putfield 15, 3) := by decide +kernel
theorem dX1_init_20 : decode cX1_init 20 = .ok (.aload_n 0, 1) := by decide +kernel
theorem dX1_init_21 : decode cX1_init 21 = .ok (.bipush 10, 2) := by decide +kernel
theorem dX1_init_23 : decode cX1_init 23 = .ok (.newarray .int, 2) := by decide +kernel
theorem dX1_init_25 : decode cX1_init 25 = .ok (.putfield 18, 3) := by decide +kernel
theorem dX1_init_28 : decode cX1_init 28 = .ok (.aload_n 0, 1) := by decide +kernel
theorem dX1_init_29 : decode cX1_init 29 = .ok (.bipush 10, 2) := by decide +kernel
theorem dX1_init_31 : decode cX1_init 31 = .ok (.newarray .int, 2) := by decide +kernel
theorem dX1_init_33 : decode cX1_init 33 = .ok (.putfield 21, 3) := by decide +kernel
theorem dX1_init_36 : decode cX1_init 36 = .ok (.aload_n 0, 1) := by decide +kernel
theorem dX1_init_37 : decode cX1_init 37 = .ok (.bipush 10, 2) := by decide +kernel
theorem dX1_init_39 : decode cX1_init 39 = .ok (.newarray .long, 2) := by decide +kernel
theorem dX1_init_41 : decode cX1_init 41 = .ok (.putfield 24, 3) := by decide +kernel
theorem dX1_init_44 : decode cX1_init 44 = .ok (.aload_n 0, 1) := by decide +kernel
theorem dX1_init_45 : decode cX1_init 45 = .ok (.iconst 0, 1) := by decide +kernel
theorem dX1_init_46 : decode cX1_init 46 = .ok (.putfield 28, 3) := by decide +kernel
theorem dX1_init_49 : decode cX1_init 49 = .ok (.aload_n 0, 1) := by decide +kernel
theorem dX1_init_50 : decode cX1_init 50 = .ok (.iconst 0, 1) := by decide +kernel
theorem dX1_init_51 : decode cX1_init 51 = .ok (.putfield 32, 3) := by decide +kernel
theorem dX1_init_54 : decode cX1_init 54 = .ok (.aload_n 0, 1) := by decide +kernel
theorem dX1_init_55 : decode cX1_init 55 = .ok (.iconst 0, 1) := by decide +kernel
theorem dX1_init_56 : decode cX1_init 56 = .ok (.putfield 35, 3) := by decide +kernel
theorem dX1_init_59 : decode cX1_init 59 = .ok (.aload_n 0, 1) := by decide +kernel
theorem dX1_init_60 : decode cX1_init 60 = .ok (.iconst 0, 1) := by decide +kernel
theorem dX1_init_61 : decode cX1_init 61 = .ok (.putfield 38, 3) := by decide +kernel
theorem dX1_init_64 : decode cX1_init 64 = .ok (.aload_n 0, 1) := by decide +kernel
theorem dX1_init_65 : decode cX1_init 65 = .ok (.iconst (-1), 1) := by decide +kernel
theorem dX1_init_66 : decode cX1_init 66 = .ok (.putfield 41, 3) := by decide +kernel
theorem dX1_init_69 : decode cX1_init 69 = .ok (.return_, 1) := by decide +kernel
set_option maxRecDepth 20000 in
theorem ggX1_lay_X0_cellsOfFirst : GoodIn wsX1_lay wsX0_cellsOfFirst := goodIn_ca (goodIn_r _ [16, 17, 18, 19, 15, 20, 21, 22, 23, 24, 25, 26, 27, 28, 29, 30, 31, 32, 43, 44, 45, 46, 47, 48, 49, 50, 51, 52, 53] (by decide +kernel) (by decide +kernel)) (goodIn_sub (fun _ h => List.mem_cons_of_mem _ (List.mem_append_right _ h)) (by decide +kernel))
set_option maxRecDepth 20000 in
theorem gX1_lay_X0_cellsOfFirst : GoodIn wsX1_lay (wsV RX1 47 RX0 yX0_cellsOfFirst wsX0_cellsOfFirst) := goodIn_app (goodIn_of _ (by decide +kernel)) ggX1_lay_X0_cellsOfFirst
theorem dX1_lay_0 : decode cX1_lay 0 = .ok (.aload_n 0, 1) := by decide +kernel
theorem dX1_lay_1 : decode cX1_lay 1 = .ok (.getfield 28, 3) := by decide +kernel
theorem dX1_lay_4 : decode cX1_lay 4 = .ok (.bipush 10, 2) := by decide +kernel
theorem dX1_lay_6 : decode cX1_lay 6 = .ok (.if_icmp .lt 4, 3) := by decide +kernel
theorem dX1_lay_9 : decode cX1_lay 9 = .ok (.return_, 1) := by decide +kernel
theorem dX1_lay_10 : decode cX1_lay 10 = .ok (.aload_n 0, 1) := by decide +kernel
theorem dX1_lay_11 : decode cX1_lay 11 = .ok (.getfield 9, 3) := by decide +kernel
theorem dX1_lay_14 : decode cX1_lay 14 = .ok (.aload_n 0, 1) := by decide +kernel
theorem dX1_lay_15 : decode cX1_lay 15 = .ok (.getfield 28, 3) := by decide +kernel
theorem dX1_lay_18 : decode cX1_lay 18 = .ok (.iload_n 1, 1) := by decide +kernel
theorem dX1_lay_19 : decode cX1_lay 19 = .ok (.iastore, 1) := by decide +kernel
theorem dX1_lay_20 : decode cX1_lay 20 = .ok (.aload_n 0, 1) := by decide +kernel
theorem dX1_lay_21 : decode cX1_lay 21 = .ok (.getfield 15, 3) := by decide +kernel
theorem dX1_lay_24 : decode cX1_lay 24 = .ok (.aload_n 0, 1) := by decide +kernel
theorem dX1_lay_25 : decode cX1_lay 25 = .ok (.getfield 28, 3) := by decide +kernel
theorem dX1_lay_28 : decode cX1_lay 28 = .ok (.iload_n 3, 1) := by decide +kernel
theorem dX1_lay_29 : decode cX1_lay 29 = .ok (.iastore, 1) := by decide +kernel
theorem dX1_lay_30 : decode cX1_lay 30 = .ok (.aload_n 0, 1) := by decide +kernel
theorem dX1_lay_31 : decode cX1_lay 31 = .ok (.getfield 18, 3) := by decide +kernel
theorem dX1_lay_34 : decode cX1_lay 34 = .ok (.aload_n 0, 1) := by decide +kernel
theorem dX1_lay_35 : decode cX1_lay 35 = .ok (.getfield 28, 3) := by decide +kernel
theorem dX1_lay_38 : decode cX1_lay 38 = .ok (.aload_n 0, 1) := by decide +kernel
theorem dX1_lay_39 : decode cX1_lay 39 = .ok (.getfield 32, 3) := by decide +kernel
theorem dX1_lay_42 : decode cX1_lay 42 = .ok (.iastore, 1) := by decide +kernel
theorem dX1_lay_43 : decode cX1_lay 43 = .ok (.aload_n 0, 1) := by decide +kernel
theorem dX1_lay_44 : decode cX1_lay 44 = .ok (.getfield 21, 3) := by decide +kernel
theorem dX1_lay_47 : decode cX1_lay 47 = .ok (.aload_n 0, 1) := by decide +kernel
theorem dX1_lay_48 : decode cX1_lay 48 = .ok (.getfield 28, 3) := by decide +kernel
theorem dX1_lay_51 : decode cX1_lay 51 = .ok (.aload_n 2, 1) := by decide +kernel
theorem dX1_lay_52 : decode cX1_lay 52 = .ok (.getfield 44, 3) := by decide +kernel
theorem dX1_lay_55 : decode cX1_lay 55 = .ok (.iload_n 3, 1) := by decide +kernel
theorem dX1_lay_56 : decode cX1_lay 56 = .ok (.imul, 1) := by decide +kernel
theorem dX1_lay_57 : decode cX1_lay 57 = .ok (.iastore, 1) := by decide +kernel
theorem dX1_lay_58 : decode cX1_lay 58 = .ok (.aload_n 0, 1) := by decide +kernel
theorem dX1_lay_59 : decode cX1_lay 59 = .ok (.getfield 24, 3) := by decide +kernel
theorem dX1_lay_62 : decode cX1_lay 62 = .ok (.aload_n 0, 1) := by decide +kernel
theorem dX1_lay_63 : decode cX1_lay 63 = .ok (.getfield 28, 3) := by decide +kernel
theorem dX1_lay_66 : decode cX1_lay 66 = .ok (.aload_n 2, 1) := by decide +kernel
theorem dX1_lay_67 : decode cX1_lay 67 = .ok (.iload_n 3, 1) := by decide +kernel
theorem dX1_lay_68 : decode cX1_lay 68 = .ok (.invokevirtual 47, 3) := by decide +kernel
theorem dX1_lay_71 : decode cX1_lay 71 = .ok (.lastore, 1) := by decide +kernel
theorem dX1_lay_72 : decode cX1_lay 72 = .ok (.aload_n 0, 1) := by decide +kernel
theorem dX1_lay_73 : decode cX1_lay 73 = .ok (.dup, 1) := by decide +kernel
theorem dX1_lay_74 : decode cX1_lay 74 = .ok (.getfield 32, 3) := by decide +kernel
theorem dX1_lay_77 : decode cX1_lay 77 = .ok (.aload_n 2, 1) := by decide +kernel
theorem dX1_lay_78 : decode cX1_lay 78 = .ok (.getfield 51, 3) := by decide +kernel
theorem dX1_lay_81 : decode cX1_lay 81 = .ok (.iadd, 1) := by decide +kernel
theorem dX1_lay_82 : decode cX1_lay 82 = .ok (.putfield 32, 3) := by decide +kernel
theorem dX1_lay_85 : decode cX1_lay 85 = .ok (.aload_n 0, 1) := by decide +kernel
theorem dX1_lay_86 : decode cX1_lay 86 = .ok (.dup, 1) := by decide +kernel
theorem dX1_lay_87 : decode cX1_lay 87 = .ok (.getfield 35, 3) := by decide +kernel
theorem dX1_lay_90 : decode cX1_lay 90 = .ok (.aload_n 2, 1) := by decide +kernel
theorem dX1_lay_91 : decode cX1_lay 91 = .ok (.getfield 44, 3) := by decide +kernel
theorem dX1_lay_94 : decode cX1_lay 94 = .ok (.iload_n 3, 1) := by decide +kernel
theorem dX1_lay_95 : decode cX1_lay 95 = .ok (.imul, 1) := by decide +kernel
theorem dX1_lay_96 : decode cX1_lay 96 = .ok (.iadd, 1) := by decide +kernel
theorem dX1_lay_97 : decode cX1_lay 97 = .ok (.putfield 35, 3) := by decide +kernel
theorem dX1_lay_100 : decode cX1_lay 100 = .ok (.aload_n 0, 1) := by decide +kernel
theorem dX1_lay_101 : decode cX1_lay 101 = .ok (.dup, 1) := by decide +kernel
theorem dX1_lay_102 : decode cX1_lay 102 = .ok (.getfield 38, 3) := by decide +kernel
theorem dX1_lay_105 : decode cX1_lay 105 = .ok (.iload_n 3, 1) := by decide +kernel
theorem dX1_lay_106 : decode cX1_lay 106 = .ok (.iadd, 1) := by decide +kernel
theorem dX1_lay_107 : decode cX1_lay 107 = .ok (.putfield 38, 3) := by decide +kernel
theorem dX1_lay_110 : decode cX1_lay 110 = .ok (.aload_n 0, 1) := by decide +kernel
theorem dX1_lay_111 : decode cX1_lay 111 = .ok (.dup, 1) := by decide +kernel
theorem dX1_lay_112 : decode cX1_lay 112 = .ok (.getfield 28, 3) := by decide +kernel
theorem dX1_lay_115 : decode cX1_lay 115 = .ok (.iconst 1, 1) := by decide +kernel
theorem dX1_lay_116 : decode cX1_lay 116 = .ok (.iadd, 1) := by decide +kernel
theorem dX1_lay_117 : decode cX1_lay 117 = .ok (.putfield 28, 3) := by decide +kernel
theorem dX1_lay_120 : decode cX1_lay 120 = .ok (.return_, 1) := by decide +kernel
theorem dX1_liftTop_0 : decode cX1_liftTop 0 = .ok (.aload_n 0, 1) := by decide +kernel
theorem dX1_liftTop_1 : decode cX1_liftTop 1 = .ok (.getfield 28, 3) := by decide +kernel
theorem dX1_liftTop_4 : decode cX1_liftTop 4 = .ok (.ifCond .ne 5, 3) := by decide +kernel
theorem dX1_liftTop_7 : decode cX1_liftTop 7 = .ok (.iconst 0, 1) := by decide +kernel
theorem dX1_liftTop_8 : decode cX1_liftTop 8 = .ok (.ireturn, 1) := by decide +kernel
theorem dX1_liftTop_9 : decode cX1_liftTop 9 = .ok (.aload_n 0, 1) := by decide +kernel
theorem dX1_liftTop_10 : decode cX1_liftTop 10 = .ok (.dup, 1) := by decide +kernel
theorem dX1_liftTop_11 : decode cX1_liftTop 11 = .ok (.getfield 28, 3) := by decide +kernel
theorem dX1_liftTop_14 : decode cX1_liftTop 14 = .ok (.iconst 1, 1) := by decide +kernel
theorem dX1_liftTop_15 : decode cX1_liftTop 15 = .ok (.isub, 1) := by decide +kernel
theorem dX1_liftTop_16 : decode cX1_liftTop 16 = .ok (.putfield 28, 3) := by decide +kernel
theorem dX1_liftTop_19 : decode cX1_liftTop 19 = .ok (.aload_n 0, 1) := by decide +kernel
theorem dX1_liftTop_20 : decode cX1_liftTop 20 = .ok (.aload_n 0, 1) := by decide +kernel
theorem dX1_liftTop_21 : decode cX1_liftTop 21 = .ok (.getfield 18, 3) := by decide +kernel
theorem dX1_liftTop_24 : decode cX1_liftTop 24 = .ok (.aload_n 0, 1) := by decide +kernel
theorem dX1_liftTop_25 : decode cX1_liftTop 25 = .ok (.getfield 28, 3) := by decide +kernel
theorem dX1_liftTop_28 : decode cX1_liftTop 28 = .ok (.iaload, 1) := by decide +kernel
theorem dX1_liftTop_29 : decode cX1_liftTop 29 = .ok (.putfield 32, 3) := by decide +kernel
theorem dX1_liftTop_32 : decode cX1_liftTop 32 = .ok (.aload_n 0, 1) := by decide +kernel
theorem dX1_liftTop_33 : decode cX1_liftTop 33 = .ok (.dup, 1) := by decide +kernel
theorem dX1_liftTop_34 : decode cX1_liftTop 34 = .ok (.getfield 35, 3) := by decide +kernel
theorem dX1_liftTop_37 : decode cX1_liftTop 37 = .ok (.aload_n 0, 1) := by decide +kernel
theorem dX1_liftTop_38 : decode cX1_liftTop 38 = .ok (.getfield 21, 3) := by decide +kernel
theorem dX1_liftTop_41 : decode cX1_liftTop 41 = .ok (.aload_n 0, 1) := by decide +kernel
theorem dX1_liftTop_42 : decode cX1_liftTop 42 = .ok (.getfield 28, 3) := by decide +kernel
theorem dX1_liftTop_45 : decode cX1_liftTop 45 = .ok (.iaload, 1) := by decide +kernel
theorem dX1_liftTop_46 : decode cX1_liftTop 46 = .ok (.isub, 1) := by decide +kernel
theorem dX1_liftTop_47 : decode cX1_liftTop 47 = .ok (.putfield 35, 3) := by decide +kernel
theorem dX1_liftTop_50 : decode cX1_liftTop 50 = .ok (.aload_n 0, 1) := by decide +kernel
theorem dX1_liftTop_51 : decode cX1_liftTop 51 = .ok (.dup, 1) := by decide +kernel
theorem dX1_liftTop_52 : decode cX1_liftTop 52 = .ok (.getfield 38, 3) := by decide +kernel
theorem dX1_liftTop_55 : decode cX1_liftTop 55 = .ok (.aload_n 0, 1) := by decide +kernel
theorem dX1_liftTop_56 : decode cX1_liftTop 56 = .ok (.getfield 15, 3) := by decide +kernel
theorem dX1_liftTop_59 : decode cX1_liftTop 59 = .ok (.aload_n 0, 1) := by decide +kernel
theorem dX1_liftTop_60 : decode cX1_liftTop 60 = .ok (.getfield 28, 3) := by decide +kernel
theorem dX1_liftTop_63 : decode cX1_liftTop 63 = .ok (.iaload, 1) := by decide +kernel
theorem dX1_liftTop_64 : decode cX1_liftTop 64 = .ok (.isub, 1) := by decide +kernel
theorem dX1_liftTop_65 : decode cX1_liftTop 65 = .ok (.putfield 38, 3) := by decide +kernel
theorem dX1_liftTop_68 : decode cX1_liftTop 68 = .ok (.aload_n 0, 1) := by decide +kernel
theorem dX1_liftTop_69 : decode cX1_liftTop 69 = .ok (.getfield 15, 3) := by decide +kernel
theorem dX1_liftTop_72 : decode cX1_liftTop 72 = .ok (.aload_n 0, 1) := by decide +kernel
theorem dX1_liftTop_73 : decode cX1_liftTop 73 = .ok (.getfield 28, 3) := by decide +kernel
theorem dX1_liftTop_76 : decode cX1_liftTop 76 = .ok (.iaload, 1) := by decide +kernel
theorem dX1_liftTop_77 : decode cX1_liftTop 77 = .ok (.ireturn, 1) := by decide +kernel
theorem dX1_clear_0 : decode cX1_clear 0 = .ok (.aload_n 0, 1) := by decide +kernel
theorem dX1_clear_1 : decode cX1_clear 1 = .ok (.iconst 0, 1) := by decide +kernel
theorem dX1_clear_2 : decode cX1_clear 2 = .ok (.putfield 28, 3) := by decide +kernel
theorem dX1_clear_5 : decode cX1_clear 5 = .ok (.aload_n 0, 1) := by decide +kernel
theorem dX1_clear_6 : decode cX1_clear 6 = .ok (.iconst 0, 1) := by decide +kernel
theorem dX1_clear_7 : decode cX1_clear 7 = .ok (.putfield 32, 3) := by decide +kernel
theorem dX1_clear_10 : decode cX1_clear 10 = .ok (.aload_n 0, 1) := by decide +kernel
theorem dX1_clear_11 : decode cX1_clear 11 = .ok (.iconst 0, 1) := by decide +kernel
theorem dX1_clear_12 : decode cX1_clear 12 = .ok (.putfield 35, 3) := by decide +kernel
theorem dX1_clear_15 : decode cX1_clear 15 = .ok (.aload_n 0, 1) := by decide +kernel
theorem dX1_clear_16 : decode cX1_clear 16 = .ok (.iconst 0, 1) := by decide +kernel
theorem dX1_clear_17 : decode cX1_clear 17 = .ok (.putfield 38, 3) := by decide +kernel
theorem dX1_clear_20 : decode cX1_clear 20 = .ok (.aload_n 0, 1) := by decide +kernel
theorem dX1_clear_21 : decode cX1_clear 21 = .ok (.iconst (-1), 1) := by decide +kernel
theorem dX1_clear_22 : decode cX1_clear 22 = .ok (.putfield 41, 3) := by decide +kernel
theorem dX1_clear_25 : decode cX1_clear 25 = .ok (.return_, 1) := by decide +kernel
set_option maxRecDepth 20000 in
theorem ggX1_coveredIn_X3_isOutside : GoodIn wsX1_coveredIn wsX3_isOutside := goodIn_r _ [5] (by decide +kernel) (by decide +kernel)
set_option maxRecDepth 20000 in
theorem gX1_coveredIn_X3_isOutside_n52 : GoodIn wsX1_coveredIn (wsX3_isOutside) := ggX1_coveredIn_X3_isOutside
theorem dX1_coveredIn_0 : decode cX1_coveredIn 0 = .ok (.iload_n 1, 1) := by decide +kernel
theorem dX1_coveredIn_1 : decode cX1_coveredIn 1 = .ok (.iconst 0, 1) := by decide +kernel
theorem dX1_coveredIn_2 : decode cX1_coveredIn 2 = .ok (.aload_n 0, 1) := by decide +kernel
theorem dX1_coveredIn_3 : decode cX1_coveredIn 3 = .ok (.getfield 28, 3) := by decide +kernel
theorem dX1_coveredIn_6 : decode cX1_coveredIn 6 = .ok (.iconst 1, 1) := by decide +kernel
theorem dX1_coveredIn_7 : decode cX1_coveredIn 7 = .ok (.isub, 1) := by decide +kernel
theorem dX1_coveredIn_8 : decode cX1_coveredIn 8 = .ok (.invokestatic 52, 3) := by decide +kernel
theorem dX1_coveredIn_11 : decode cX1_coveredIn 11 = .ok (.ifCond .eq 7, 3) := by decide +kernel
theorem dX1_coveredIn_14 : decode cX1_coveredIn 14 = .ok (.lconst 0, 1) := by decide +kernel
theorem dX1_coveredIn_15 : decode cX1_coveredIn 15 = .ok (.goto 9, 3) := by decide +kernel
theorem dX1_coveredIn_18 : decode cX1_coveredIn 18 = .ok (.aload_n 0, 1) := by decide +kernel
theorem dX1_coveredIn_19 : decode cX1_coveredIn 19 = .ok (.getfield 24, 3) := by decide +kernel
theorem dX1_coveredIn_22 : decode cX1_coveredIn 22 = .ok (.iload_n 1, 1) := by decide +kernel
theorem dX1_coveredIn_23 : decode cX1_coveredIn 23 = .ok (.laload, 1) := by decide +kernel
theorem dX1_coveredIn_24 : decode cX1_coveredIn 24 = .ok (.lreturn, 1) := by decide +kernel
theorem dX1_kindBits_0 : decode cX1_kindBits 0 = .ok (.iconst 0, 1) := by decide +kernel
theorem dX1_kindBits_1 : decode cX1_kindBits 1 = .ok (.istore_n 1, 1) := by decide +kernel
theorem dX1_kindBits_2 : decode cX1_kindBits 2 = .ok (.iconst 0, 1) := by decide +kernel
theorem dX1_kindBits_3 : decode cX1_kindBits 3 = .ok (.istore_n 2, 1) := by decide +kernel
theorem dX1_kindBits_4 : decode cX1_kindBits 4 = .ok (.iload_n 2, 1) := by decide +kernel
theorem dX1_kindBits_5 : decode cX1_kindBits 5 = .ok (.aload_n 0, 1) := by decide +kernel
theorem dX1_kindBits_6 : decode cX1_kindBits 6 = .ok (.getfield 28, 3) := by decide +kernel
theorem dX1_kindBits_9 : decode cX1_kindBits 9 = .ok (.if_icmp .ge 20, 3) := by decide +kernel
theorem dX1_kindBits_12 : decode cX1_kindBits 12 = .ok (.iload_n 1, 1) := by decide +kernel
theorem dX1_kindBits_13 : decode cX1_kindBits 13 = .ok (.iconst 1, 1) := by decide +kernel
theorem dX1_kindBits_14 : decode cX1_kindBits 14 = .ok (.aload_n 0, 1) := by decide +kernel
theorem dX1_kindBits_15 : decode cX1_kindBits 15 = .ok (.getfield 9, 3) := by decide +kernel
theorem dX1_kindBits_18 : decode cX1_kindBits 18 = .ok (.iload_n 2, 1) := by decide +kernel
theorem dX1_kindBits_19 : decode cX1_kindBits 19 = .ok (.iaload, 1) := by decide +kernel
theorem dX1_kindBits_20 : decode cX1_kindBits 20 = .ok (.ishl, 1) := by decide +kernel
theorem dX1_kindBits_21 : decode cX1_kindBits 21 = .ok (.ior, 1) := by decide +kernel
theorem dX1_kindBits_22 : decode cX1_kindBits 22 = .ok (.istore_n 1, 1) := by decide +kernel
theorem dX1_kindBits_23 : decode cX1_kindBits 23 = .ok (.iinc 2 1, 3) := by decide +kernel
theorem dX1_kindBits_26 : decode cX1_kindBits 26 = .ok (.goto (-22), 3) := by decide +kernel
theorem dX1_kindBits_29 : decode cX1_kindBits 29 = .ok (.iload_n 1, 1) := by decide +kernel
theorem dX1_kindBits_30 : decode cX1_kindBits 30 = .ok (.ireturn, 1) := by decide +kernel
theorem dX2_init_0 : decode cX2_init 0 = .ok (.aload_n 0, 1) := by decide +kernel
theorem dX2_init_1 : decode cX2_init 1 = .ok (.invokespecial 3, 3) := by decide +kernel
theorem dX2_init_4 : decode cX2_init 4 = .ok (.aload_n 0, 1) := by decide +kernel
theorem dX2_init_5 : decode cX2_init 5 = .ok (.bipush 36, 2) := by decide +kernel
theorem dX2_init_7 : decode cX2_init 7 = .ok (.newarray .int, 2) := by decide +kernel
theorem dX2_init_9 : decode cX2_init 9 = .ok (.putfield 9, 3) := by decide +kernel
theorem dX2_init_12 : decode cX2_init 12 = .ok (.aload_n 0, 1) := by decide +kernel
theorem dX2_init_13 : decode cX2_init 13 = .ok (.bipush 36, 2) := by decide +kernel
theorem dX2_init_15 : decode cX2_init 15 = .ok (.newarray .int, 2) := by decide +kernel
theorem dX2_init_17 : decode cX2_init 17 = .ok (.putfield 15, 3) := by decide +kernel
theorem dX2_init_20 : decode cX2_init 20 = .ok (.aload_n 0, 1) := by decide +kernel
theorem dX2_init_21 : decode cX2_init 21 = .ok (.iconst 0, 1) := by decide +kernel
theorem dX2_init_22 : decode cX2_init 22 = .ok (.putfield 18, 3) := by decide +kernel
theorem dX2_init_25 : decode cX2_init 25 = .ok (.aload_n 0, 1) := by decide +kernel
theorem dX2_init_26 : decode cX2_init 26 = .ok (.iconst 0, 1) := by decide +kernel
theorem dX2_init_27 : decode cX2_init 27 = .ok (.putfield 22, 3) := by decide +kernel
theorem dX2_init_30 : decode cX2_init 30 = .ok (.aload_n 0, 1) := by decide +kernel
theorem dX2_init_31 : decode cX2_init 31 = .ok (.iconst (-1), 1) := by decide +kernel
theorem dX2_init_32 : decode cX2_init 32 = .ok (.putfield 25, 3) := by decide +kernel
theorem dX2_init_35 : decode cX2_init 35 = .ok (.aload_n 0, 1) := by decide +kernel
theorem dX2_init_36 : decode cX2_init 36 = .ok (.iconst 0, 1) := by decide +kernel
theorem dX2_init_37 : decode cX2_init 37 = .ok (.putfield 28, 3) := by decide +kernel
theorem dX2_init_40 : decode cX2_init 40 = .ok (.aload_n 0, 1) := by decide +kernel
theorem dX2_init_41 : decode cX2_init 41 = .ok (.iload_n 1, 1) := by decide +kernel
theorem dX2_init_42 : decode cX2_init 42 = .ok (.putfield 32, 3) := by decide +kernel
theorem dX2_init_45 : decode cX2_init 45 = .ok (.aload_n 0, 1) := by decide +kernel
theorem dX2_init_46 : decode cX2_init 46 = .ok (.iload_n 2, 1) := by decide +kernel
theorem dX2_init_47 : decode cX2_init 47 = .ok (.putfield 35, 3) := by decide +kernel
theorem dX2_init_50 : decode cX2_init 50 = .ok (.aload_n 0, 1) := by decide +kernel
theorem dX2_init_51 : decode cX2_init 51 = .ok (.iload_n 1, 1) := by decide +kernel
theorem dX2_init_52 : decode cX2_init 52 = .ok (.iload_n 2, 1) := by decide +kernel
theorem dX2_init_53 : decode cX2_init 53 = .ok (.imul, 1) := by decide +kernel
theorem dX2_init_54 : decode cX2_init 54 = .ok (.putfield 38, 3) := by decide +kernel
theorem dX2_init_57 : decode cX2_init 57 = .ok (.return_, 1) := by decide +kernel
set_option maxRecDepth 20000 in
theorem ggX2_seek_X0_keepPattern : GoodIn wsX2_seek wsX0_keepPattern := goodIn_ca (goodIn_r _ [12, 13, 14, 15, 16, 17, 18, 19, 83, 84, 85, 86, 87, 88, 89, 90, 91, 92, 93] (by decide +kernel) (by decide +kernel)) (goodIn_sub (fun _ h => List.mem_cons_of_mem _ (List.mem_append_right _ h)) (by decide +kernel))
set_option maxRecDepth 20000 in
theorem gX2_seek_X0_keepPattern : GoodIn wsX2_seek (wsV RX2 41 RX0 yX0_keepPattern wsX0_keepPattern) := goodIn_app (goodIn_of _ (by decide +kernel)) ggX2_seek_X0_keepPattern
set_option maxRecDepth 20000 in
theorem ggX2_seek_X2_goOn : GoodIn wsX2_seek wsX2_goOn := goodIn_ca (goodIn_r _ [24, 25, 26, 27, 28, 29, 30, 23, 31, 32, 33, 34, 35, 3, 5, 6, 8, 9, 10, 11, 12, 13, 14, 15, 16, 17, 18, 19, 36, 37, 38, 39, 40, 41, 42, 43, 44, 45, 46, 47, 48, 49, 50, 51, 52, 53, 54, 2, 1, 4, 20, 21, 22, 55, 56, 57, 58, 59, 60, 61, 62, 63, 64, 65, 66, 67, 68, 69, 70, 71, 72, 73, 74, 75, 76, 77, 78, 79, 80, 81, 82, 83, 84, 85, 86, 87, 88, 89, 90, 91, 92, 93] (by decide +kernel) (by decide +kernel)) (goodIn_sub (fun _ h => List.mem_cons_of_mem _ (List.mem_append_right _ h)) (by decide +kernel))
set_option maxRecDepth 20000 in
theorem gX2_seek_X2_goOn : GoodIn wsX2_seek (wsV RX2 47 RX2 yX2_goOn wsX2_goOn) := goodIn_app (goodIn_of _ (by decide +kernel)) ggX2_seek_X2_goOn
theorem dX2_seek_0 : decode cX2_seek 0 = .ok (.aload_n 0, 1) := by decide +kernel
theorem dX2_seek_1 : decode cX2_seek 1 = .ok (.iload_n 2, 1) := by decide +kernel
theorem dX2_seek_2 : decode cX2_seek 2 = .ok (.putfield 18, 3) := by decide +kernel
theorem dX2_seek_5 : decode cX2_seek 5 = .ok (.aload_n 0, 1) := by decide +kernel
theorem dX2_seek_6 : decode cX2_seek 6 = .ok (.iconst 0, 1) := by decide +kernel
theorem dX2_seek_7 : decode cX2_seek 7 = .ok (.putfield 22, 3) := by decide +kernel
theorem dX2_seek_10 : decode cX2_seek 10 = .ok (.aload_n 0, 1) := by decide +kernel
theorem dX2_seek_11 : decode cX2_seek 11 = .ok (.iconst (-1), 1) := by decide +kernel
theorem dX2_seek_12 : decode cX2_seek 12 = .ok (.putfield 25, 3) := by decide +kernel
theorem dX2_seek_15 : decode cX2_seek 15 = .ok (.aload_n 0, 1) := by decide +kernel
theorem dX2_seek_16 : decode cX2_seek 16 = .ok (.iconst 0, 1) := by decide +kernel
theorem dX2_seek_17 : decode cX2_seek 17 = .ok (.putfield 28, 3) := by decide +kernel
theorem dX2_seek_20 : decode cX2_seek 20 = .ok (.aload_n 1, 1) := by decide +kernel
theorem dX2_seek_21 : decode cX2_seek 21 = .ok (.aload_n 0, 1) := by decide +kernel
theorem dX2_seek_22 : decode cX2_seek 22 = .ok (.getfield 9, 3) := by decide +kernel
theorem dX2_seek_25 : decode cX2_seek 25 = .ok (.aload_n 0, 1) := by decide +kernel
theorem dX2_seek_26 : decode cX2_seek 26 = .ok (.getfield 15, 3) := by decide +kernel
theorem dX2_seek_29 : decode cX2_seek 29 = .ok (.iconst 0, 1) := by decide +kernel
theorem dX2_seek_30 : decode cX2_seek 30 = .ok (.invokevirtual 41, 3) := by decide +kernel
theorem dX2_seek_33 : decode cX2_seek 33 = .ok (.aload_n 0, 1) := by decide +kernel
theorem dX2_seek_34 : decode cX2_seek 34 = .ok (.aload_n 1, 1) := by decide +kernel
theorem dX2_seek_35 : decode cX2_seek 35 = .ok (.iconst 0, 1) := by decide +kernel
theorem dX2_seek_36 : decode cX2_seek 36 = .ok (.lconst 0, 1) := by decide +kernel
theorem dX2_seek_37 : decode cX2_seek 37 = .ok (.iconst 0, 1) := by decide +kernel
theorem dX2_seek_38 : decode cX2_seek 38 = .ok (.invokevirtual 47, 3) := by decide +kernel
theorem dX2_seek_41 : decode cX2_seek 41 = .ok (.aload_n 1, 1) := by decide +kernel
theorem dX2_seek_42 : decode cX2_seek 42 = .ok (.aload_n 0, 1) := by decide +kernel
theorem dX2_seek_43 : decode cX2_seek 43 = .ok (.getfield 28, 3) := by decide +kernel
theorem dX2_seek_46 : decode cX2_seek 46 = .ok (.ifCond .ne 7, 3) := by decide +kernel
theorem dX2_seek_49 : decode cX2_seek 49 = .ok (.iconst 1, 1) := by decide +kernel
theorem dX2_seek_50 : decode cX2_seek 50 = .ok (.goto 4, 3) := by decide +kernel
theorem dX2_seek_53 : decode cX2_seek 53 = .ok (.iconst 0, 1) := by decide +kernel
theorem dX2_seek_54 : decode cX2_seek 54 = .ok (.putfield 51, 3) := by decide +kernel
theorem dX2_seek_57 : decode cX2_seek 57 = .ok (.return_, 1) := by decide +kernel
set_option maxRecDepth 20000 in
theorem ggX2_goOn_X2_firstOpen : GoodIn wsX2_goOn wsX2_firstOpen := goodIn_r _ [8, 1, 72, 73, 74, 75, 76, 77, 78, 79, 80] (by decide +kernel) (by decide +kernel)
set_option maxRecDepth 20000 in
theorem gX2_goOn_X2_firstOpen : GoodIn wsX2_goOn (wsV RX2 54 RX2 yX2_firstOpen wsX2_firstOpen) := goodIn_app (goodIn_of _ (by decide +kernel)) ggX2_goOn_X2_firstOpen
set_option maxRecDepth 20000 in
theorem ggX2_goOn_X2_keepIfBetter : GoodIn wsX2_goOn wsX2_keepIfBetter := goodIn_ca (goodIn_r _ [12, 13, 14, 15, 16, 17, 18, 19, 20, 21, 22, 23, 24, 25, 26, 27, 72, 73, 74, 75, 76, 77, 78, 79, 80, 81, 82, 83, 84, 85, 86, 87, 88, 89, 90, 91] (by decide +kernel) (by decide +kernel)) (goodIn_sub (fun _ h => List.mem_cons_of_mem _ (List.mem_append_right _ h)) (by decide +kernel))
set_option maxRecDepth 20000 in
theorem gX2_goOn_X2_keepIfBetter : GoodIn wsX2_goOn (wsV RX2 58 RX2 yX2_keepIfBetter wsX2_keepIfBetter) := goodIn_app (goodIn_of _ (by decide +kernel)) ggX2_goOn_X2_keepIfBetter
set_option maxRecDepth 20000 in
theorem ggX2_goOn_X2_mayBeatBest : GoodIn wsX2_goOn wsX2_mayBeatBest := goodIn_r _ [31, 1, 32, 13, 33, 34, 35, 36, 37, 38, 39, 72, 73, 74, 75, 76, 77, 78, 79, 80, 81, 82, 83, 84, 85, 86, 87, 88, 89, 90, 91] (by decide +kernel) (by decide +kernel)
set_option maxRecDepth 20000 in
theorem gX2_goOn_X2_mayBeatBest : GoodIn wsX2_goOn (wsV RX2 62 RX2 yX2_mayBeatBest wsX2_mayBeatBest) := goodIn_app (goodIn_of _ (by decide +kernel)) ggX2_goOn_X2_mayBeatBest
set_option maxRecDepth 20000 in
theorem ggX2_goOn_X2_tryBox : GoodIn wsX2_goOn wsX2_tryBox := goodIn_ca (goodIn_r _ [53, 54, 55, 14, 15, 56, 57, 58, 19, 59, 60, 61, 62, 63, 64, 65, 66, 67, 68, 69, 70, 71, 43, 44, 45, 7, 46, 47, 48, 49, 50, 51, 52, 0, 1, 2, 3, 4, 5, 6, 8, 9, 10, 11, 12, 13, 16, 17, 18, 20, 21, 22, 23, 24, 25, 26, 27, 28, 29, 30, 31, 32, 33, 34, 35, 36, 37, 38, 39, 40, 41, 42, 72, 73, 74, 75, 76, 77, 78, 79, 80, 81, 82, 83, 84, 85, 86, 87, 88, 89, 90, 91] (by decide +kernel) (by decide +kernel)) (goodIn_sub (fun _ h => List.mem_cons_of_mem _ (List.mem_append_right _ h)) (by decide +kernel))
set_option maxRecDepth 20000 in
theorem gX2_goOn_X2_tryBox : GoodIn wsX2_goOn (wsV RX2 66 RX2 yX2_tryBox wsX2_tryBox) := goodIn_app (goodIn_of _ (by decide +kernel)) ggX2_goOn_X2_tryBox
set_option maxRecDepth 20000 in
theorem ggX2_goOn_X2_takeStep : GoodIn wsX2_goOn wsX2_takeStep := goodIn_r _ [46, 47, 48, 49, 72, 73, 74, 75, 76, 77, 78, 79, 80] (by decide +kernel) (by decide +kernel)
set_option maxRecDepth 20000 in
theorem gX2_goOn_X2_takeStep : GoodIn wsX2_goOn (wsV RX2 76 RX2 yX2_takeStep wsX2_takeStep) := goodIn_app (goodIn_of _ (by decide +kernel)) ggX2_goOn_X2_takeStep
set_option maxRecDepth 20000 in
theorem ggX2_goOn_X2_goOn : GoodIn wsX2_goOn wsX2_goOn := goodIn_ca (goodIn_r _ [0, 1, 2, 3, 4, 5, 6, 7, 8, 9, 10, 11, 12, 13, 14, 15, 16, 17, 18, 19, 20, 21, 22, 23, 24, 25, 26, 27, 28, 29, 30, 31, 32, 33, 34, 35, 36, 37, 38, 39, 40, 41, 42, 43, 44, 45, 46, 47, 48, 49, 50, 51, 52, 53, 54, 55, 56, 57, 58, 59, 60, 61, 62, 63, 64, 65, 66, 67, 68, 69, 70, 71, 72, 73, 74, 75, 76, 77, 78, 79, 80, 81, 82, 83, 84, 85, 86, 87, 88, 89, 90, 91] (by decide +kernel) (by decide +kernel)) (goodIn_sub (fun _ h => List.mem_cons_of_mem _ (List.mem_append_right _ h)) (by decide +kernel))
set_option maxRecDepth 20000 in
theorem gX2_goOn_X2_goOn : GoodIn wsX2_goOn (wsV RX2 47 RX2 yX2_goOn wsX2_goOn) := goodIn_app (goodIn_of _ (by decide +kernel)) ggX2_goOn_X2_goOn
theorem dX2_goOn_0 : decode cX2_goOn 0 = .ok (.aload_n 0, 1) := by decide +kernel
theorem dX2_goOn_1 : decode cX2_goOn 1 = .ok (.iload_n 2, 1) := by decide +kernel
theorem dX2_goOn_2 : decode cX2_goOn 2 = .ok (.lload_n 3, 1) := by decide +kernel
theorem dX2_goOn_3 : decode cX2_goOn 3 = .ok (.invokevirtual 54, 3) := by decide +kernel
theorem dX2_goOn_6 : decode cX2_goOn 6 = .ok (.istore 6, 2) := by decide +kernel
theorem dX2_goOn_8 : decode cX2_goOn 8 = .ok (.iload 6, 2) := by decide +kernel
theorem dX2_goOn_10 : decode cX2_goOn 10 = .ok (.aload_n 0, 1) := by decide +kernel
theorem dX2_goOn_11 : decode cX2_goOn 11 = .ok (.getfield 38, 3) := by decide +kernel
theorem dX2_goOn_14 : decode cX2_goOn 14 = .ok (.if_icmp .lt 11, 3) := by decide +kernel
theorem dX2_goOn_17 : decode cX2_goOn 17 = .ok (.aload_n 0, 1) := by decide +kernel
theorem dX2_goOn_18 : decode cX2_goOn 18 = .ok (.aload_n 1, 1) := by decide +kernel
theorem dX2_goOn_19 : decode cX2_goOn 19 = .ok (.iload 5, 2) := by decide +kernel
theorem dX2_goOn_21 : decode cX2_goOn 21 = .ok (.invokevirtual 58, 3) := by decide +kernel
theorem dX2_goOn_24 : decode cX2_goOn 24 = .ok (.return_, 1) := by decide +kernel
theorem dX2_goOn_25 : decode cX2_goOn 25 = .ok (.aload_n 0, 1) := by decide +kernel
theorem dX2_goOn_26 : decode cX2_goOn 26 = .ok (.aload_n 1, 1) := by decide +kernel
theorem dX2_goOn_27 : decode cX2_goOn 27 = .ok (.lload_n 3, 1) := by decide +kernel
theorem dX2_goOn_28 : decode cX2_goOn 28 = .ok (.iload 5, 2) := by decide +kernel
theorem dX2_goOn_30 : decode cX2_goOn 30 = .ok (.invokevirtual 62, 3) := by decide +kernel
theorem dX2_goOn_33 : decode cX2_goOn 33 = .ok (.ifCond .ne 4, 3) := by decide +kernel
theorem dX2_goOn_36 : decode cX2_goOn 36 = .ok (.return_, 1) := by decide +kernel
theorem dX2_goOn_37 : decode cX2_goOn 37 = .ok (.aload_n 0, 1) := by decide +kernel
theorem dX2_goOn_38 : decode cX2_goOn 38 = .ok (.aload_n 1, 1) := by decide +kernel
theorem dX2_goOn_39 : decode cX2_goOn 39 = .ok (.iload 6, 2) := by decide +kernel
theorem dX2_goOn_41 : decode cX2_goOn 41 = .ok (.iconst 0, 1) := by decide +kernel
theorem dX2_goOn_42 : decode cX2_goOn 42 = .ok (.lload_n 3, 1) := by decide +kernel
theorem dX2_goOn_43 : decode cX2_goOn 43 = .ok (.iload 5, 2) := by decide +kernel
theorem dX2_goOn_45 : decode cX2_goOn 45 = .ok (.invokevirtual 66, 3) := by decide +kernel
theorem dX2_goOn_48 : decode cX2_goOn 48 = .ok (.aload_n 1, 1) := by decide +kernel
theorem dX2_goOn_49 : decode cX2_goOn 49 = .ok (.getfield 70, 3) := by decide +kernel
theorem dX2_goOn_52 : decode cX2_goOn 52 = .ok (.aload_n 1, 1) := by decide +kernel
theorem dX2_goOn_53 : decode cX2_goOn 53 = .ok (.getfield 73, 3) := by decide +kernel
theorem dX2_goOn_56 : decode cX2_goOn 56 = .ok (.if_icmp .eq 14, 3) := by decide +kernel
theorem dX2_goOn_59 : decode cX2_goOn 59 = .ok (.aload_n 0, 1) := by decide +kernel
theorem dX2_goOn_60 : decode cX2_goOn 60 = .ok (.aload_n 1, 1) := by decide +kernel
theorem dX2_goOn_61 : decode cX2_goOn 61 = .ok (.iload 6, 2) := by decide +kernel
theorem dX2_goOn_63 : decode cX2_goOn 63 = .ok (.iconst 1, 1) := by decide +kernel
theorem dX2_goOn_64 : decode cX2_goOn 64 = .ok (.lload_n 3, 1) := by decide +kernel
theorem dX2_goOn_65 : decode cX2_goOn 65 = .ok (.iload 5, 2) := by decide +kernel
theorem dX2_goOn_67 : decode cX2_goOn 67 = .ok (.invokevirtual 66, 3) := by decide +kernel
theorem dX2_goOn_70 : decode cX2_goOn 70 = .ok (.aload_n 0, 1) := by decide +kernel
theorem dX2_goOn_71 : decode cX2_goOn 71 = .ok (.invokevirtual 76, 3) := by decide +kernel
theorem dX2_goOn_74 : decode cX2_goOn 74 = .ok (.ifCond .eq 20, 3) := by decide +kernel
theorem dX2_goOn_77 : decode cX2_goOn 77 = .ok (.aload_n 0, 1) := by decide +kernel
theorem dX2_goOn_78 : decode cX2_goOn 78 = .ok (.aload_n 1, 1) := by decide +kernel
theorem dX2_goOn_79 : decode cX2_goOn 79 = .ok (.iload 6, 2) := by decide +kernel
theorem dX2_goOn_81 : decode cX2_goOn 81 = .ok (.iconst 1, 1) := by decide +kernel
theorem dX2_goOn_82 : decode cX2_goOn 82 = .ok (.iadd, 1) := by decide +kernel
theorem dX2_goOn_83 : decode cX2_goOn 83 = .ok (.lload_n 3, 1) := by decide +kernel
theorem dX2_goOn_84 : decode cX2_goOn 84 = .ok (.lconst 1, 1) := by decide +kernel
theorem dX2_goOn_85 : decode cX2_goOn 85 = .ok (.iload 6, 2) := by decide +kernel
theorem dX2_goOn_87 : decode cX2_goOn 87 = .ok (.lshl, 1) := by decide +kernel
theorem dX2_goOn_88 : decode cX2_goOn 88 = .ok (.lor, 1) := by decide +kernel
theorem dX2_goOn_89 : decode cX2_goOn 89 = .ok (.iload 5, 2) := by decide +kernel
theorem dX2_goOn_91 : decode cX2_goOn 91 = .ok (.invokevirtual 47, 3) := by decide +kernel
theorem dX2_goOn_94 : decode cX2_goOn 94 = .ok (.return_, 1) := by decide +kernel
set_option maxRecDepth 20000 in
theorem ggX2_tryBox_X0_cellsAt : GoodIn wsX2_tryBox wsX0_cellsAt := goodIn_r _ [9, 10, 11, 81, 82, 83, 84, 85, 86, 87, 88, 89, 90, 91] (by decide +kernel) (by decide +kernel)
set_option maxRecDepth 20000 in
theorem gX2_tryBox_X0_cellsAt : GoodIn wsX2_tryBox (wsV RX2 80 RX0 yX0_cellsAt wsX0_cellsAt) := goodIn_app (goodIn_of _ (by decide +kernel)) ggX2_tryBox_X0_cellsAt
set_option maxRecDepth 20000 in
theorem ggX2_tryBox_X0_across : GoodIn wsX2_tryBox wsX0_across := goodIn_r _ [15, 16, 17, 81, 82, 83, 84, 85, 86, 87, 88, 89, 90, 91] (by decide +kernel) (by decide +kernel)
set_option maxRecDepth 20000 in
theorem gX2_tryBox_X0_across : GoodIn wsX2_tryBox (wsV RX2 84 RX0 yX0_across wsX0_across) := goodIn_app (goodIn_of _ (by decide +kernel)) ggX2_tryBox_X0_across
set_option maxRecDepth 20000 in
theorem ggX2_tryBox_X0_along : GoodIn wsX2_tryBox wsX0_along := goodIn_r _ [21, 17, 16, 81, 82, 83, 84, 85, 86, 87, 88, 89, 90, 91] (by decide +kernel) (by decide +kernel)
set_option maxRecDepth 20000 in
theorem gX2_tryBox_X0_along : GoodIn wsX2_tryBox (wsV RX2 88 RX0 yX0_along wsX0_along) := goodIn_app (goodIn_of _ (by decide +kernel)) ggX2_tryBox_X0_along
set_option maxRecDepth 20000 in
theorem ggX2_tryBox_X2_takeStep : GoodIn wsX2_tryBox wsX2_takeStep := goodIn_r _ [26, 27, 28, 29, 72, 73, 74, 75, 76, 77, 78, 79, 80] (by decide +kernel) (by decide +kernel)
set_option maxRecDepth 20000 in
theorem gX2_tryBox_X2_takeStep : GoodIn wsX2_tryBox (wsV RX2 76 RX2 yX2_takeStep wsX2_takeStep) := goodIn_app (goodIn_of _ (by decide +kernel)) ggX2_tryBox_X2_takeStep
set_option maxRecDepth 20000 in
theorem ggX2_tryBox_X2_goOn : GoodIn wsX2_tryBox wsX2_goOn := goodIn_ca (goodIn_r _ [33, 34, 35, 36, 37, 38, 39, 25, 40, 41, 42, 43, 44, 45, 3, 4, 46, 47, 48, 8, 49, 50, 51, 52, 53, 54, 55, 56, 57, 58, 59, 60, 61, 62, 63, 64, 65, 66, 67, 68, 69, 70, 71, 22, 23, 24, 26, 27, 28, 29, 30, 31, 32, 0, 1, 2, 5, 6, 7, 9, 10, 11, 12, 13, 14, 15, 16, 17, 18, 19, 20, 21, 72, 73, 74, 75, 76, 77, 78, 79, 80, 81, 82, 83, 84, 85, 86, 87, 88, 89, 90, 91] (by decide +kernel) (by decide +kernel)) (goodIn_sub (fun _ h => List.mem_cons_of_mem _ (List.mem_append_right _ h)) (by decide +kernel))
set_option maxRecDepth 20000 in
theorem gX2_tryBox_X2_goOn : GoodIn wsX2_tryBox (wsV RX2 47 RX2 yX2_goOn wsX2_goOn) := goodIn_app (goodIn_of _ (by decide +kernel)) ggX2_tryBox_X2_goOn
theorem dX2_tryBox_0 : decode cX2_tryBox 0 = .ok (.aload_n 1, 1) := by decide +kernel
theorem dX2_tryBox_1 : decode cX2_tryBox 1 = .ok (.iload_n 2, 1) := by decide +kernel
theorem dX2_tryBox_2 : decode cX2_tryBox 2 = .ok (.iload_n 3, 1) := by decide +kernel
theorem dX2_tryBox_3 : decode cX2_tryBox 3 = .ok (.invokevirtual 80, 3) := by decide +kernel
theorem dX2_tryBox_6 : decode cX2_tryBox 6 = .ok (.lstore 7, 2) := by decide +kernel
theorem dX2_tryBox_8 : decode cX2_tryBox 8 = .ok (.iload_n 2, 1) := by decide +kernel
theorem dX2_tryBox_9 : decode cX2_tryBox 9 = .ok (.aload_n 0, 1) := by decide +kernel
theorem dX2_tryBox_10 : decode cX2_tryBox 10 = .ok (.getfield 32, 3) := by decide +kernel
theorem dX2_tryBox_13 : decode cX2_tryBox 13 = .ok (.irem, 1) := by decide +kernel
theorem dX2_tryBox_14 : decode cX2_tryBox 14 = .ok (.aload_n 1, 1) := by decide +kernel
theorem dX2_tryBox_15 : decode cX2_tryBox 15 = .ok (.iload_n 3, 1) := by decide +kernel
theorem dX2_tryBox_16 : decode cX2_tryBox 16 = .ok (.invokevirtual 84, 3) := by decide +kernel
theorem dX2_tryBox_19 : decode cX2_tryBox 19 = .ok (.iadd, 1) := by decide +kernel
theorem dX2_tryBox_20 : decode cX2_tryBox 20 = .ok (.aload_n 0, 1) := by decide +kernel
theorem dX2_tryBox_21 : decode cX2_tryBox 21 = .ok (.getfield 32, 3) := by decide +kernel
theorem dX2_tryBox_24 : decode cX2_tryBox 24 = .ok (.if_icmp .gt 26, 3) := by decide +kernel
theorem dX2_tryBox_27 : decode cX2_tryBox 27 = .ok (.iload_n 2, 1) := by decide +kernel
theorem dX2_tryBox_28 : decode cX2_tryBox 28 = .ok (.aload_n 0, 1) := by decide +kernel
theorem dX2_tryBox_29 : decode cX2_tryBox 29 = .ok (.getfield 32, 3) := by decide +kernel
theorem dX2_tryBox_32 : decode cX2_tryBox 32 = .ok (.idiv, 1) := by decide +kernel
theorem dX2_tryBox_33 : decode cX2_tryBox 33 = .ok (.aload_n 1, 1) := by decide +kernel
theorem dX2_tryBox_34 : decode cX2_tryBox 34 = .ok (.iload_n 3, 1) := by decide +kernel
theorem dX2_tryBox_35 : decode cX2_tryBox 35 = .ok (.invokevirtual 88, 3) := by decide +kernel
theorem dX2_tryBox_38 : decode cX2_tryBox 38 = .ok (.iadd, 1) := by decide +kernel
theorem dX2_tryBox_39 : decode cX2_tryBox 39 = .ok (.aload_n 0, 1) := by decide +kernel
theorem dX2_tryBox_40 : decode cX2_tryBox 40 = .ok (.getfield 35, 3) := by decide +kernel
theorem dX2_tryBox_43 : decode cX2_tryBox 43 = .ok (.if_icmp .gt 7, 3) := by decide +kernel
theorem dX2_tryBox_46 : decode cX2_tryBox 46 = .ok (.iconst 1, 1) := by decide +kernel
theorem dX2_tryBox_47 : decode cX2_tryBox 47 = .ok (.goto 4, 3) := by decide +kernel
theorem dX2_tryBox_50 : decode cX2_tryBox 50 = .ok (.iconst 0, 1) := by decide +kernel
theorem dX2_tryBox_51 : decode cX2_tryBox 51 = .ok (.istore 9, 2) := by decide +kernel
theorem dX2_tryBox_53 : decode cX2_tryBox 53 = .ok (.iload 9, 2) := by decide +kernel
theorem dX2_tryBox_55 : decode cX2_tryBox 55 = .ok (.ifCond .eq 30, 3) := by decide +kernel
theorem dX2_tryBox_58 : decode cX2_tryBox 58 = .ok (.lload 7, 2) := by decide +kernel
theorem dX2_tryBox_60 : decode cX2_tryBox 60 = .ok (.lload 4, 2) := by decide +kernel
theorem dX2_tryBox_62 : decode cX2_tryBox 62 = .ok (.land, 1) := by decide +kernel
theorem dX2_tryBox_63 : decode cX2_tryBox 63 = .ok (.lconst 0, 1) := by decide +kernel
theorem dX2_tryBox_64 : decode cX2_tryBox 64 = .ok (.lcmp, 1) := by decide +kernel
theorem dX2_tryBox_65 : decode cX2_tryBox 65 = .ok (.ifCond .ne 20, 3) := by decide +kernel
theorem dX2_tryBox_68 : decode cX2_tryBox 68 = .ok (.iload 6, 2) := by decide +kernel
theorem dX2_tryBox_70 : decode cX2_tryBox 70 = .ok (.aload_n 0, 1) := by decide +kernel
theorem dX2_tryBox_71 : decode cX2_tryBox 71 = .ok (.getfield 9, 3) := by decide +kernel
theorem dX2_tryBox_74 : decode cX2_tryBox 74 = .ok (.arraylength, 1) := by decide +kernel
theorem dX2_tryBox_75 : decode cX2_tryBox 75 = .ok (.if_icmp .ge 10, 3) := by decide +kernel
theorem dX2_tryBox_78 : decode cX2_tryBox 78 = .ok (.aload_n 0, 1) := by decide +kernel
theorem dX2_tryBox_79 : decode cX2_tryBox 79 = .ok (.invokevirtual 76, 3) := by decide +kernel
theorem dX2_tryBox_82 : decode cX2_tryBox 82 = .ok (.ifCond .ne 4, 3) := by decide +kernel
theorem dX2_tryBox_85 : decode cX2_tryBox 85 = .ok (.return_, 1) := by decide +kernel
theorem dX2_tryBox_86 : decode cX2_tryBox 86 = .ok (.aload_n 0, 1) := by decide +kernel
theorem dX2_tryBox_87 : decode cX2_tryBox 87 = .ok (.getfield 9, 3) := by decide +kernel
theorem dX2_tryBox_90 : decode cX2_tryBox 90 = .ok (.iload 6, 2) := by decide +kernel
theorem dX2_tryBox_92 : decode cX2_tryBox 92 = .ok (.iload_n 2, 1) := by decide +kernel
theorem dX2_tryBox_93 : decode cX2_tryBox 93 = .ok (.iastore, 1) := by decide +kernel
theorem dX2_tryBox_94 : decode cX2_tryBox 94 = .ok (.aload_n 0, 1) := by decide +kernel
theorem dX2_tryBox_95 : decode cX2_tryBox 95 = .ok (.getfield 15, 3) := by decide +kernel
theorem dX2_tryBox_98 : decode cX2_tryBox 98 = .ok (.iload 6, 2) := by decide +kernel
theorem dX2_tryBox_100 : decode cX2_tryBox 100 = .ok (.iload_n 3, 1) := by decide +kernel
theorem dX2_tryBox_101 : decode cX2_tryBox 101 = .ok (.iastore, 1) := by decide +kernel
theorem dX2_tryBox_102 : decode cX2_tryBox 102 = .ok (.aload_n 0, 1) := by decide +kernel
theorem dX2_tryBox_103 : decode cX2_tryBox 103 = .ok (.aload_n 1, 1) := by decide +kernel
theorem dX2_tryBox_104 : decode cX2_tryBox 104 = .ok (.iload_n 2, 1) := by decide +kernel
theorem dX2_tryBox_105 : decode cX2_tryBox 105 = .ok (.iconst 1, 1) := by decide +kernel
theorem dX2_tryBox_106 : decode cX2_tryBox 106 = .ok (.iadd, 1) := by decide +kernel
theorem dX2_tryBox_107 : decode cX2_tryBox 107 = .ok (.lload 4, 2) := by decide +kernel
theorem dX2_tryBox_109 : decode cX2_tryBox 109 = .ok (.lload 7, 2) := by decide +kernel
theorem dX2_tryBox_111 : decode cX2_tryBox 111 = .ok (.lor, 1) := by decide +kernel
theorem dX2_tryBox_112 : decode cX2_tryBox 112 = .ok (.iload 6, 2) := by decide +kernel
theorem dX2_tryBox_114 : decode cX2_tryBox 114 = .ok (.iconst 1, 1) := by decide +kernel
theorem dX2_tryBox_115 : decode cX2_tryBox 115 = .ok (.iadd, 1) := by decide +kernel
theorem dX2_tryBox_116 : decode cX2_tryBox 116 = .ok (.invokevirtual 47, 3) := by decide +kernel
theorem dX2_tryBox_119 : decode cX2_tryBox 119 = .ok (.return_, 1) := by decide +kernel
theorem dX2_firstOpen_0 : decode cX2_firstOpen 0 = .ok (.iload_n 1, 1) := by decide +kernel
theorem dX2_firstOpen_1 : decode cX2_firstOpen 1 = .ok (.istore 4, 2) := by decide +kernel
theorem dX2_firstOpen_3 : decode cX2_firstOpen 3 = .ok (.iload 4, 2) := by decide +kernel
theorem dX2_firstOpen_5 : decode cX2_firstOpen 5 = .ok (.aload_n 0, 1) := by decide +kernel
theorem dX2_firstOpen_6 : decode cX2_firstOpen 6 = .ok (.getfield 38, 3) := by decide +kernel
theorem dX2_firstOpen_9 : decode cX2_firstOpen 9 = .ok (.if_icmp .ge 20, 3) := by decide +kernel
theorem dX2_firstOpen_12 : decode cX2_firstOpen 12 = .ok (.lload_n 2, 1) := by decide +kernel
theorem dX2_firstOpen_13 : decode cX2_firstOpen 13 = .ok (.iload 4, 2) := by decide +kernel
theorem dX2_firstOpen_15 : decode cX2_firstOpen 15 = .ok (.lshr, 1) := by decide +kernel
theorem dX2_firstOpen_16 : decode cX2_firstOpen 16 = .ok (.lconst 1, 1) := by decide +kernel
theorem dX2_firstOpen_17 : decode cX2_firstOpen 17 = .ok (.land, 1) := by decide +kernel
theorem dX2_firstOpen_18 : decode cX2_firstOpen 18 = .ok (.lconst 1, 1) := by decide +kernel
theorem dX2_firstOpen_19 : decode cX2_firstOpen 19 = .ok (.lcmp, 1) := by decide +kernel
theorem dX2_firstOpen_20 : decode cX2_firstOpen 20 = .ok (.ifCond .ne 9, 3) := by decide +kernel
theorem dX2_firstOpen_23 : decode cX2_firstOpen 23 = .ok (.iinc 4 1, 3) := by decide +kernel
theorem dX2_firstOpen_26 : decode cX2_firstOpen 26 = .ok (.goto (-23), 3) := by decide +kernel
theorem dX2_firstOpen_29 : decode cX2_firstOpen 29 = .ok (.iload 4, 2) := by decide +kernel
theorem dX2_firstOpen_31 : decode cX2_firstOpen 31 = .ok (.ireturn, 1) := by decide +kernel
set_option maxRecDepth 20000 in
theorem ggX2_mayBeatBest_J13_bitCount_95d88 : GoodIn wsX2_mayBeatBest wsJ13_bitCount_95d88 := goodIn_r _ [7, 8, 9, 10] (by decide +kernel) (by decide +kernel)
set_option maxRecDepth 20000 in
theorem gX2_mayBeatBest_J13_bitCount_95d88 : GoodIn wsX2_mayBeatBest (va_wsS RX2 91 yJ13_bitCount_95d88 wsJ13_bitCount_95d88) := goodIn_app (goodIn_of _ (by decide +kernel)) ggX2_mayBeatBest_J13_bitCount_95d88
theorem dX2_mayBeatBest_0 : decode cX2_mayBeatBest 0 = .ok (.aload_n 0, 1) := by decide +kernel
theorem dX2_mayBeatBest_1 : decode cX2_mayBeatBest 1 = .ok (.getfield 38, 3) := by decide +kernel
theorem dX2_mayBeatBest_4 : decode cX2_mayBeatBest 4 = .ok (.lload_n 2, 1) := by decide +kernel
theorem dX2_mayBeatBest_5 : decode cX2_mayBeatBest 5 = .ok (.invokestatic 91, 3) := by decide +kernel
theorem dX2_mayBeatBest_8 : decode cX2_mayBeatBest 8 = .ok (.isub, 1) := by decide +kernel
theorem dX2_mayBeatBest_9 : decode cX2_mayBeatBest 9 = .ok (.istore 5, 2) := by decide +kernel
theorem dX2_mayBeatBest_11 : decode cX2_mayBeatBest 11 = .ok (.iload 4, 2) := by decide +kernel
theorem dX2_mayBeatBest_13 : decode cX2_mayBeatBest 13 = .ok (.iload 5, 2) := by decide +kernel
theorem dX2_mayBeatBest_15 : decode cX2_mayBeatBest 15 = .ok (.aload_n 1, 1) := by decide +kernel
theorem dX2_mayBeatBest_16 : decode cX2_mayBeatBest 16 = .ok (.getfield 97, 3) := by decide +kernel
theorem dX2_mayBeatBest_19 : decode cX2_mayBeatBest 19 = .ok (.idiv, 1) := by decide +kernel
theorem dX2_mayBeatBest_20 : decode cX2_mayBeatBest 20 = .ok (.iadd, 1) := by decide +kernel
theorem dX2_mayBeatBest_21 : decode cX2_mayBeatBest 21 = .ok (.aload_n 0, 1) := by decide +kernel
theorem dX2_mayBeatBest_22 : decode cX2_mayBeatBest 22 = .ok (.getfield 25, 3) := by decide +kernel
theorem dX2_mayBeatBest_25 : decode cX2_mayBeatBest 25 = .ok (.if_icmp .le 7, 3) := by decide +kernel
theorem dX2_mayBeatBest_28 : decode cX2_mayBeatBest 28 = .ok (.iconst 1, 1) := by decide +kernel
theorem dX2_mayBeatBest_29 : decode cX2_mayBeatBest 29 = .ok (.goto 4, 3) := by decide +kernel
theorem dX2_mayBeatBest_32 : decode cX2_mayBeatBest 32 = .ok (.iconst 0, 1) := by decide +kernel
theorem dX2_mayBeatBest_33 : decode cX2_mayBeatBest 33 = .ok (.ireturn, 1) := by decide +kernel
theorem dX2_takeStep_0 : decode cX2_takeStep 0 = .ok (.aload_n 0, 1) := by decide +kernel
theorem dX2_takeStep_1 : decode cX2_takeStep 1 = .ok (.getfield 22, 3) := by decide +kernel
theorem dX2_takeStep_4 : decode cX2_takeStep 4 = .ok (.aload_n 0, 1) := by decide +kernel
theorem dX2_takeStep_5 : decode cX2_takeStep 5 = .ok (.getfield 18, 3) := by decide +kernel
theorem dX2_takeStep_8 : decode cX2_takeStep 8 = .ok (.if_icmp .lt 10, 3) := by decide +kernel
theorem dX2_takeStep_11 : decode cX2_takeStep 11 = .ok (.aload_n 0, 1) := by decide +kernel
theorem dX2_takeStep_12 : decode cX2_takeStep 12 = .ok (.iconst 1, 1) := by decide +kernel
theorem dX2_takeStep_13 : decode cX2_takeStep 13 = .ok (.putfield 28, 3) := by decide +kernel
theorem dX2_takeStep_16 : decode cX2_takeStep 16 = .ok (.iconst 0, 1) := by decide +kernel
theorem dX2_takeStep_17 : decode cX2_takeStep 17 = .ok (.ireturn, 1) := by decide +kernel
theorem dX2_takeStep_18 : decode cX2_takeStep 18 = .ok (.aload_n 0, 1) := by decide +kernel
theorem dX2_takeStep_19 : decode cX2_takeStep 19 = .ok (.dup, 1) := by decide +kernel
theorem dX2_takeStep_20 : decode cX2_takeStep 20 = .ok (.getfield 22, 3) := by decide +kernel
theorem dX2_takeStep_23 : decode cX2_takeStep 23 = .ok (.iconst 1, 1) := by decide +kernel
theorem dX2_takeStep_24 : decode cX2_takeStep 24 = .ok (.iadd, 1) := by decide +kernel
theorem dX2_takeStep_25 : decode cX2_takeStep 25 = .ok (.putfield 22, 3) := by decide +kernel
theorem dX2_takeStep_28 : decode cX2_takeStep 28 = .ok (.iconst 1, 1) := by decide +kernel
theorem dX2_takeStep_29 : decode cX2_takeStep 29 = .ok (.ireturn, 1) := by decide +kernel
set_option maxRecDepth 20000 in
theorem ggX2_keepIfBetter_X0_keepPattern : GoodIn wsX2_keepIfBetter wsX0_keepPattern := goodIn_ca (goodIn_r _ [8, 9, 10, 11, 12, 13, 14, 15, 25, 26, 27, 28, 29, 30, 31, 32, 33, 34, 35] (by decide +kernel) (by decide +kernel)) (goodIn_sub (fun _ h => List.mem_cons_of_mem _ (List.mem_append_right _ h)) (by decide +kernel))
set_option maxRecDepth 20000 in
theorem gX2_keepIfBetter_X0_keepPattern : GoodIn wsX2_keepIfBetter (wsV RX2 41 RX0 yX0_keepPattern wsX0_keepPattern) := goodIn_app (goodIn_of _ (by decide +kernel)) ggX2_keepIfBetter_X0_keepPattern
theorem dX2_keepIfBetter_0 : decode cX2_keepIfBetter 0 = .ok (.iload_n 2, 1) := by decide +kernel
theorem dX2_keepIfBetter_1 : decode cX2_keepIfBetter 1 = .ok (.aload_n 0, 1) := by decide +kernel
theorem dX2_keepIfBetter_2 : decode cX2_keepIfBetter 2 = .ok (.getfield 25, 3) := by decide +kernel
theorem dX2_keepIfBetter_5 : decode cX2_keepIfBetter 5 = .ok (.if_icmp .le 21, 3) := by decide +kernel
theorem dX2_keepIfBetter_8 : decode cX2_keepIfBetter 8 = .ok (.aload_n 0, 1) := by decide +kernel
theorem dX2_keepIfBetter_9 : decode cX2_keepIfBetter 9 = .ok (.iload_n 2, 1) := by decide +kernel
theorem dX2_keepIfBetter_10 : decode cX2_keepIfBetter 10 = .ok (.putfield 25, 3) := by decide +kernel
theorem dX2_keepIfBetter_13 : decode cX2_keepIfBetter 13 = .ok (.aload_n 1, 1) := by decide +kernel
theorem dX2_keepIfBetter_14 : decode cX2_keepIfBetter 14 = .ok (.aload_n 0, 1) := by decide +kernel
theorem dX2_keepIfBetter_15 : decode cX2_keepIfBetter 15 = .ok (.getfield 9, 3) := by decide +kernel
theorem dX2_keepIfBetter_18 : decode cX2_keepIfBetter 18 = .ok (.aload_n 0, 1) := by decide +kernel
theorem dX2_keepIfBetter_19 : decode cX2_keepIfBetter 19 = .ok (.getfield 15, 3) := by decide +kernel
theorem dX2_keepIfBetter_22 : decode cX2_keepIfBetter 22 = .ok (.iload_n 2, 1) := by decide +kernel
theorem dX2_keepIfBetter_23 : decode cX2_keepIfBetter 23 = .ok (.invokevirtual 41, 3) := by decide +kernel
theorem dX2_keepIfBetter_26 : decode cX2_keepIfBetter 26 = .ok (.return_, 1) := by decide +kernel
set_option maxRecDepth 20000 in
theorem ggX3_init_X2_init : GoodIn wsX3_init wsX2_init := goodIn_r _ [31, 32, 2, 3, 8, 33, 34, 35, 36, 37, 38, 39, 40, 41, 54, 55, 56, 57, 58, 59, 60, 61, 62] (by decide +kernel) (by decide +kernel)
set_option maxRecDepth 20000 in
theorem gX3_init_X2_init : GoodIn wsX3_init (wsX2_init) := ggX3_init_X2_init
theorem dX3_init_0 : decode cX3_init 0 = .ok (.aload_n 0, 1) := by decide +kernel
theorem dX3_init_1 : decode cX3_init 1 = .ok (.invokespecial 3, 3) := by decide +kernel
theorem dX3_init_4 : decode cX3_init 4 = .ok (.aload_n 0, 1) := by decide +kernel
theorem dX3_init_5 : decode cX3_init 5 = .ok (.bipush 6, 2) := by decide +kernel
theorem dX3_init_7 : decode cX3_init 7 = .ok (.anewarray 9, 3) := by decide +kernel
theorem dX3_init_10 : decode cX3_init 10 = .ok (.putfield 11, 3) := by decide +kernel
theorem dX3_init_13 : decode cX3_init 13 = .ok (.aload_n 0, 1) := by decide +kernel
theorem dX3_init_14 : decode cX3_init 14 = .ok (.bipush 8, 2) := by decide +kernel
theorem dX3_init_16 : decode cX3_init 16 = .ok (.anewarray 15, 3) := by decide +kernel
theorem dX3_init_19 : decode cX3_init 19 = .ok (.putfield 17, 3) := by decide +kernel
theorem dX3_init_22 : decode cX3_init 22 = .ok (.aload_n 0, 1) := by decide +kernel
theorem dX3_init_23 : decode cX3_init 23 = .ok (.bipush 8, 2) := by decide +kernel
theorem dX3_init_25 : decode cX3_init 25 = .ok (.newarray .int, 2) := by decide +kernel
theorem dX3_init_27 : decode cX3_init 27 = .ok (.putfield 21, 3) := by decide +kernel
theorem dX3_init_30 : decode cX3_init 30 = .ok (.aload_n 0, 1) := by decide +kernel
theorem dX3_init_31 : decode cX3_init 31 = .ok (.iconst 0, 1) := by decide +kernel
theorem dX3_init_32 : decode cX3_init 32 = .ok (.putfield 25, 3) := by decide +kernel
theorem dX3_init_35 : decode cX3_init 35 = .ok (.aload_n 0, 1) := by decide +kernel
theorem dX3_init_36 : decode cX3_init 36 = .ok (.iconst 0, 1) := by decide +kernel
theorem dX3_init_37 : decode cX3_init 37 = .ok (.putfield 29, 3) := by decide +kernel
theorem dX3_init_40 : decode cX3_init 40 = .ok (.aload_n 0, 1) := by decide +kernel
theorem dX3_init_41 : decode cX3_init 41 = .ok (.iconst 0, 1) := by decide +kernel
theorem dX3_init_42 : decode cX3_init 42 = .ok (.putfield 32, 3) := by decide +kernel
theorem dX3_init_45 : decode cX3_init 45 = .ok (.aload_n 0, 1) := by decide +kernel
theorem dX3_init_46 : decode cX3_init 46 = .ok (.bipush 50, 2) := by decide +kernel
theorem dX3_init_48 : decode cX3_init 48 = .ok (.putfield 35, 3) := by decide +kernel
theorem dX3_init_51 : decode cX3_init 51 = .ok (.aload_n 0, 1) := by decide +kernel
theorem dX3_init_52 : decode cX3_init 52 = .ok (.bipush 100, 2) := by decide +kernel
theorem dX3_init_54 : decode cX3_init 54 = .ok (.putfield 38, 3) := by decide +kernel
theorem dX3_init_57 : decode cX3_init 57 = .ok (.aload_n 0, 1) := by decide +kernel
theorem dX3_init_58 : decode cX3_init 58 = .ok (.sipush 10000, 3) := by decide +kernel
theorem dX3_init_61 : decode cX3_init 61 = .ok (.putfield 41, 3) := by decide +kernel
theorem dX3_init_64 : decode cX3_init 64 = .ok (.aload_n 0, 1) := by decide +kernel
theorem dX3_init_65 : decode cX3_init 65 = .ok (.iconst 1, 1) := by decide +kernel
theorem dX3_init_66 : decode cX3_init 66 = .ok (.bipush 6, 2) := by decide +kernel
theorem dX3_init_68 : decode cX3_init 68 = .ok (.iload_n 1, 1) := by decide +kernel
theorem dX3_init_69 : decode cX3_init 69 = .ok (.invokestatic 44, 3) := by decide +kernel
theorem dX3_init_72 : decode cX3_init 72 = .ok (.invokestatic 50, 3) := by decide +kernel
theorem dX3_init_75 : decode cX3_init 75 = .ok (.putfield 53, 3) := by decide +kernel
theorem dX3_init_78 : decode cX3_init 78 = .ok (.aload_n 0, 1) := by decide +kernel
theorem dX3_init_79 : decode cX3_init 79 = .ok (.iconst 1, 1) := by decide +kernel
theorem dX3_init_80 : decode cX3_init 80 = .ok (.bipush 6, 2) := by decide +kernel
theorem dX3_init_82 : decode cX3_init 82 = .ok (.iload_n 2, 1) := by decide +kernel
theorem dX3_init_83 : decode cX3_init 83 = .ok (.invokestatic 44, 3) := by decide +kernel
theorem dX3_init_86 : decode cX3_init 86 = .ok (.invokestatic 50, 3) := by decide +kernel
theorem dX3_init_89 : decode cX3_init 89 = .ok (.putfield 56, 3) := by decide +kernel
theorem dX3_init_92 : decode cX3_init 92 = .ok (.aload_n 0, 1) := by decide +kernel
theorem dX3_init_93 : decode cX3_init 93 = .ok (.new 59, 3) := by decide +kernel
theorem dX3_init_96 : decode cX3_init 96 = .ok (.dup, 1) := by decide +kernel
theorem dX3_init_97 : decode cX3_init 97 = .ok (.aload_n 0, 1) := by decide +kernel
theorem dX3_init_98 : decode cX3_init 98 = .ok (.getfield 53, 3) := by decide +kernel
theorem dX3_init_101 : decode cX3_init 101 = .ok (.aload_n 0, 1) := by decide +kernel
theorem dX3_init_102 : decode cX3_init 102 = .ok (.getfield 56, 3) := by decide +kernel
theorem dX3_init_105 : decode cX3_init 105 = .ok (.invokespecial 61, 3) := by decide +kernel
theorem dX3_init_108 : decode cX3_init 108 = .ok (.putfield 64, 3) := by decide +kernel
theorem dX3_init_111 : decode cX3_init 111 = .ok (.return_, 1) := by decide +kernel
set_option maxRecDepth 20000 in
theorem ggX3_kind_X3_isOutside : GoodIn wsX3_kind wsX3_isOutside := goodIn_r _ [14] (by decide +kernel) (by decide +kernel)
set_option maxRecDepth 20000 in
theorem gX3_kind_X3_isOutside : GoodIn wsX3_kind (va_wsS RX3 68 yX3_isOutside wsX3_isOutside) := goodIn_app (goodIn_of _ (by decide +kernel)) ggX3_kind_X3_isOutside
set_option maxRecDepth 20000 in
theorem ggX3_kind_X0_init : GoodIn wsX3_kind wsX0_init := goodIn_r _ [17, 18, 19, 20, 21, 22, 23, 24, 25, 26, 27, 28, 29, 30, 31, 32, 33, 34, 9, 35, 48, 49, 50, 51, 52, 53, 54, 55, 56, 57, 58] (by decide +kernel) (by decide +kernel)
set_option maxRecDepth 20000 in
theorem gX3_kind_X0_init : GoodIn wsX3_kind (wsX0_init) := ggX3_kind_X0_init
theorem dX3_kind_0 : decode cX3_kind 0 = .ok (.iload_n 1, 1) := by decide +kernel
theorem dX3_kind_1 : decode cX3_kind 1 = .ok (.iconst 1, 1) := by decide +kernel
theorem dX3_kind_2 : decode cX3_kind 2 = .ok (.bipush 6, 2) := by decide +kernel
theorem dX3_kind_4 : decode cX3_kind 4 = .ok (.invokestatic 68, 3) := by decide +kernel
theorem dX3_kind_7 : decode cX3_kind 7 = .ok (.ifCond .ne 34, 3) := by decide +kernel
theorem dX3_kind_10 : decode cX3_kind 10 = .ok (.iload_n 2, 1) := by decide +kernel
theorem dX3_kind_11 : decode cX3_kind 11 = .ok (.iconst 1, 1) := by decide +kernel
theorem dX3_kind_12 : decode cX3_kind 12 = .ok (.bipush 6, 2) := by decide +kernel
theorem dX3_kind_14 : decode cX3_kind 14 = .ok (.invokestatic 68, 3) := by decide +kernel
theorem dX3_kind_17 : decode cX3_kind 17 = .ok (.ifCond .ne 24, 3) := by decide +kernel
theorem dX3_kind_20 : decode cX3_kind 20 = .ok (.iload_n 3, 1) := by decide +kernel
theorem dX3_kind_21 : decode cX3_kind 21 = .ok (.iconst 1, 1) := by decide +kernel
theorem dX3_kind_22 : decode cX3_kind 22 = .ok (.bipush 6, 2) := by decide +kernel
theorem dX3_kind_24 : decode cX3_kind 24 = .ok (.invokestatic 68, 3) := by decide +kernel
theorem dX3_kind_27 : decode cX3_kind 27 = .ok (.ifCond .ne 14, 3) := by decide +kernel
theorem dX3_kind_30 : decode cX3_kind 30 = .ok (.iload 4, 2) := by decide +kernel
theorem dX3_kind_32 : decode cX3_kind 32 = .ok (.iconst 0, 1) := by decide +kernel
theorem dX3_kind_33 : decode cX3_kind 33 = .ok (.bipush 100, 2) := by decide +kernel
theorem dX3_kind_35 : decode cX3_kind 35 = .ok (.invokestatic 68, 3) := by decide +kernel
theorem dX3_kind_38 : decode cX3_kind 38 = .ok (.ifCond .eq 13, 3) := by decide +kernel
theorem dX3_kind_41 : decode cX3_kind 41 = .ok (.new 72, 3) := by decide +kernel
theorem dX3_kind_44 : decode cX3_kind 44 = .ok (.dup, 1) := by decide +kernel
theorem dX3_kind_45 : decode cX3_kind 45 = .ok (.ldc 74, 2) := by decide +kernel
theorem dX3_kind_47 : decode cX3_kind 47 = .ok (.invokespecial 76, 3) := by decide +kernel
theorem dX3_kind_50 : decode cX3_kind 50 = .ok (.athrow, 1) := by decide +kernel
theorem dX3_kind_51 : decode cX3_kind 51 = .ok (.aload_n 0, 1) := by decide +kernel
theorem dX3_kind_52 : decode cX3_kind 52 = .ok (.getfield 25, 3) := by decide +kernel
theorem dX3_kind_55 : decode cX3_kind 55 = .ok (.aload_n 0, 1) := by decide +kernel
theorem dX3_kind_56 : decode cX3_kind 56 = .ok (.getfield 11, 3) := by decide +kernel
theorem dX3_kind_59 : decode cX3_kind 59 = .ok (.arraylength, 1) := by decide +kernel
theorem dX3_kind_60 : decode cX3_kind 60 = .ok (.if_icmp .lt 13, 3) := by decide +kernel
theorem dX3_kind_63 : decode cX3_kind 63 = .ok (.new 79, 3) := by decide +kernel
theorem dX3_kind_66 : decode cX3_kind 66 = .ok (.dup, 1) := by decide +kernel
theorem dX3_kind_67 : decode cX3_kind 67 = .ok (.ldc 81, 2) := by decide +kernel
theorem dX3_kind_69 : decode cX3_kind 69 = .ok (.invokespecial 83, 3) := by decide +kernel
theorem dX3_kind_72 : decode cX3_kind 72 = .ok (.athrow, 1) := by decide +kernel
theorem dX3_kind_73 : decode cX3_kind 73 = .ok (.aload_n 0, 1) := by decide +kernel
theorem dX3_kind_74 : decode cX3_kind 74 = .ok (.getfield 11, 3) := by decide +kernel
theorem dX3_kind_77 : decode cX3_kind 77 = .ok (.aload_n 0, 1) := by decide +kernel
theorem dX3_kind_78 : decode cX3_kind 78 = .ok (.getfield 25, 3) := by decide +kernel
theorem dX3_kind_81 : decode cX3_kind 81 = .ok (.new 9, 3) := by decide +kernel
theorem dX3_kind_84 : decode cX3_kind 84 = .ok (.dup, 1) := by decide +kernel
theorem dX3_kind_85 : decode cX3_kind 85 = .ok (.aload_n 0, 1) := by decide +kernel
theorem dX3_kind_86 : decode cX3_kind 86 = .ok (.getfield 53, 3) := by decide +kernel
theorem dX3_kind_89 : decode cX3_kind 89 = .ok (.iload_n 1, 1) := by decide +kernel
theorem dX3_kind_90 : decode cX3_kind 90 = .ok (.iload_n 2, 1) := by decide +kernel
theorem dX3_kind_91 : decode cX3_kind 91 = .ok (.iload_n 3, 1) := by decide +kernel
theorem dX3_kind_92 : decode cX3_kind 92 = .ok (.iload 4, 2) := by decide +kernel
theorem dX3_kind_94 : decode cX3_kind 94 = .ok (.invokespecial 84, 3) := by decide +kernel
theorem dX3_kind_97 : decode cX3_kind 97 = .ok (.aastore, 1) := by decide +kernel
theorem dX3_kind_98 : decode cX3_kind 98 = .ok (.aload_n 0, 1) := by decide +kernel
theorem dX3_kind_99 : decode cX3_kind 99 = .ok (.dup, 1) := by decide +kernel
theorem dX3_kind_100 : decode cX3_kind 100 = .ok (.getfield 25, 3) := by decide +kernel
theorem dX3_kind_103 : decode cX3_kind 103 = .ok (.iconst 1, 1) := by decide +kernel
theorem dX3_kind_104 : decode cX3_kind 104 = .ok (.iadd, 1) := by decide +kernel
theorem dX3_kind_105 : decode cX3_kind 105 = .ok (.putfield 25, 3) := by decide +kernel
theorem dX3_kind_108 : decode cX3_kind 108 = .ok (.aload_n 0, 1) := by decide +kernel
theorem dX3_kind_109 : decode cX3_kind 109 = .ok (.getfield 25, 3) := by decide +kernel
theorem dX3_kind_112 : decode cX3_kind 112 = .ok (.iconst 1, 1) := by decide +kernel
theorem dX3_kind_113 : decode cX3_kind 113 = .ok (.isub, 1) := by decide +kernel
theorem dX3_kind_114 : decode cX3_kind 114 = .ok (.ireturn, 1) := by decide +kernel
set_option maxRecDepth 20000 in
theorem ggX3_search_X3_kindNumbered : GoodIn wsX3_search wsX3_kindNumbered := goodIn_ca (goodIn_r _ [11, 12, 13, 14, 15, 16, 10, 17, 107, 108, 109, 110, 111, 112, 113, 114, 115, 116, 117, 118] (by decide +kernel) (by decide +kernel)) (goodIn_sub (fun _ h => List.mem_cons_of_mem _ (List.mem_append_left _ (List.mem_append_right _ h))) (by decide +kernel))
set_option maxRecDepth 20000 in
theorem gX3_search_X3_kindNumbered : GoodIn wsX3_search (wsV RX3 87 RX3 yX3_kindNumbered wsX3_kindNumbered) := goodIn_app (goodIn_of _ (by decide +kernel)) ggX3_search_X3_kindNumbered
set_option maxRecDepth 20000 in
theorem ggX3_search_X3_isOutside : GoodIn wsX3_search wsX3_isOutside := goodIn_r _ [17] (by decide +kernel) (by decide +kernel)
set_option maxRecDepth 20000 in
theorem gX3_search_X3_isOutside : GoodIn wsX3_search (va_wsS RX3 68 yX3_isOutside wsX3_isOutside) := goodIn_app (goodIn_of _ (by decide +kernel)) ggX3_search_X3_isOutside
set_option maxRecDepth 20000 in
theorem ggX3_search_X3_isOnAPallet : GoodIn wsX3_search wsX3_isOnAPallet := goodIn_ca (goodIn_r _ [21, 22, 23, 24, 25, 26, 27, 28, 29, 107, 108, 109, 110, 111, 112, 113, 114, 115, 116, 117, 118, 130, 131, 132, 133, 134, 135, 136, 137, 138, 139] (by decide +kernel) (by decide +kernel)) (goodIn_sub (fun _ h => List.mem_cons_of_mem _ (List.mem_append_right _ h)) (by decide +kernel))
set_option maxRecDepth 20000 in
theorem gX3_search_X3_isOnAPallet : GoodIn wsX3_search (wsV RX3 93 RX3 yX3_isOnAPallet wsX3_isOnAPallet) := goodIn_app (goodIn_of _ (by decide +kernel)) ggX3_search_X3_isOnAPallet
set_option maxRecDepth 20000 in
theorem ggX3_search_X2_seek : GoodIn wsX3_search wsX2_seek := goodIn_ca (goodIn_r _ [34, 35, 36, 37, 38, 39, 40, 41, 42, 43, 44, 45, 46, 47, 48, 49, 50, 51, 52, 53, 54, 55, 56, 33, 57, 58, 59, 60, 61, 62, 63, 64, 65, 66, 67, 68, 69, 70, 71, 72, 73, 74, 75, 76, 77, 78, 79, 80, 81, 82, 83, 84, 85, 86, 87, 88, 89, 90, 91, 92, 93, 94, 95, 96, 97, 98, 99, 100, 101, 102, 103, 104, 105, 106, 140, 141, 142, 143, 144, 145, 146, 147, 148, 119, 120, 121, 122, 123, 124, 125, 126, 127, 128, 129] (by decide +kernel) (by decide +kernel)) (goodIn_sub (fun _ h => List.mem_cons_of_mem _ (List.mem_append_right _ h)) (by decide +kernel))
set_option maxRecDepth 20000 in
theorem gX3_search_X2_seek : GoodIn wsX3_search (wsV RX3 102 RX2 yX2_seek wsX2_seek) := goodIn_app (goodIn_of _ (by decide +kernel)) ggX3_search_X2_seek
theorem dX3_search_0 : decode cX3_search 0 = .ok (.aload_n 0, 1) := by decide +kernel
theorem dX3_search_1 : decode cX3_search 1 = .ok (.iload_n 1, 1) := by decide +kernel
theorem dX3_search_2 : decode cX3_search 2 = .ok (.invokevirtual 87, 3) := by decide +kernel
theorem dX3_search_5 : decode cX3_search 5 = .ok (.astore_n 3, 1) := by decide +kernel
theorem dX3_search_6 : decode cX3_search 6 = .ok (.iload_n 2, 1) := by decide +kernel
theorem dX3_search_7 : decode cX3_search 7 = .ok (.iconst 0, 1) := by decide +kernel
theorem dX3_search_8 : decode cX3_search 8 = .ok (.sipush 5000, 3) := by decide +kernel
theorem dX3_search_11 : decode cX3_search 11 = .ok (.invokestatic 68, 3) := by decide +kernel
theorem dX3_search_14 : decode cX3_search 14 = .ok (.ifCond .eq 13, 3) := by decide +kernel
theorem dX3_search_17 : decode cX3_search 17 = .ok (.new 72, 3) := by decide +kernel
theorem dX3_search_20 : decode cX3_search 20 = .ok (.dup, 1) := by decide +kernel
theorem dX3_search_21 : decode cX3_search 21 = .ok (.ldc 91, 2) := by decide +kernel
theorem dX3_search_23 : decode cX3_search 23 = .ok (.invokespecial 76, 3) := by decide +kernel
theorem dX3_search_26 : decode cX3_search 26 = .ok (.athrow, 1) := by decide +kernel
theorem dX3_search_27 : decode cX3_search 27 = .ok (.aload_n 0, 1) := by decide +kernel
theorem dX3_search_28 : decode cX3_search 28 = .ok (.iload_n 1, 1) := by decide +kernel
theorem dX3_search_29 : decode cX3_search 29 = .ok (.invokevirtual 93, 3) := by decide +kernel
theorem dX3_search_32 : decode cX3_search 32 = .ok (.ifCond .eq 13, 3) := by decide +kernel
theorem dX3_search_35 : decode cX3_search 35 = .ok (.new 97, 3) := by decide +kernel
theorem dX3_search_38 : decode cX3_search 38 = .ok (.dup, 1) := by decide +kernel
theorem dX3_search_39 : decode cX3_search 39 = .ok (.ldc 99, 2) := by decide +kernel
theorem dX3_search_41 : decode cX3_search 41 = .ok (.invokespecial 101, 3) := by decide +kernel
theorem dX3_search_44 : decode cX3_search 44 = .ok (.athrow, 1) := by decide +kernel
theorem dX3_search_45 : decode cX3_search 45 = .ok (.aload_n 0, 1) := by decide +kernel
theorem dX3_search_46 : decode cX3_search 46 = .ok (.getfield 64, 3) := by decide +kernel
theorem dX3_search_49 : decode cX3_search 49 = .ok (.aload_n 3, 1) := by decide +kernel
theorem dX3_search_50 : decode cX3_search 50 = .ok (.iload_n 2, 1) := by decide +kernel
theorem dX3_search_51 : decode cX3_search 51 = .ok (.invokevirtual 102, 3) := by decide +kernel
theorem dX3_search_54 : decode cX3_search 54 = .ok (.aload_n 3, 1) := by decide +kernel
theorem dX3_search_55 : decode cX3_search 55 = .ok (.getfield 106, 3) := by decide +kernel
theorem dX3_search_58 : decode cX3_search 58 = .ok (.ireturn, 1) := by decide +kernel
set_option maxRecDepth 20000 in
theorem ggX3_pattern_X3_kindNumbered : GoodIn wsX3_pattern wsX3_kindNumbered := goodIn_ca (goodIn_r _ [14, 15, 16, 17, 18, 19, 13, 20, 38, 39, 40, 41, 42, 43, 44, 45, 46, 47, 48, 49] (by decide +kernel) (by decide +kernel)) (goodIn_sub (fun _ h => List.mem_cons_of_mem _ (List.mem_append_right _ h)) (by decide +kernel))
set_option maxRecDepth 20000 in
theorem gX3_pattern_X3_kindNumbered : GoodIn wsX3_pattern (wsV RX3 87 RX3 yX3_kindNumbered wsX3_kindNumbered) := goodIn_app (goodIn_of _ (by decide +kernel)) ggX3_pattern_X3_kindNumbered
set_option maxRecDepth 20000 in
theorem ggX3_pattern_X3_isOutside : GoodIn wsX3_pattern wsX3_isOutside := goodIn_r _ [20] (by decide +kernel) (by decide +kernel)
set_option maxRecDepth 20000 in
theorem gX3_pattern_X3_isOutside : GoodIn wsX3_pattern (va_wsS RX3 68 yX3_isOutside wsX3_isOutside) := goodIn_app (goodIn_of _ (by decide +kernel)) ggX3_pattern_X3_isOutside
theorem dX3_pattern_0 : decode cX3_pattern 0 = .ok (.aload_n 0, 1) := by decide +kernel
theorem dX3_pattern_1 : decode cX3_pattern 1 = .ok (.iload_n 1, 1) := by decide +kernel
theorem dX3_pattern_2 : decode cX3_pattern 2 = .ok (.invokevirtual 87, 3) := by decide +kernel
theorem dX3_pattern_5 : decode cX3_pattern 5 = .ok (.astore 4, 2) := by decide +kernel
theorem dX3_pattern_7 : decode cX3_pattern 7 = .ok (.iload_n 3, 1) := by decide +kernel
theorem dX3_pattern_8 : decode cX3_pattern 8 = .ok (.iconst 0, 1) := by decide +kernel
theorem dX3_pattern_9 : decode cX3_pattern 9 = .ok (.iconst 2, 1) := by decide +kernel
theorem dX3_pattern_10 : decode cX3_pattern 10 = .ok (.invokestatic 68, 3) := by decide +kernel
theorem dX3_pattern_13 : decode cX3_pattern 13 = .ok (.ifCond .eq 13, 3) := by decide +kernel
theorem dX3_pattern_16 : decode cX3_pattern 16 = .ok (.new 72, 3) := by decide +kernel
theorem dX3_pattern_19 : decode cX3_pattern 19 = .ok (.dup, 1) := by decide +kernel
theorem dX3_pattern_20 : decode cX3_pattern 20 = .ok (.ldc 109, 2) := by decide +kernel
theorem dX3_pattern_22 : decode cX3_pattern 22 = .ok (.invokespecial 76, 3) := by decide +kernel
theorem dX3_pattern_25 : decode cX3_pattern 25 = .ok (.athrow, 1) := by decide +kernel
theorem dX3_pattern_26 : decode cX3_pattern 26 = .ok (.iload_n 2, 1) := by decide +kernel
theorem dX3_pattern_27 : decode cX3_pattern 27 = .ok (.iconst 0, 1) := by decide +kernel
theorem dX3_pattern_28 : decode cX3_pattern 28 = .ok (.aload 4, 2) := by decide +kernel
theorem dX3_pattern_30 : decode cX3_pattern 30 = .ok (.getfield 106, 3) := by decide +kernel
theorem dX3_pattern_33 : decode cX3_pattern 33 = .ok (.iconst 1, 1) := by decide +kernel
theorem dX3_pattern_34 : decode cX3_pattern 34 = .ok (.isub, 1) := by decide +kernel
theorem dX3_pattern_35 : decode cX3_pattern 35 = .ok (.invokestatic 68, 3) := by decide +kernel
theorem dX3_pattern_38 : decode cX3_pattern 38 = .ok (.ifCond .eq 13, 3) := by decide +kernel
theorem dX3_pattern_41 : decode cX3_pattern 41 = .ok (.new 111, 3) := by decide +kernel
theorem dX3_pattern_44 : decode cX3_pattern 44 = .ok (.dup, 1) := by decide +kernel
theorem dX3_pattern_45 : decode cX3_pattern 45 = .ok (.ldc 113, 2) := by decide +kernel
theorem dX3_pattern_47 : decode cX3_pattern 47 = .ok (.invokespecial 115, 3) := by decide +kernel
theorem dX3_pattern_50 : decode cX3_pattern 50 = .ok (.athrow, 1) := by decide +kernel
theorem dX3_pattern_51 : decode cX3_pattern 51 = .ok (.iload_n 3, 1) := by decide +kernel
theorem dX3_pattern_52 : decode cX3_pattern 52 = .ok (.lookupswitch 54 #[(0, 28), (1, 41)], 28) := by decide +kernel
theorem dX3_pattern_80 : decode cX3_pattern 80 = .ok (.aload 4, 2) := by decide +kernel
theorem dX3_pattern_82 : decode cX3_pattern 82 = .ok (.getfield 116, 3) := by decide +kernel
theorem dX3_pattern_85 : decode cX3_pattern 85 = .ok (.iload_n 2, 1) := by decide +kernel
theorem dX3_pattern_86 : decode cX3_pattern 86 = .ok (.iaload, 1) := by decide +kernel
theorem dX3_pattern_87 : decode cX3_pattern 87 = .ok (.aload_n 0, 1) := by decide +kernel
theorem dX3_pattern_88 : decode cX3_pattern 88 = .ok (.getfield 53, 3) := by decide +kernel
theorem dX3_pattern_91 : decode cX3_pattern 91 = .ok (.irem, 1) := by decide +kernel
theorem dX3_pattern_92 : decode cX3_pattern 92 = .ok (.ireturn, 1) := by decide +kernel
theorem dX3_pattern_93 : decode cX3_pattern 93 = .ok (.aload 4, 2) := by decide +kernel
theorem dX3_pattern_95 : decode cX3_pattern 95 = .ok (.getfield 116, 3) := by decide +kernel
theorem dX3_pattern_98 : decode cX3_pattern 98 = .ok (.iload_n 2, 1) := by decide +kernel
theorem dX3_pattern_99 : decode cX3_pattern 99 = .ok (.iaload, 1) := by decide +kernel
theorem dX3_pattern_100 : decode cX3_pattern 100 = .ok (.aload_n 0, 1) := by decide +kernel
theorem dX3_pattern_101 : decode cX3_pattern 101 = .ok (.getfield 53, 3) := by decide +kernel
theorem dX3_pattern_104 : decode cX3_pattern 104 = .ok (.idiv, 1) := by decide +kernel
theorem dX3_pattern_105 : decode cX3_pattern 105 = .ok (.ireturn, 1) := by decide +kernel
theorem dX3_pattern_106 : decode cX3_pattern 106 = .ok (.aload 4, 2) := by decide +kernel
theorem dX3_pattern_108 : decode cX3_pattern 108 = .ok (.getfield 119, 3) := by decide +kernel
theorem dX3_pattern_111 : decode cX3_pattern 111 = .ok (.iload_n 2, 1) := by decide +kernel
theorem dX3_pattern_112 : decode cX3_pattern 112 = .ok (.iaload, 1) := by decide +kernel
theorem dX3_pattern_113 : decode cX3_pattern 113 = .ok (.ireturn, 1) := by decide +kernel
set_option maxRecDepth 20000 in
theorem ggX3_exact_X3_kindNumbered : GoodIn wsX3_exact wsX3_kindNumbered := goodIn_ca (goodIn_r _ [6, 7, 8, 9, 10, 11, 5, 12, 24, 25, 26, 27, 28, 29, 30, 31, 32, 33, 34, 35] (by decide +kernel) (by decide +kernel)) (goodIn_sub (fun _ h => List.mem_cons_of_mem _ (List.mem_append_right _ h)) (by decide +kernel))
set_option maxRecDepth 20000 in
theorem gX3_exact_X3_kindNumbered : GoodIn wsX3_exact (wsV RX3 87 RX3 yX3_kindNumbered wsX3_kindNumbered) := goodIn_app (goodIn_of _ (by decide +kernel)) ggX3_exact_X3_kindNumbered
theorem dX3_exact_0 : decode cX3_exact 0 = .ok (.aload_n 0, 1) := by decide +kernel
theorem dX3_exact_1 : decode cX3_exact 1 = .ok (.iload_n 1, 1) := by decide +kernel
theorem dX3_exact_2 : decode cX3_exact 2 = .ok (.invokevirtual 87, 3) := by decide +kernel
theorem dX3_exact_5 : decode cX3_exact 5 = .ok (.getfield 122, 3) := by decide +kernel
theorem dX3_exact_8 : decode cX3_exact 8 = .ok (.ireturn, 1) := by decide +kernel
set_option maxRecDepth 20000 in
theorem ggX3_bound_X3_kindNumbered : GoodIn wsX3_bound wsX3_kindNumbered := goodIn_ca (goodIn_r _ [8, 9, 10, 11, 12, 13, 7, 14, 15, 16, 17, 18, 19, 20, 21, 22, 23, 24, 25, 26] (by decide +kernel) (by decide +kernel)) (goodIn_sub (fun _ h => List.mem_cons_of_mem _ (List.mem_append_right _ h)) (by decide +kernel))
set_option maxRecDepth 20000 in
theorem gX3_bound_X3_kindNumbered : GoodIn wsX3_bound (wsV RX3 87 RX3 yX3_kindNumbered wsX3_kindNumbered) := goodIn_app (goodIn_of _ (by decide +kernel)) ggX3_bound_X3_kindNumbered
theorem dX3_bound_0 : decode cX3_bound 0 = .ok (.aload_n 0, 1) := by decide +kernel
theorem dX3_bound_1 : decode cX3_bound 1 = .ok (.getfield 53, 3) := by decide +kernel
theorem dX3_bound_4 : decode cX3_bound 4 = .ok (.aload_n 0, 1) := by decide +kernel
theorem dX3_bound_5 : decode cX3_bound 5 = .ok (.getfield 56, 3) := by decide +kernel
theorem dX3_bound_8 : decode cX3_bound 8 = .ok (.imul, 1) := by decide +kernel
theorem dX3_bound_9 : decode cX3_bound 9 = .ok (.aload_n 0, 1) := by decide +kernel
theorem dX3_bound_10 : decode cX3_bound 10 = .ok (.iload_n 1, 1) := by decide +kernel
theorem dX3_bound_11 : decode cX3_bound 11 = .ok (.invokevirtual 87, 3) := by decide +kernel
theorem dX3_bound_14 : decode cX3_bound 14 = .ok (.getfield 126, 3) := by decide +kernel
theorem dX3_bound_17 : decode cX3_bound 17 = .ok (.idiv, 1) := by decide +kernel
theorem dX3_bound_18 : decode cX3_bound 18 = .ok (.ireturn, 1) := by decide +kernel
set_option maxRecDepth 20000 in
theorem ggX3_rules_X3_isOutside : GoodIn wsX3_rules wsX3_isOutside := goodIn_r _ [9] (by decide +kernel) (by decide +kernel)
set_option maxRecDepth 20000 in
theorem gX3_rules_X3_isOutside : GoodIn wsX3_rules (va_wsS RX3 68 yX3_isOutside wsX3_isOutside) := goodIn_app (goodIn_of _ (by decide +kernel)) ggX3_rules_X3_isOutside
theorem dX3_rules_0 : decode cX3_rules 0 = .ok (.iload_n 1, 1) := by decide +kernel
theorem dX3_rules_1 : decode cX3_rules 1 = .ok (.iconst 0, 1) := by decide +kernel
theorem dX3_rules_2 : decode cX3_rules 2 = .ok (.bipush 100, 2) := by decide +kernel
theorem dX3_rules_4 : decode cX3_rules 4 = .ok (.invokestatic 68, 3) := by decide +kernel
theorem dX3_rules_7 : decode cX3_rules 7 = .ok (.ifCond .ne 24, 3) := by decide +kernel
theorem dX3_rules_10 : decode cX3_rules 10 = .ok (.iload_n 2, 1) := by decide +kernel
theorem dX3_rules_11 : decode cX3_rules 11 = .ok (.iconst 1, 1) := by decide +kernel
theorem dX3_rules_12 : decode cX3_rules 12 = .ok (.bipush 100, 2) := by decide +kernel
theorem dX3_rules_14 : decode cX3_rules 14 = .ok (.invokestatic 68, 3) := by decide +kernel
theorem dX3_rules_17 : decode cX3_rules 17 = .ok (.ifCond .ne 14, 3) := by decide +kernel
theorem dX3_rules_20 : decode cX3_rules 20 = .ok (.iload_n 3, 1) := by decide +kernel
theorem dX3_rules_21 : decode cX3_rules 21 = .ok (.iconst 0, 1) := by decide +kernel
theorem dX3_rules_22 : decode cX3_rules 22 = .ok (.sipush 10000, 3) := by decide +kernel
theorem dX3_rules_25 : decode cX3_rules 25 = .ok (.invokestatic 68, 3) := by decide +kernel
theorem dX3_rules_28 : decode cX3_rules 28 = .ok (.ifCond .eq 13, 3) := by decide +kernel
theorem dX3_rules_31 : decode cX3_rules 31 = .ok (.new 72, 3) := by decide +kernel
theorem dX3_rules_34 : decode cX3_rules 34 = .ok (.dup, 1) := by decide +kernel
theorem dX3_rules_35 : decode cX3_rules 35 = .ok (.ldc 129, 2) := by decide +kernel
theorem dX3_rules_37 : decode cX3_rules 37 = .ok (.invokespecial 76, 3) := by decide +kernel
theorem dX3_rules_40 : decode cX3_rules 40 = .ok (.athrow, 1) := by decide +kernel
theorem dX3_rules_41 : decode cX3_rules 41 = .ok (.aload_n 0, 1) := by decide +kernel
theorem dX3_rules_42 : decode cX3_rules 42 = .ok (.iload_n 1, 1) := by decide +kernel
theorem dX3_rules_43 : decode cX3_rules 43 = .ok (.putfield 35, 3) := by decide +kernel
theorem dX3_rules_46 : decode cX3_rules 46 = .ok (.aload_n 0, 1) := by decide +kernel
theorem dX3_rules_47 : decode cX3_rules 47 = .ok (.iload_n 2, 1) := by decide +kernel
theorem dX3_rules_48 : decode cX3_rules 48 = .ok (.putfield 38, 3) := by decide +kernel
theorem dX3_rules_51 : decode cX3_rules 51 = .ok (.aload_n 0, 1) := by decide +kernel
theorem dX3_rules_52 : decode cX3_rules 52 = .ok (.iload_n 3, 1) := by decide +kernel
theorem dX3_rules_53 : decode cX3_rules 53 = .ok (.putfield 41, 3) := by decide +kernel
theorem dX3_rules_56 : decode cX3_rules 56 = .ok (.return_, 1) := by decide +kernel
set_option maxRecDepth 20000 in
theorem ggX3_pallet_X1_init : GoodIn wsX3_pallet wsX1_init := goodIn_r _ [9, 10, 11, 12, 13, 14, 15, 16, 17, 18, 19, 20, 21, 22, 23, 24, 37, 38, 39, 40, 41, 42, 43, 44, 45, 46] (by decide +kernel) (by decide +kernel)
set_option maxRecDepth 20000 in
theorem gX3_pallet_X1_init_n133 : GoodIn wsX3_pallet (wsX1_init) := ggX3_pallet_X1_init
theorem dX3_pallet_0 : decode cX3_pallet 0 = .ok (.aload_n 0, 1) := by decide +kernel
theorem dX3_pallet_1 : decode cX3_pallet 1 = .ok (.getfield 29, 3) := by decide +kernel
theorem dX3_pallet_4 : decode cX3_pallet 4 = .ok (.aload_n 0, 1) := by decide +kernel
theorem dX3_pallet_5 : decode cX3_pallet 5 = .ok (.getfield 17, 3) := by decide +kernel
theorem dX3_pallet_8 : decode cX3_pallet 8 = .ok (.arraylength, 1) := by decide +kernel
theorem dX3_pallet_9 : decode cX3_pallet 9 = .ok (.if_icmp .lt 13, 3) := by decide +kernel
theorem dX3_pallet_12 : decode cX3_pallet 12 = .ok (.new 79, 3) := by decide +kernel
theorem dX3_pallet_15 : decode cX3_pallet 15 = .ok (.dup, 1) := by decide +kernel
theorem dX3_pallet_16 : decode cX3_pallet 16 = .ok (.ldc 131, 2) := by decide +kernel
theorem dX3_pallet_18 : decode cX3_pallet 18 = .ok (.invokespecial 83, 3) := by decide +kernel
theorem dX3_pallet_21 : decode cX3_pallet 21 = .ok (.athrow, 1) := by decide +kernel
theorem dX3_pallet_22 : decode cX3_pallet 22 = .ok (.aload_n 0, 1) := by decide +kernel
theorem dX3_pallet_23 : decode cX3_pallet 23 = .ok (.getfield 17, 3) := by decide +kernel
theorem dX3_pallet_26 : decode cX3_pallet 26 = .ok (.aload_n 0, 1) := by decide +kernel
theorem dX3_pallet_27 : decode cX3_pallet 27 = .ok (.getfield 29, 3) := by decide +kernel
theorem dX3_pallet_30 : decode cX3_pallet 30 = .ok (.new 15, 3) := by decide +kernel
theorem dX3_pallet_33 : decode cX3_pallet 33 = .ok (.dup, 1) := by decide +kernel
theorem dX3_pallet_34 : decode cX3_pallet 34 = .ok (.invokespecial 133, 3) := by decide +kernel
theorem dX3_pallet_37 : decode cX3_pallet 37 = .ok (.aastore, 1) := by decide +kernel
theorem dX3_pallet_38 : decode cX3_pallet 38 = .ok (.aload_n 0, 1) := by decide +kernel
theorem dX3_pallet_39 : decode cX3_pallet 39 = .ok (.dup, 1) := by decide +kernel
theorem dX3_pallet_40 : decode cX3_pallet 40 = .ok (.getfield 29, 3) := by decide +kernel
theorem dX3_pallet_43 : decode cX3_pallet 43 = .ok (.iconst 1, 1) := by decide +kernel
theorem dX3_pallet_44 : decode cX3_pallet 44 = .ok (.iadd, 1) := by decide +kernel
theorem dX3_pallet_45 : decode cX3_pallet 45 = .ok (.putfield 29, 3) := by decide +kernel
theorem dX3_pallet_48 : decode cX3_pallet 48 = .ok (.aload_n 0, 1) := by decide +kernel
theorem dX3_pallet_49 : decode cX3_pallet 49 = .ok (.getfield 29, 3) := by decide +kernel
theorem dX3_pallet_52 : decode cX3_pallet 52 = .ok (.iconst 1, 1) := by decide +kernel
theorem dX3_pallet_53 : decode cX3_pallet 53 = .ok (.isub, 1) := by decide +kernel
theorem dX3_pallet_54 : decode cX3_pallet 54 = .ok (.ireturn, 1) := by decide +kernel
set_option maxRecDepth 20000 in
theorem ggX3_put_X3_palletNumbered : GoodIn wsX3_put wsX3_palletNumbered := goodIn_ca (goodIn_r _ [10, 11, 12, 13, 14, 15, 9, 16, 100, 101, 102, 103, 104, 105, 106, 107, 108, 109, 110, 111] (by decide +kernel) (by decide +kernel)) (goodIn_sub (fun _ h => List.mem_cons_of_mem _ (List.mem_append_left _ (List.mem_append_left _ (List.mem_append_right _ h)))) (by decide +kernel))
set_option maxRecDepth 20000 in
theorem gX3_put_X3_palletNumbered : GoodIn wsX3_put (wsV RX3 134 RX3 yX3_palletNumbered wsX3_palletNumbered) := goodIn_app (goodIn_of _ (by decide +kernel)) ggX3_put_X3_palletNumbered
set_option maxRecDepth 20000 in
theorem ggX3_put_X3_kindNumbered : GoodIn wsX3_put wsX3_kindNumbered := goodIn_ca (goodIn_r _ [20, 11, 12, 21, 14, 15, 9, 16, 100, 101, 102, 103, 104, 105, 106, 107, 108, 109, 110, 111] (by decide +kernel) (by decide +kernel)) (goodIn_sub (fun _ h => List.mem_cons_of_mem _ (List.mem_append_left _ (List.mem_append_left _ (List.mem_append_right _ h)))) (by decide +kernel))
set_option maxRecDepth 20000 in
theorem gX3_put_X3_kindNumbered : GoodIn wsX3_put (wsV RX3 87 RX3 yX3_kindNumbered wsX3_kindNumbered) := goodIn_app (goodIn_of _ (by decide +kernel)) ggX3_put_X3_kindNumbered
set_option maxRecDepth 20000 in
theorem ggX3_put_X3_isOutside : GoodIn wsX3_put wsX3_isOutside := goodIn_r _ [16] (by decide +kernel) (by decide +kernel)
set_option maxRecDepth 20000 in
theorem gX3_put_X3_isOutside : GoodIn wsX3_put (va_wsS RX3 68 yX3_isOutside wsX3_isOutside) := goodIn_app (goodIn_of _ (by decide +kernel)) ggX3_put_X3_isOutside
set_option maxRecDepth 20000 in
theorem ggX3_put_X3_refuseOnTruck : GoodIn wsX3_put wsX3_refuseOnTruck := goodIn_ca (goodIn_r _ [24, 25, 26, 27, 90, 91, 92, 93, 94, 95, 96, 97, 98, 99] (by decide +kernel) (by decide +kernel)) (goodIn_sub (fun _ h => List.mem_cons_of_mem _ (List.mem_append_left _ (List.mem_append_right _ h))) (by decide +kernel))
set_option maxRecDepth 20000 in
theorem gX3_put_X3_refuseOnTruck : GoodIn wsX3_put (va_wsS RX3 140 yX3_refuseOnTruck wsX3_refuseOnTruck) := goodIn_app (goodIn_of _ (by decide +kernel)) ggX3_put_X3_refuseOnTruck
set_option maxRecDepth 20000 in
theorem ggX3_put_X3_whyNot : GoodIn wsX3_put wsX3_whyNot := goodIn_ca (goodIn_r _ [31, 32, 5, 33, 34, 35, 36, 37, 38, 39, 40, 41, 42, 43, 44, 45, 46, 47, 48, 15, 9, 16, 49, 50, 51, 52, 53, 54, 55, 56, 57, 58, 59, 60, 61, 62, 63, 64, 65, 66, 67, 68, 69, 70, 71, 112, 113, 114, 115, 116, 117, 118, 119, 120, 121, 122, 90, 91, 92, 93, 94, 95, 96, 97, 98, 99, 100, 101, 102, 103, 104, 105, 106, 107, 108, 109, 110, 111] (by decide +kernel) (by decide +kernel)) (goodIn_sub (fun _ h => List.mem_cons_of_mem _ (List.mem_append_right _ h)) (by decide +kernel))
set_option maxRecDepth 20000 in
theorem gX3_put_X3_whyNot : GoodIn wsX3_put (wsV RX3 149 RX3 yX3_whyNot wsX3_whyNot) := goodIn_app (goodIn_of _ (by decide +kernel)) ggX3_put_X3_whyNot
set_option maxRecDepth 20000 in
theorem ggX3_put_X1_lay : GoodIn wsX3_put wsX1_lay := goodIn_ca (goodIn_r _ [75, 63, 76, 77, 78, 79, 80, 81, 64, 82, 83, 84, 85, 86, 87, 44, 88, 89, 42, 43, 45, 46, 47, 48, 15, 9, 16, 49, 50, 51, 52, 53, 54, 90, 91, 92, 93, 94, 95, 96, 97, 98, 99, 112, 113, 114, 115, 116, 117, 118, 119, 120, 121, 122] (by decide +kernel) (by decide +kernel)) (goodIn_sub (fun _ h => List.mem_cons_of_mem _ (List.mem_append_right _ h)) (by decide +kernel))
set_option maxRecDepth 20000 in
theorem gX3_put_X1_lay : GoodIn wsX3_put (wsV RX3 153 RX1 yX1_lay wsX1_lay) := goodIn_app (goodIn_of _ (by decide +kernel)) ggX3_put_X1_lay
theorem dX3_put_0 : decode cX3_put 0 = .ok (.aload_n 0, 1) := by decide +kernel
theorem dX3_put_1 : decode cX3_put 1 = .ok (.iload_n 1, 1) := by decide +kernel
theorem dX3_put_2 : decode cX3_put 2 = .ok (.invokevirtual 134, 3) := by decide +kernel
theorem dX3_put_5 : decode cX3_put 5 = .ok (.astore 4, 2) := by decide +kernel
theorem dX3_put_7 : decode cX3_put 7 = .ok (.aload_n 0, 1) := by decide +kernel
theorem dX3_put_8 : decode cX3_put 8 = .ok (.iload_n 2, 1) := by decide +kernel
theorem dX3_put_9 : decode cX3_put 9 = .ok (.invokevirtual 87, 3) := by decide +kernel
theorem dX3_put_12 : decode cX3_put 12 = .ok (.astore 5, 2) := by decide +kernel
theorem dX3_put_14 : decode cX3_put 14 = .ok (.iload_n 3, 1) := by decide +kernel
theorem dX3_put_15 : decode cX3_put 15 = .ok (.iconst 1, 1) := by decide +kernel
theorem dX3_put_16 : decode cX3_put 16 = .ok (.bipush 100, 2) := by decide +kernel
theorem dX3_put_18 : decode cX3_put 18 = .ok (.invokestatic 68, 3) := by decide +kernel
theorem dX3_put_21 : decode cX3_put 21 = .ok (.ifCond .eq 13, 3) := by decide +kernel
theorem dX3_put_24 : decode cX3_put 24 = .ok (.new 72, 3) := by decide +kernel
theorem dX3_put_27 : decode cX3_put 27 = .ok (.dup, 1) := by decide +kernel
theorem dX3_put_28 : decode cX3_put 28 = .ok (.ldc 138, 2) := by decide +kernel
theorem dX3_put_30 : decode cX3_put 30 = .ok (.invokespecial 76, 3) := by decide +kernel
theorem dX3_put_33 : decode cX3_put 33 = .ok (.athrow, 1) := by decide +kernel
theorem dX3_put_34 : decode cX3_put 34 = .ok (.aload 4, 2) := by decide +kernel
theorem dX3_put_36 : decode cX3_put 36 = .ok (.invokestatic 140, 3) := by decide +kernel
theorem dX3_put_39 : decode cX3_put 39 = .ok (.aload 4, 2) := by decide +kernel
theorem dX3_put_41 : decode cX3_put 41 = .ok (.getfield 144, 3) := by decide +kernel
theorem dX3_put_44 : decode cX3_put 44 = .ok (.bipush 10, 2) := by decide +kernel
theorem dX3_put_46 : decode cX3_put 46 = .ok (.if_icmp .lt 13, 3) := by decide +kernel
theorem dX3_put_49 : decode cX3_put 49 = .ok (.new 79, 3) := by decide +kernel
theorem dX3_put_52 : decode cX3_put 52 = .ok (.dup, 1) := by decide +kernel
theorem dX3_put_53 : decode cX3_put 53 = .ok (.ldc 147, 2) := by decide +kernel
theorem dX3_put_55 : decode cX3_put 55 = .ok (.invokespecial 83, 3) := by decide +kernel
theorem dX3_put_58 : decode cX3_put 58 = .ok (.athrow, 1) := by decide +kernel
theorem dX3_put_59 : decode cX3_put 59 = .ok (.aload_n 0, 1) := by decide +kernel
theorem dX3_put_60 : decode cX3_put 60 = .ok (.aload 4, 2) := by decide +kernel
theorem dX3_put_62 : decode cX3_put 62 = .ok (.aload 5, 2) := by decide +kernel
theorem dX3_put_64 : decode cX3_put 64 = .ok (.iload_n 3, 1) := by decide +kernel
theorem dX3_put_65 : decode cX3_put 65 = .ok (.invokevirtual 149, 3) := by decide +kernel
theorem dX3_put_68 : decode cX3_put 68 = .ok (.istore 6, 2) := by decide +kernel
theorem dX3_put_70 : decode cX3_put 70 = .ok (.iload 6, 2) := by decide +kernel
theorem dX3_put_72 : decode cX3_put 72 = .ok (.ifCond .ge 6, 3) := by decide +kernel
theorem dX3_put_75 : decode cX3_put 75 = .ok (.iload 6, 2) := by decide +kernel
theorem dX3_put_77 : decode cX3_put 77 = .ok (.ireturn, 1) := by decide +kernel
theorem dX3_put_78 : decode cX3_put 78 = .ok (.aload 4, 2) := by decide +kernel
theorem dX3_put_80 : decode cX3_put 80 = .ok (.iload_n 2, 1) := by decide +kernel
theorem dX3_put_81 : decode cX3_put 81 = .ok (.aload 5, 2) := by decide +kernel
theorem dX3_put_83 : decode cX3_put 83 = .ok (.iload_n 3, 1) := by decide +kernel
theorem dX3_put_84 : decode cX3_put 84 = .ok (.invokevirtual 153, 3) := by decide +kernel
theorem dX3_put_87 : decode cX3_put 87 = .ok (.aload 4, 2) := by decide +kernel
theorem dX3_put_89 : decode cX3_put 89 = .ok (.getfield 144, 3) := by decide +kernel
theorem dX3_put_92 : decode cX3_put 92 = .ok (.ireturn, 1) := by decide +kernel
set_option maxRecDepth 20000 in
theorem ggX3_fill_X3_palletNumbered : GoodIn wsX3_fill wsX3_palletNumbered := goodIn_ca (goodIn_r _ [13, 14, 15, 16, 17, 18, 12, 19, 113, 114, 115, 116, 117, 118, 119, 120, 121, 122, 123, 124] (by decide +kernel) (by decide +kernel)) (goodIn_sub (fun _ h => List.mem_cons_of_mem _ (List.mem_append_left _ (List.mem_append_left _ (List.mem_append_right _ h)))) (by decide +kernel))
set_option maxRecDepth 20000 in
theorem gX3_fill_X3_palletNumbered : GoodIn wsX3_fill (wsV RX3 134 RX3 yX3_palletNumbered wsX3_palletNumbered) := goodIn_app (goodIn_of _ (by decide +kernel)) ggX3_fill_X3_palletNumbered
set_option maxRecDepth 20000 in
theorem ggX3_fill_X3_kindNumbered : GoodIn wsX3_fill wsX3_kindNumbered := goodIn_ca (goodIn_r _ [23, 14, 15, 24, 17, 18, 12, 19, 113, 114, 115, 116, 117, 118, 119, 120, 121, 122, 123, 124] (by decide +kernel) (by decide +kernel)) (goodIn_sub (fun _ h => List.mem_cons_of_mem _ (List.mem_append_left _ (List.mem_append_left _ (List.mem_append_right _ h)))) (by decide +kernel))
set_option maxRecDepth 20000 in
theorem gX3_fill_X3_kindNumbered : GoodIn wsX3_fill (wsV RX3 87 RX3 yX3_kindNumbered wsX3_kindNumbered) := goodIn_app (goodIn_of _ (by decide +kernel)) ggX3_fill_X3_kindNumbered
set_option maxRecDepth 20000 in
theorem ggX3_fill_X3_isOutside : GoodIn wsX3_fill wsX3_isOutside := goodIn_r _ [19] (by decide +kernel) (by decide +kernel)
set_option maxRecDepth 20000 in
theorem gX3_fill_X3_isOutside : GoodIn wsX3_fill (va_wsS RX3 68 yX3_isOutside wsX3_isOutside) := goodIn_app (goodIn_of _ (by decide +kernel)) ggX3_fill_X3_isOutside
set_option maxRecDepth 20000 in
theorem ggX3_fill_X3_refuseOnTruck : GoodIn wsX3_fill wsX3_refuseOnTruck := goodIn_ca (goodIn_r _ [27, 28, 29, 30, 103, 104, 105, 106, 107, 108, 109, 110, 111, 112] (by decide +kernel) (by decide +kernel)) (goodIn_sub (fun _ h => List.mem_cons_of_mem _ (List.mem_append_left _ (List.mem_append_right _ h))) (by decide +kernel))
set_option maxRecDepth 20000 in
theorem gX3_fill_X3_refuseOnTruck : GoodIn wsX3_fill (va_wsS RX3 140 yX3_refuseOnTruck wsX3_refuseOnTruck) := goodIn_app (goodIn_of _ (by decide +kernel)) ggX3_fill_X3_refuseOnTruck
set_option maxRecDepth 20000 in
theorem ggX3_fill_X3_whyNot : GoodIn wsX3_fill wsX3_whyNot := goodIn_ca (goodIn_r _ [34, 3, 4, 35, 36, 37, 38, 39, 40, 41, 42, 43, 44, 45, 46, 47, 48, 49, 50, 18, 12, 19, 51, 52, 53, 54, 55, 56, 57, 58, 59, 60, 61, 62, 63, 64, 65, 66, 67, 68, 69, 70, 71, 72, 73, 92, 93, 94, 95, 96, 97, 98, 99, 100, 101, 102, 103, 104, 105, 106, 107, 108, 109, 110, 111, 112, 113, 114, 115, 116, 117, 118, 119, 120, 121, 122, 123, 124] (by decide +kernel) (by decide +kernel)) (goodIn_sub (fun _ h => List.mem_cons_of_mem _ (List.mem_append_right _ h)) (by decide +kernel))
set_option maxRecDepth 20000 in
theorem gX3_fill_X3_whyNot : GoodIn wsX3_fill (wsV RX3 149 RX3 yX3_whyNot wsX3_whyNot) := goodIn_app (goodIn_of _ (by decide +kernel)) ggX3_fill_X3_whyNot
set_option maxRecDepth 20000 in
theorem ggX3_fill_X1_lay : GoodIn wsX3_fill wsX1_lay := goodIn_ca (goodIn_r _ [77, 65, 78, 79, 80, 81, 82, 83, 66, 84, 85, 86, 87, 88, 89, 46, 90, 91, 44, 45, 47, 48, 49, 50, 18, 12, 19, 51, 52, 53, 54, 55, 56, 103, 104, 105, 106, 107, 108, 109, 110, 111, 112, 92, 93, 94, 95, 96, 97, 98, 99, 100, 101, 102] (by decide +kernel) (by decide +kernel)) (goodIn_sub (fun _ h => List.mem_cons_of_mem _ (List.mem_append_right _ h)) (by decide +kernel))
set_option maxRecDepth 20000 in
theorem gX3_fill_X1_lay : GoodIn wsX3_fill (wsV RX3 153 RX1 yX1_lay wsX1_lay) := goodIn_app (goodIn_of _ (by decide +kernel)) ggX3_fill_X1_lay
theorem dX3_fill_0 : decode cX3_fill 0 = .ok (.aload_n 0, 1) := by decide +kernel
theorem dX3_fill_1 : decode cX3_fill 1 = .ok (.iload_n 1, 1) := by decide +kernel
theorem dX3_fill_2 : decode cX3_fill 2 = .ok (.invokevirtual 134, 3) := by decide +kernel
theorem dX3_fill_5 : decode cX3_fill 5 = .ok (.astore 4, 2) := by decide +kernel
theorem dX3_fill_7 : decode cX3_fill 7 = .ok (.aload_n 0, 1) := by decide +kernel
theorem dX3_fill_8 : decode cX3_fill 8 = .ok (.iload_n 2, 1) := by decide +kernel
theorem dX3_fill_9 : decode cX3_fill 9 = .ok (.invokevirtual 87, 3) := by decide +kernel
theorem dX3_fill_12 : decode cX3_fill 12 = .ok (.astore 5, 2) := by decide +kernel
theorem dX3_fill_14 : decode cX3_fill 14 = .ok (.iload_n 3, 1) := by decide +kernel
theorem dX3_fill_15 : decode cX3_fill 15 = .ok (.iconst 1, 1) := by decide +kernel
theorem dX3_fill_16 : decode cX3_fill 16 = .ok (.sipush 600, 3) := by decide +kernel
theorem dX3_fill_19 : decode cX3_fill 19 = .ok (.invokestatic 68, 3) := by decide +kernel
theorem dX3_fill_22 : decode cX3_fill 22 = .ok (.ifCond .eq 13, 3) := by decide +kernel
theorem dX3_fill_25 : decode cX3_fill 25 = .ok (.new 72, 3) := by decide +kernel
theorem dX3_fill_28 : decode cX3_fill 28 = .ok (.dup, 1) := by decide +kernel
theorem dX3_fill_29 : decode cX3_fill 29 = .ok (.ldc 138, 2) := by decide +kernel
theorem dX3_fill_31 : decode cX3_fill 31 = .ok (.invokespecial 76, 3) := by decide +kernel
theorem dX3_fill_34 : decode cX3_fill 34 = .ok (.athrow, 1) := by decide +kernel
theorem dX3_fill_35 : decode cX3_fill 35 = .ok (.aload 4, 2) := by decide +kernel
theorem dX3_fill_37 : decode cX3_fill 37 = .ok (.invokestatic 140, 3) := by decide +kernel
theorem dX3_fill_40 : decode cX3_fill 40 = .ok (.aload 5, 2) := by decide +kernel
theorem dX3_fill_42 : decode cX3_fill 42 = .ok (.getfield 106, 3) := by decide +kernel
theorem dX3_fill_45 : decode cX3_fill 45 = .ok (.ifCond .ne 5, 3) := by decide +kernel
theorem dX3_fill_48 : decode cX3_fill 48 = .ok (.iconst 0, 1) := by decide +kernel
theorem dX3_fill_49 : decode cX3_fill 49 = .ok (.ireturn, 1) := by decide +kernel
theorem dX3_fill_50 : decode cX3_fill 50 = .ok (.iconst 0, 1) := by decide +kernel
theorem dX3_fill_51 : decode cX3_fill 51 = .ok (.istore 6, 2) := by decide +kernel
theorem dX3_fill_53 : decode cX3_fill 53 = .ok (.aload 4, 2) := by decide +kernel
theorem dX3_fill_55 : decode cX3_fill 55 = .ok (.getfield 144, 3) := by decide +kernel
theorem dX3_fill_58 : decode cX3_fill 58 = .ok (.istore 7, 2) := by decide +kernel
theorem dX3_fill_60 : decode cX3_fill 60 = .ok (.iload 7, 2) := by decide +kernel
theorem dX3_fill_62 : decode cX3_fill 62 = .ok (.bipush 10, 2) := by decide +kernel
theorem dX3_fill_64 : decode cX3_fill 64 = .ok (.if_icmp .ge 62, 3) := by decide +kernel
theorem dX3_fill_67 : decode cX3_fill 67 = .ok (.iload 6, 2) := by decide +kernel
theorem dX3_fill_69 : decode cX3_fill 69 = .ok (.iload_n 3, 1) := by decide +kernel
theorem dX3_fill_70 : decode cX3_fill 70 = .ok (.if_icmp .ge 56, 3) := by decide +kernel
theorem dX3_fill_73 : decode cX3_fill 73 = .ok (.aload 5, 2) := by decide +kernel
theorem dX3_fill_75 : decode cX3_fill 75 = .ok (.getfield 106, 3) := by decide +kernel
theorem dX3_fill_78 : decode cX3_fill 78 = .ok (.iload_n 3, 1) := by decide +kernel
theorem dX3_fill_79 : decode cX3_fill 79 = .ok (.iload 6, 2) := by decide +kernel
theorem dX3_fill_81 : decode cX3_fill 81 = .ok (.isub, 1) := by decide +kernel
theorem dX3_fill_82 : decode cX3_fill 82 = .ok (.invokestatic 44, 3) := by decide +kernel
theorem dX3_fill_85 : decode cX3_fill 85 = .ok (.istore 8, 2) := by decide +kernel
theorem dX3_fill_87 : decode cX3_fill 87 = .ok (.aload_n 0, 1) := by decide +kernel
theorem dX3_fill_88 : decode cX3_fill 88 = .ok (.aload 4, 2) := by decide +kernel
theorem dX3_fill_90 : decode cX3_fill 90 = .ok (.aload 5, 2) := by decide +kernel
theorem dX3_fill_92 : decode cX3_fill 92 = .ok (.iload 8, 2) := by decide +kernel
theorem dX3_fill_94 : decode cX3_fill 94 = .ok (.invokevirtual 149, 3) := by decide +kernel
theorem dX3_fill_97 : decode cX3_fill 97 = .ok (.ifCond .ge 6, 3) := by decide +kernel
theorem dX3_fill_100 : decode cX3_fill 100 = .ok (.goto 26, 3) := by decide +kernel
theorem dX3_fill_103 : decode cX3_fill 103 = .ok (.aload 4, 2) := by decide +kernel
theorem dX3_fill_105 : decode cX3_fill 105 = .ok (.iload_n 2, 1) := by decide +kernel
theorem dX3_fill_106 : decode cX3_fill 106 = .ok (.aload 5, 2) := by decide +kernel
theorem dX3_fill_108 : decode cX3_fill 108 = .ok (.iload 8, 2) := by decide +kernel
theorem dX3_fill_110 : decode cX3_fill 110 = .ok (.invokevirtual 153, 3) := by decide +kernel
theorem dX3_fill_113 : decode cX3_fill 113 = .ok (.iload 6, 2) := by decide +kernel
theorem dX3_fill_115 : decode cX3_fill 115 = .ok (.iload 8, 2) := by decide +kernel
theorem dX3_fill_117 : decode cX3_fill 117 = .ok (.iadd, 1) := by decide +kernel
theorem dX3_fill_118 : decode cX3_fill 118 = .ok (.istore 6, 2) := by decide +kernel
theorem dX3_fill_120 : decode cX3_fill 120 = .ok (.iinc 7 1, 3) := by decide +kernel
theorem dX3_fill_123 : decode cX3_fill 123 = .ok (.goto (-63), 3) := by decide +kernel
theorem dX3_fill_126 : decode cX3_fill 126 = .ok (.iload 6, 2) := by decide +kernel
theorem dX3_fill_128 : decode cX3_fill 128 = .ok (.ireturn, 1) := by decide +kernel
set_option maxRecDepth 20000 in
theorem ggX3_take_X3_palletNumbered : GoodIn wsX3_take wsX3_palletNumbered := goodIn_ca (goodIn_r _ [5, 6, 7, 8, 9, 10, 4, 11, 34, 35, 36, 37, 38, 39, 40, 41, 42, 43, 44, 45] (by decide +kernel) (by decide +kernel)) (goodIn_sub (fun _ h => List.mem_cons_of_mem _ (List.mem_append_left _ (List.mem_append_left _ (List.mem_append_right _ h)))) (by decide +kernel))
set_option maxRecDepth 20000 in
theorem gX3_take_X3_palletNumbered : GoodIn wsX3_take (wsV RX3 134 RX3 yX3_palletNumbered wsX3_palletNumbered) := goodIn_app (goodIn_of _ (by decide +kernel)) ggX3_take_X3_palletNumbered
set_option maxRecDepth 20000 in
theorem ggX3_take_X3_refuseOnTruck : GoodIn wsX3_take wsX3_refuseOnTruck := goodIn_ca (goodIn_r _ [14, 15, 16, 17, 46, 47, 48, 49, 50, 51, 52, 53, 54, 55] (by decide +kernel) (by decide +kernel)) (goodIn_sub (fun _ h => List.mem_cons_of_mem _ (List.mem_append_left _ (List.mem_append_right _ h))) (by decide +kernel))
set_option maxRecDepth 20000 in
theorem gX3_take_X3_refuseOnTruck : GoodIn wsX3_take (va_wsS RX3 140 yX3_refuseOnTruck wsX3_refuseOnTruck) := goodIn_app (goodIn_of _ (by decide +kernel)) ggX3_take_X3_refuseOnTruck
set_option maxRecDepth 20000 in
theorem ggX3_take_X3_refuseEmpty : GoodIn wsX3_take wsX3_refuseEmpty := goodIn_ca (goodIn_r _ [20, 15, 16, 21, 46, 47, 48, 49, 50, 51, 52, 53, 54, 55] (by decide +kernel) (by decide +kernel)) (goodIn_sub (fun _ h => List.mem_cons_of_mem _ (List.mem_append_left _ (List.mem_append_right _ h))) (by decide +kernel))
set_option maxRecDepth 20000 in
theorem gX3_take_X3_refuseEmpty : GoodIn wsX3_take (va_wsS RX3 157 yX3_refuseEmpty wsX3_refuseEmpty) := goodIn_app (goodIn_of _ (by decide +kernel)) ggX3_take_X3_refuseEmpty
set_option maxRecDepth 20000 in
theorem ggX3_take_X1_liftTop : GoodIn wsX3_take wsX1_liftTop := goodIn_ca (goodIn_r _ [26, 27, 28, 29, 30, 31, 32, 33, 46, 47, 48, 49, 50, 51, 52, 53, 54, 55] (by decide +kernel) (by decide +kernel)) (goodIn_sub (fun _ h => List.mem_cons_of_mem _ (List.mem_append_right _ h)) (by decide +kernel))
set_option maxRecDepth 20000 in
theorem gX3_take_X1_liftTop : GoodIn wsX3_take (wsV RX3 160 RX1 yX1_liftTop wsX1_liftTop) := goodIn_app (goodIn_of _ (by decide +kernel)) ggX3_take_X1_liftTop
theorem dX3_take_0 : decode cX3_take 0 = .ok (.aload_n 0, 1) := by decide +kernel
theorem dX3_take_1 : decode cX3_take 1 = .ok (.iload_n 1, 1) := by decide +kernel
theorem dX3_take_2 : decode cX3_take 2 = .ok (.invokevirtual 134, 3) := by decide +kernel
theorem dX3_take_5 : decode cX3_take 5 = .ok (.astore_n 2, 1) := by decide +kernel
theorem dX3_take_6 : decode cX3_take 6 = .ok (.aload_n 2, 1) := by decide +kernel
theorem dX3_take_7 : decode cX3_take 7 = .ok (.invokestatic 140, 3) := by decide +kernel
theorem dX3_take_10 : decode cX3_take 10 = .ok (.aload_n 2, 1) := by decide +kernel
theorem dX3_take_11 : decode cX3_take 11 = .ok (.invokestatic 157, 3) := by decide +kernel
theorem dX3_take_14 : decode cX3_take 14 = .ok (.aload_n 2, 1) := by decide +kernel
theorem dX3_take_15 : decode cX3_take 15 = .ok (.invokevirtual 160, 3) := by decide +kernel
theorem dX3_take_18 : decode cX3_take 18 = .ok (.ireturn, 1) := by decide +kernel
set_option maxRecDepth 20000 in
theorem ggX3_support_X3_palletWithLayer : GoodIn wsX3_support wsX3_palletWithLayer := goodIn_ca (goodIn_r _ [10, 1, 2, 11, 12, 13, 14, 9, 15, 16, 17, 18, 19, 56, 57, 58, 59, 60, 61, 62, 63, 64, 65, 77, 78, 79, 80, 81, 82, 83, 84, 85, 86, 87, 88] (by decide +kernel) (by decide +kernel)) (goodIn_sub (fun _ h => List.mem_cons_of_mem _ (List.mem_append_right _ h)) (by decide +kernel))
set_option maxRecDepth 20000 in
theorem gX3_support_X3_palletWithLayer : GoodIn wsX3_support (wsV RX3 164 RX3 yX3_palletWithLayer wsX3_palletWithLayer) := goodIn_app (goodIn_of _ (by decide +kernel)) ggX3_support_X3_palletWithLayer
set_option maxRecDepth 20000 in
theorem ggX3_support_X3_kindNumbered : GoodIn wsX3_support wsX3_kindNumbered := goodIn_ca (goodIn_r _ [23, 1, 2, 24, 17, 18, 9, 19, 77, 78, 79, 80, 81, 82, 83, 84, 85, 86, 87, 88] (by decide +kernel) (by decide +kernel)) (goodIn_sub (fun _ h => List.mem_cons_of_mem _ (List.mem_append_right _ h)) (by decide +kernel))
set_option maxRecDepth 20000 in
theorem gX3_support_X3_kindNumbered : GoodIn wsX3_support (wsV RX3 87 RX3 yX3_kindNumbered wsX3_kindNumbered) := goodIn_app (goodIn_of _ (by decide +kernel)) ggX3_support_X3_kindNumbered
set_option maxRecDepth 20000 in
theorem ggX3_support_X3_isOutside : GoodIn wsX3_support wsX3_isOutside := goodIn_r _ [19] (by decide +kernel) (by decide +kernel)
set_option maxRecDepth 20000 in
theorem gX3_support_X3_isOutside : GoodIn wsX3_support (va_wsS RX3 68 yX3_isOutside wsX3_isOutside) := goodIn_app (goodIn_of _ (by decide +kernel)) ggX3_support_X3_isOutside
set_option maxRecDepth 20000 in
theorem ggX3_support_X0_cellsOfBox : GoodIn wsX3_support wsX0_cellsOfBox := goodIn_ca (goodIn_r _ [29, 30, 31, 32, 18, 9, 19, 33, 34, 35, 28, 36, 37, 38, 66, 67, 68, 69, 70, 71, 72, 73, 74, 75, 76] (by decide +kernel) (by decide +kernel)) (goodIn_sub (fun _ h => List.mem_cons_of_mem _ (List.mem_append_left _ (List.mem_append_right _ h))) (by decide +kernel))
set_option maxRecDepth 20000 in
theorem gX3_support_X0_cellsOfBox : GoodIn wsX3_support (wsV RX3 179 RX0 yX0_cellsOfBox wsX0_cellsOfBox) := goodIn_app (goodIn_of _ (by decide +kernel)) ggX3_support_X0_cellsOfBox
set_option maxRecDepth 20000 in
theorem ggX3_support_X3_supportedCells : GoodIn wsX3_support wsX3_supportedCells := goodIn_ca (goodIn_r _ [41, 42, 43, 44, 45, 46, 47, 48, 18, 9, 19, 49, 50, 51, 52, 53, 54, 55, 56, 57, 58, 59, 60, 61, 62, 63, 64, 65] (by decide +kernel) (by decide +kernel)) (goodIn_sub (fun _ h => List.mem_cons_of_mem _ (List.mem_append_left _ (List.mem_append_right _ h))) (by decide +kernel))
set_option maxRecDepth 20000 in
theorem gX3_support_X3_supportedCells : GoodIn wsX3_support (va_wsS RX3 183 yX3_supportedCells wsX3_supportedCells) := goodIn_app (goodIn_of _ (by decide +kernel)) ggX3_support_X3_supportedCells
theorem dX3_support_0 : decode cX3_support 0 = .ok (.aload_n 0, 1) := by decide +kernel
theorem dX3_support_1 : decode cX3_support 1 = .ok (.iload_n 1, 1) := by decide +kernel
theorem dX3_support_2 : decode cX3_support 2 = .ok (.iload_n 2, 1) := by decide +kernel
theorem dX3_support_3 : decode cX3_support 3 = .ok (.invokevirtual 164, 3) := by decide +kernel
theorem dX3_support_6 : decode cX3_support 6 = .ok (.astore 4, 2) := by decide +kernel
theorem dX3_support_8 : decode cX3_support 8 = .ok (.aload_n 0, 1) := by decide +kernel
theorem dX3_support_9 : decode cX3_support 9 = .ok (.aload 4, 2) := by decide +kernel
theorem dX3_support_11 : decode cX3_support 11 = .ok (.getfield 168, 3) := by decide +kernel
theorem dX3_support_14 : decode cX3_support 14 = .ok (.iload_n 2, 1) := by decide +kernel
theorem dX3_support_15 : decode cX3_support 15 = .ok (.iaload, 1) := by decide +kernel
theorem dX3_support_16 : decode cX3_support 16 = .ok (.invokevirtual 87, 3) := by decide +kernel
theorem dX3_support_19 : decode cX3_support 19 = .ok (.astore 5, 2) := by decide +kernel
theorem dX3_support_21 : decode cX3_support 21 = .ok (.iload_n 3, 1) := by decide +kernel
theorem dX3_support_22 : decode cX3_support 22 = .ok (.iconst 0, 1) := by decide +kernel
theorem dX3_support_23 : decode cX3_support 23 = .ok (.aload 4, 2) := by decide +kernel
theorem dX3_support_25 : decode cX3_support 25 = .ok (.getfield 171, 3) := by decide +kernel
theorem dX3_support_28 : decode cX3_support 28 = .ok (.iload_n 2, 1) := by decide +kernel
theorem dX3_support_29 : decode cX3_support 29 = .ok (.iaload, 1) := by decide +kernel
theorem dX3_support_30 : decode cX3_support 30 = .ok (.iconst 1, 1) := by decide +kernel
theorem dX3_support_31 : decode cX3_support 31 = .ok (.isub, 1) := by decide +kernel
theorem dX3_support_32 : decode cX3_support 32 = .ok (.invokestatic 68, 3) := by decide +kernel
theorem dX3_support_35 : decode cX3_support 35 = .ok (.ifCond .eq 13, 3) := by decide +kernel
theorem dX3_support_38 : decode cX3_support 38 = .ok (.new 174, 3) := by decide +kernel
theorem dX3_support_41 : decode cX3_support 41 = .ok (.dup, 1) := by decide +kernel
theorem dX3_support_42 : decode cX3_support 42 = .ok (.ldc 176, 2) := by decide +kernel
theorem dX3_support_44 : decode cX3_support 44 = .ok (.invokespecial 178, 3) := by decide +kernel
theorem dX3_support_47 : decode cX3_support 47 = .ok (.athrow, 1) := by decide +kernel
theorem dX3_support_48 : decode cX3_support 48 = .ok (.aload 4, 2) := by decide +kernel
theorem dX3_support_50 : decode cX3_support 50 = .ok (.iload_n 2, 1) := by decide +kernel
theorem dX3_support_51 : decode cX3_support 51 = .ok (.aload 5, 2) := by decide +kernel
theorem dX3_support_53 : decode cX3_support 53 = .ok (.iload_n 3, 1) := by decide +kernel
theorem dX3_support_54 : decode cX3_support 54 = .ok (.invokevirtual 179, 3) := by decide +kernel
theorem dX3_support_57 : decode cX3_support 57 = .ok (.invokestatic 183, 3) := by decide +kernel
theorem dX3_support_60 : decode cX3_support 60 = .ok (.bipush 100, 2) := by decide +kernel
theorem dX3_support_62 : decode cX3_support 62 = .ok (.imul, 1) := by decide +kernel
theorem dX3_support_63 : decode cX3_support 63 = .ok (.aload 5, 2) := by decide +kernel
theorem dX3_support_65 : decode cX3_support 65 = .ok (.getfield 126, 3) := by decide +kernel
theorem dX3_support_68 : decode cX3_support 68 = .ok (.idiv, 1) := by decide +kernel
theorem dX3_support_69 : decode cX3_support 69 = .ok (.ireturn, 1) := by decide +kernel
set_option maxRecDepth 20000 in
theorem ggX3_told_X3_palletNumbered : GoodIn wsX3_told wsX3_palletNumbered := goodIn_ca (goodIn_r _ [12, 13, 14, 15, 16, 17, 11, 18, 36, 37, 38, 39, 40, 41, 42, 43, 44, 45, 46, 47] (by decide +kernel) (by decide +kernel)) (goodIn_sub (fun _ h => List.mem_cons_of_mem _ (List.mem_append_left _ (List.mem_append_right _ h))) (by decide +kernel))
set_option maxRecDepth 20000 in
theorem gX3_told_X3_palletNumbered : GoodIn wsX3_told (wsV RX3 134 RX3 yX3_palletNumbered wsX3_palletNumbered) := goodIn_app (goodIn_of _ (by decide +kernel)) ggX3_told_X3_palletNumbered
set_option maxRecDepth 20000 in
theorem ggX3_told_X1_kindBits : GoodIn wsX3_told wsX1_kindBits := goodIn_ca (goodIn_r _ [23, 24, 25, 26, 27, 28, 29, 30, 31, 32, 33, 34, 35] (by decide +kernel) (by decide +kernel)) (goodIn_sub (fun _ h => List.mem_cons_of_mem _ (List.mem_append_right _ h)) (by decide +kernel))
set_option maxRecDepth 20000 in
theorem gX3_told_X1_kindBits : GoodIn wsX3_told (wsV RX3 197 RX1 yX1_kindBits wsX1_kindBits) := goodIn_app (goodIn_of _ (by decide +kernel)) ggX3_told_X1_kindBits
theorem dX3_told_0 : decode cX3_told 0 = .ok (.aload_n 0, 1) := by decide +kernel
theorem dX3_told_1 : decode cX3_told 1 = .ok (.iload_n 1, 1) := by decide +kernel
theorem dX3_told_2 : decode cX3_told 2 = .ok (.invokevirtual 134, 3) := by decide +kernel
theorem dX3_told_5 : decode cX3_told 5 = .ok (.astore_n 3, 1) := by decide +kernel
theorem dX3_told_6 : decode cX3_told 6 = .ok (.iload_n 2, 1) := by decide +kernel
theorem dX3_told_7 : decode cX3_told 7 = .ok (.tableswitch 67 0 5 #[37, 42, 47, 52, 57, 62], 37) := by decide +kernel
theorem dX3_told_44 : decode cX3_told 44 = .ok (.aload_n 3, 1) := by decide +kernel
theorem dX3_told_45 : decode cX3_told 45 = .ok (.getfield 187, 3) := by decide +kernel
theorem dX3_told_48 : decode cX3_told 48 = .ok (.ireturn, 1) := by decide +kernel
theorem dX3_told_49 : decode cX3_told 49 = .ok (.aload_n 3, 1) := by decide +kernel
theorem dX3_told_50 : decode cX3_told 50 = .ok (.getfield 190, 3) := by decide +kernel
theorem dX3_told_53 : decode cX3_told 53 = .ok (.ireturn, 1) := by decide +kernel
theorem dX3_told_54 : decode cX3_told 54 = .ok (.aload_n 3, 1) := by decide +kernel
theorem dX3_told_55 : decode cX3_told 55 = .ok (.getfield 144, 3) := by decide +kernel
theorem dX3_told_58 : decode cX3_told 58 = .ok (.ireturn, 1) := by decide +kernel
theorem dX3_told_59 : decode cX3_told 59 = .ok (.aload_n 3, 1) := by decide +kernel
theorem dX3_told_60 : decode cX3_told 60 = .ok (.getfield 193, 3) := by decide +kernel
theorem dX3_told_63 : decode cX3_told 63 = .ok (.ireturn, 1) := by decide +kernel
theorem dX3_told_64 : decode cX3_told 64 = .ok (.aload_n 3, 1) := by decide +kernel
theorem dX3_told_65 : decode cX3_told 65 = .ok (.getfield 194, 3) := by decide +kernel
theorem dX3_told_68 : decode cX3_told 68 = .ok (.ireturn, 1) := by decide +kernel
theorem dX3_told_69 : decode cX3_told 69 = .ok (.aload_n 3, 1) := by decide +kernel
theorem dX3_told_70 : decode cX3_told 70 = .ok (.invokevirtual 197, 3) := by decide +kernel
theorem dX3_told_73 : decode cX3_told 73 = .ok (.ireturn, 1) := by decide +kernel
theorem dX3_told_74 : decode cX3_told 74 = .ok (.new 72, 3) := by decide +kernel
theorem dX3_told_77 : decode cX3_told 77 = .ok (.dup, 1) := by decide +kernel
theorem dX3_told_78 : decode cX3_told 78 = .ok (.ldc 109, 2) := by decide +kernel
theorem dX3_told_80 : decode cX3_told 80 = .ok (.invokespecial 76, 3) := by decide +kernel
theorem dX3_told_83 : decode cX3_told 83 = .ok (.athrow, 1) := by decide +kernel
set_option maxRecDepth 20000 in
theorem ggX3_layer_X3_palletWithLayer : GoodIn wsX3_layer wsX3_palletWithLayer := goodIn_ca (goodIn_r _ [11, 12, 13, 14, 15, 16, 17, 10, 18, 19, 20, 21, 22, 28, 29, 30, 31, 32, 33, 34, 35, 36, 37, 49, 50, 51, 52, 53, 54, 55, 56, 57, 58, 59, 60] (by decide +kernel) (by decide +kernel)) (goodIn_sub (fun _ h => List.mem_cons_of_mem _ (List.mem_append_right _ h)) (by decide +kernel))
set_option maxRecDepth 20000 in
theorem gX3_layer_X3_palletWithLayer : GoodIn wsX3_layer (wsV RX3 164 RX3 yX3_palletWithLayer wsX3_palletWithLayer) := goodIn_app (goodIn_of _ (by decide +kernel)) ggX3_layer_X3_palletWithLayer
set_option maxRecDepth 20000 in
theorem ggX3_layer_X3_kindNumbered : GoodIn wsX3_layer wsX3_kindNumbered := goodIn_ca (goodIn_r _ [26, 12, 13, 27, 20, 21, 10, 22, 49, 50, 51, 52, 53, 54, 55, 56, 57, 58, 59, 60] (by decide +kernel) (by decide +kernel)) (goodIn_sub (fun _ h => List.mem_cons_of_mem _ (List.mem_append_right _ h)) (by decide +kernel))
set_option maxRecDepth 20000 in
theorem gX3_layer_X3_kindNumbered : GoodIn wsX3_layer (wsV RX3 87 RX3 yX3_kindNumbered wsX3_kindNumbered) := goodIn_app (goodIn_of _ (by decide +kernel)) ggX3_layer_X3_kindNumbered
theorem dX3_layer_0 : decode cX3_layer 0 = .ok (.aload_n 0, 1) := by decide +kernel
theorem dX3_layer_1 : decode cX3_layer 1 = .ok (.iload_n 1, 1) := by decide +kernel
theorem dX3_layer_2 : decode cX3_layer 2 = .ok (.iload_n 2, 1) := by decide +kernel
theorem dX3_layer_3 : decode cX3_layer 3 = .ok (.invokevirtual 164, 3) := by decide +kernel
theorem dX3_layer_6 : decode cX3_layer 6 = .ok (.astore 4, 2) := by decide +kernel
theorem dX3_layer_8 : decode cX3_layer 8 = .ok (.iload_n 3, 1) := by decide +kernel
theorem dX3_layer_9 : decode cX3_layer 9 = .ok (.tableswitch 85 0 3 #[31, 39, 47, 55], 31) := by decide +kernel
theorem dX3_layer_40 : decode cX3_layer 40 = .ok (.aload 4, 2) := by decide +kernel
theorem dX3_layer_42 : decode cX3_layer 42 = .ok (.getfield 168, 3) := by decide +kernel
theorem dX3_layer_45 : decode cX3_layer 45 = .ok (.iload_n 2, 1) := by decide +kernel
theorem dX3_layer_46 : decode cX3_layer 46 = .ok (.iaload, 1) := by decide +kernel
theorem dX3_layer_47 : decode cX3_layer 47 = .ok (.ireturn, 1) := by decide +kernel
theorem dX3_layer_48 : decode cX3_layer 48 = .ok (.aload 4, 2) := by decide +kernel
theorem dX3_layer_50 : decode cX3_layer 50 = .ok (.getfield 171, 3) := by decide +kernel
theorem dX3_layer_53 : decode cX3_layer 53 = .ok (.iload_n 2, 1) := by decide +kernel
theorem dX3_layer_54 : decode cX3_layer 54 = .ok (.iaload, 1) := by decide +kernel
theorem dX3_layer_55 : decode cX3_layer 55 = .ok (.ireturn, 1) := by decide +kernel
theorem dX3_layer_56 : decode cX3_layer 56 = .ok (.aload 4, 2) := by decide +kernel
theorem dX3_layer_58 : decode cX3_layer 58 = .ok (.getfield 200, 3) := by decide +kernel
theorem dX3_layer_61 : decode cX3_layer 61 = .ok (.iload_n 2, 1) := by decide +kernel
theorem dX3_layer_62 : decode cX3_layer 62 = .ok (.iaload, 1) := by decide +kernel
theorem dX3_layer_63 : decode cX3_layer 63 = .ok (.ireturn, 1) := by decide +kernel
theorem dX3_layer_64 : decode cX3_layer 64 = .ok (.aload 4, 2) := by decide +kernel
theorem dX3_layer_66 : decode cX3_layer 66 = .ok (.getfield 171, 3) := by decide +kernel
theorem dX3_layer_69 : decode cX3_layer 69 = .ok (.iload_n 2, 1) := by decide +kernel
theorem dX3_layer_70 : decode cX3_layer 70 = .ok (.iaload, 1) := by decide +kernel
theorem dX3_layer_71 : decode cX3_layer 71 = .ok (.aload_n 0, 1) := by decide +kernel
theorem dX3_layer_72 : decode cX3_layer 72 = .ok (.aload 4, 2) := by decide +kernel
theorem dX3_layer_74 : decode cX3_layer 74 = .ok (.getfield 168, 3) := by decide +kernel
theorem dX3_layer_77 : decode cX3_layer 77 = .ok (.iload_n 2, 1) := by decide +kernel
theorem dX3_layer_78 : decode cX3_layer 78 = .ok (.iaload, 1) := by decide +kernel
theorem dX3_layer_79 : decode cX3_layer 79 = .ok (.invokevirtual 87, 3) := by decide +kernel
theorem dX3_layer_82 : decode cX3_layer 82 = .ok (.getfield 106, 3) := by decide +kernel
theorem dX3_layer_85 : decode cX3_layer 85 = .ok (.if_icmp .ne 7, 3) := by decide +kernel
theorem dX3_layer_88 : decode cX3_layer 88 = .ok (.iconst 1, 1) := by decide +kernel
theorem dX3_layer_89 : decode cX3_layer 89 = .ok (.goto 4, 3) := by decide +kernel
theorem dX3_layer_92 : decode cX3_layer 92 = .ok (.iconst 0, 1) := by decide +kernel
theorem dX3_layer_93 : decode cX3_layer 93 = .ok (.ireturn, 1) := by decide +kernel
theorem dX3_layer_94 : decode cX3_layer 94 = .ok (.new 72, 3) := by decide +kernel
theorem dX3_layer_97 : decode cX3_layer 97 = .ok (.dup, 1) := by decide +kernel
theorem dX3_layer_98 : decode cX3_layer 98 = .ok (.ldc 109, 2) := by decide +kernel
theorem dX3_layer_100 : decode cX3_layer 100 = .ok (.invokespecial 76, 3) := by decide +kernel
theorem dX3_layer_103 : decode cX3_layer 103 = .ok (.athrow, 1) := by decide +kernel
set_option maxRecDepth 20000 in
theorem ggX3_truck_X3_palletNumbered : GoodIn wsX3_truck wsX3_palletNumbered := goodIn_ca (goodIn_r _ [12, 13, 14, 15, 16, 17, 11, 18, 30, 31, 32, 33, 34, 35, 36, 37, 38, 39, 40, 41] (by decide +kernel) (by decide +kernel)) (goodIn_sub (fun _ h => List.mem_cons_of_mem _ (List.mem_append_right _ h)) (by decide +kernel))
set_option maxRecDepth 20000 in
theorem gX3_truck_X3_palletNumbered : GoodIn wsX3_truck (wsV RX3 134 RX3 yX3_palletNumbered wsX3_palletNumbered) := goodIn_app (goodIn_of _ (by decide +kernel)) ggX3_truck_X3_palletNumbered
set_option maxRecDepth 20000 in
theorem ggX3_truck_X3_isOutside : GoodIn wsX3_truck wsX3_isOutside := goodIn_r _ [18] (by decide +kernel) (by decide +kernel)
set_option maxRecDepth 20000 in
theorem gX3_truck_X3_isOutside : GoodIn wsX3_truck (va_wsS RX3 68 yX3_isOutside wsX3_isOutside) := goodIn_app (goodIn_of _ (by decide +kernel)) ggX3_truck_X3_isOutside
set_option maxRecDepth 20000 in
theorem ggX3_truck_X3_refuseOnTruck : GoodIn wsX3_truck wsX3_refuseOnTruck := goodIn_ca (goodIn_r _ [21, 3, 4, 7, 42, 43, 44, 45, 46, 47, 48, 49, 50, 51] (by decide +kernel) (by decide +kernel)) (goodIn_sub (fun _ h => List.mem_cons_of_mem _ (List.mem_append_left _ (List.mem_append_left _ (List.mem_append_right _ h)))) (by decide +kernel))
set_option maxRecDepth 20000 in
theorem gX3_truck_X3_refuseOnTruck : GoodIn wsX3_truck (va_wsS RX3 140 yX3_refuseOnTruck wsX3_refuseOnTruck) := goodIn_app (goodIn_of _ (by decide +kernel)) ggX3_truck_X3_refuseOnTruck
set_option maxRecDepth 20000 in
theorem ggX3_truck_X3_refuseEmpty : GoodIn wsX3_truck wsX3_refuseEmpty := goodIn_ca (goodIn_r _ [24, 3, 4, 25, 42, 43, 44, 45, 46, 47, 48, 49, 50, 51] (by decide +kernel) (by decide +kernel)) (goodIn_sub (fun _ h => List.mem_cons_of_mem _ (List.mem_append_left _ (List.mem_append_left _ (List.mem_append_right _ h)))) (by decide +kernel))
set_option maxRecDepth 20000 in
theorem gX3_truck_X3_refuseEmpty : GoodIn wsX3_truck (va_wsS RX3 157 yX3_refuseEmpty wsX3_refuseEmpty) := goodIn_app (goodIn_of _ (by decide +kernel)) ggX3_truck_X3_refuseEmpty
set_option maxRecDepth 20000 in
theorem ggX3_truck_X3_hasLesserStopAboard : GoodIn wsX3_truck wsX3_hasLesserStopAboard := goodIn_ca (goodIn_ca (goodIn_r _ [29, 5, 6, 7, 8, 9, 10, 11, 12, 13, 14, 15, 16, 17, 18, 30, 31, 32, 33, 34, 35, 36, 37, 38, 39, 40, 41, 42, 43, 44, 45, 46, 47, 48, 49, 50, 51] (by decide +kernel) (by decide +kernel)) (goodIn_sub (fun _ h => List.mem_cons_of_mem _ (List.mem_append_left _ (List.mem_append_right _ h))) (by decide +kernel))) (goodIn_sub (fun _ h => List.mem_cons_of_mem _ (List.mem_append_right _ h)) (by decide +kernel))
set_option maxRecDepth 20000 in
theorem gX3_truck_X3_hasLesserStopAboard : GoodIn wsX3_truck (wsV RX3 205 RX3 yX3_hasLesserStopAboard wsX3_hasLesserStopAboard) := goodIn_app (goodIn_of _ (by decide +kernel)) ggX3_truck_X3_hasLesserStopAboard
theorem dX3_truck_0 : decode cX3_truck 0 = .ok (.aload_n 0, 1) := by decide +kernel
theorem dX3_truck_1 : decode cX3_truck 1 = .ok (.iload_n 1, 1) := by decide +kernel
theorem dX3_truck_2 : decode cX3_truck 2 = .ok (.invokevirtual 134, 3) := by decide +kernel
theorem dX3_truck_5 : decode cX3_truck 5 = .ok (.astore_n 3, 1) := by decide +kernel
theorem dX3_truck_6 : decode cX3_truck 6 = .ok (.iload_n 2, 1) := by decide +kernel
theorem dX3_truck_7 : decode cX3_truck 7 = .ok (.iconst 0, 1) := by decide +kernel
theorem dX3_truck_8 : decode cX3_truck 8 = .ok (.bipush 9, 2) := by decide +kernel
theorem dX3_truck_10 : decode cX3_truck 10 = .ok (.invokestatic 68, 3) := by decide +kernel
theorem dX3_truck_13 : decode cX3_truck 13 = .ok (.ifCond .eq 13, 3) := by decide +kernel
theorem dX3_truck_16 : decode cX3_truck 16 = .ok (.new 72, 3) := by decide +kernel
theorem dX3_truck_19 : decode cX3_truck 19 = .ok (.dup, 1) := by decide +kernel
theorem dX3_truck_20 : decode cX3_truck 20 = .ok (.ldc 203, 2) := by decide +kernel
theorem dX3_truck_22 : decode cX3_truck 22 = .ok (.invokespecial 76, 3) := by decide +kernel
theorem dX3_truck_25 : decode cX3_truck 25 = .ok (.athrow, 1) := by decide +kernel
theorem dX3_truck_26 : decode cX3_truck 26 = .ok (.aload_n 3, 1) := by decide +kernel
theorem dX3_truck_27 : decode cX3_truck 27 = .ok (.invokestatic 140, 3) := by decide +kernel
theorem dX3_truck_30 : decode cX3_truck 30 = .ok (.aload_n 3, 1) := by decide +kernel
theorem dX3_truck_31 : decode cX3_truck 31 = .ok (.invokestatic 157, 3) := by decide +kernel
theorem dX3_truck_34 : decode cX3_truck 34 = .ok (.aload_n 0, 1) := by decide +kernel
theorem dX3_truck_35 : decode cX3_truck 35 = .ok (.iload_n 2, 1) := by decide +kernel
theorem dX3_truck_36 : decode cX3_truck 36 = .ok (.invokevirtual 205, 3) := by decide +kernel
theorem dX3_truck_39 : decode cX3_truck 39 = .ok (.ifCond .ne 15, 3) := by decide +kernel
theorem dX3_truck_42 : decode cX3_truck 42 = .ok (.aload_n 0, 1) := by decide +kernel
theorem dX3_truck_43 : decode cX3_truck 43 = .ok (.getfield 32, 3) := by decide +kernel
theorem dX3_truck_46 : decode cX3_truck 46 = .ok (.aload_n 0, 1) := by decide +kernel
theorem dX3_truck_47 : decode cX3_truck 47 = .ok (.getfield 21, 3) := by decide +kernel
theorem dX3_truck_50 : decode cX3_truck 50 = .ok (.arraylength, 1) := by decide +kernel
theorem dX3_truck_51 : decode cX3_truck 51 = .ok (.if_icmp .lt 13, 3) := by decide +kernel
theorem dX3_truck_54 : decode cX3_truck 54 = .ok (.new 97, 3) := by decide +kernel
theorem dX3_truck_57 : decode cX3_truck 57 = .ok (.dup, 1) := by decide +kernel
theorem dX3_truck_58 : decode cX3_truck 58 = .ok (.ldc 208, 2) := by decide +kernel
theorem dX3_truck_60 : decode cX3_truck 60 = .ok (.invokespecial 101, 3) := by decide +kernel
theorem dX3_truck_63 : decode cX3_truck 63 = .ok (.athrow, 1) := by decide +kernel
theorem dX3_truck_64 : decode cX3_truck 64 = .ok (.aload_n 0, 1) := by decide +kernel
theorem dX3_truck_65 : decode cX3_truck 65 = .ok (.getfield 21, 3) := by decide +kernel
theorem dX3_truck_68 : decode cX3_truck 68 = .ok (.aload_n 0, 1) := by decide +kernel
theorem dX3_truck_69 : decode cX3_truck 69 = .ok (.getfield 32, 3) := by decide +kernel
theorem dX3_truck_72 : decode cX3_truck 72 = .ok (.iload_n 1, 1) := by decide +kernel
theorem dX3_truck_73 : decode cX3_truck 73 = .ok (.iastore, 1) := by decide +kernel
theorem dX3_truck_74 : decode cX3_truck 74 = .ok (.aload_n 0, 1) := by decide +kernel
theorem dX3_truck_75 : decode cX3_truck 75 = .ok (.dup, 1) := by decide +kernel
theorem dX3_truck_76 : decode cX3_truck 76 = .ok (.getfield 32, 3) := by decide +kernel
theorem dX3_truck_79 : decode cX3_truck 79 = .ok (.iconst 1, 1) := by decide +kernel
theorem dX3_truck_80 : decode cX3_truck 80 = .ok (.iadd, 1) := by decide +kernel
theorem dX3_truck_81 : decode cX3_truck 81 = .ok (.putfield 32, 3) := by decide +kernel
theorem dX3_truck_84 : decode cX3_truck 84 = .ok (.aload_n 3, 1) := by decide +kernel
theorem dX3_truck_85 : decode cX3_truck 85 = .ok (.iload_n 2, 1) := by decide +kernel
theorem dX3_truck_86 : decode cX3_truck 86 = .ok (.putfield 194, 3) := by decide +kernel
theorem dX3_truck_89 : decode cX3_truck 89 = .ok (.aload_n 0, 1) := by decide +kernel
theorem dX3_truck_90 : decode cX3_truck 90 = .ok (.getfield 32, 3) := by decide +kernel
theorem dX3_truck_93 : decode cX3_truck 93 = .ok (.ireturn, 1) := by decide +kernel
set_option maxRecDepth 20000 in
theorem ggX3_unload_X3_isOutside : GoodIn wsX3_unload wsX3_isOutside := goodIn_r _ [11] (by decide +kernel) (by decide +kernel)
set_option maxRecDepth 20000 in
theorem gX3_unload_X3_isOutside : GoodIn wsX3_unload (va_wsS RX3 68 yX3_isOutside wsX3_isOutside) := goodIn_app (goodIn_of _ (by decide +kernel)) ggX3_unload_X3_isOutside
set_option maxRecDepth 20000 in
theorem ggX3_unload_X3_isBarred : GoodIn wsX3_unload wsX3_isBarred := goodIn_ca (goodIn_ca (goodIn_r _ [15, 5, 6, 7, 16, 17, 18, 10, 19, 20, 21, 22, 8, 9, 11, 33, 34, 35, 36, 37, 38, 39, 40, 41, 42, 43, 44, 45, 46, 47, 48, 49, 50, 51, 52, 53, 54] (by decide +kernel) (by decide +kernel)) (goodIn_sub (fun _ h => List.mem_cons_of_mem _ (List.mem_append_left _ (List.mem_append_right _ h))) (by decide +kernel))) (goodIn_sub (fun _ h => List.mem_cons_of_mem _ (List.mem_append_right _ h)) (by decide +kernel))
set_option maxRecDepth 20000 in
theorem gX3_unload_X3_isBarred : GoodIn wsX3_unload (wsV RX3 210 RX3 yX3_isBarred wsX3_isBarred) := goodIn_app (goodIn_of _ (by decide +kernel)) ggX3_unload_X3_isBarred
set_option maxRecDepth 20000 in
theorem ggX3_unload_X3_palletNumbered : GoodIn wsX3_unload wsX3_palletNumbered := goodIn_ca (goodIn_r _ [19, 20, 21, 22, 8, 9, 10, 11, 33, 34, 35, 36, 37, 38, 39, 40, 41, 42, 43, 44] (by decide +kernel) (by decide +kernel)) (goodIn_sub (fun _ h => List.mem_cons_of_mem _ (List.mem_append_right _ h)) (by decide +kernel))
set_option maxRecDepth 20000 in
theorem gX3_unload_X3_palletNumbered : GoodIn wsX3_unload (wsV RX3 134 RX3 yX3_palletNumbered wsX3_palletNumbered) := goodIn_app (goodIn_of _ (by decide +kernel)) ggX3_unload_X3_palletNumbered
set_option maxRecDepth 20000 in
theorem ggX3_unload_X1_clear : GoodIn wsX3_unload wsX1_clear := goodIn_r _ [27, 28, 29, 30, 31, 32, 45, 46, 47, 48, 49, 50, 51, 52, 53, 54] (by decide +kernel) (by decide +kernel)
set_option maxRecDepth 20000 in
theorem gX3_unload_X1_clear : GoodIn wsX3_unload (wsV RX3 215 RX1 yX1_clear wsX1_clear) := goodIn_app (goodIn_of _ (by decide +kernel)) ggX3_unload_X1_clear
theorem dX3_unload_0 : decode cX3_unload 0 = .ok (.iload_n 1, 1) := by decide +kernel
theorem dX3_unload_1 : decode cX3_unload 1 = .ok (.iconst 0, 1) := by decide +kernel
theorem dX3_unload_2 : decode cX3_unload 2 = .ok (.bipush 9, 2) := by decide +kernel
theorem dX3_unload_4 : decode cX3_unload 4 = .ok (.invokestatic 68, 3) := by decide +kernel
theorem dX3_unload_7 : decode cX3_unload 7 = .ok (.ifCond .eq 13, 3) := by decide +kernel
theorem dX3_unload_10 : decode cX3_unload 10 = .ok (.new 72, 3) := by decide +kernel
theorem dX3_unload_13 : decode cX3_unload 13 = .ok (.dup, 1) := by decide +kernel
theorem dX3_unload_14 : decode cX3_unload 14 = .ok (.ldc 203, 2) := by decide +kernel
theorem dX3_unload_16 : decode cX3_unload 16 = .ok (.invokespecial 76, 3) := by decide +kernel
theorem dX3_unload_19 : decode cX3_unload 19 = .ok (.athrow, 1) := by decide +kernel
theorem dX3_unload_20 : decode cX3_unload 20 = .ok (.aload_n 0, 1) := by decide +kernel
theorem dX3_unload_21 : decode cX3_unload 21 = .ok (.iload_n 1, 1) := by decide +kernel
theorem dX3_unload_22 : decode cX3_unload 22 = .ok (.invokevirtual 210, 3) := by decide +kernel
theorem dX3_unload_25 : decode cX3_unload 25 = .ok (.ifCond .eq 13, 3) := by decide +kernel
theorem dX3_unload_28 : decode cX3_unload 28 = .ok (.new 97, 3) := by decide +kernel
theorem dX3_unload_31 : decode cX3_unload 31 = .ok (.dup, 1) := by decide +kernel
theorem dX3_unload_32 : decode cX3_unload 32 = .ok (.ldc 213, 2) := by decide +kernel
theorem dX3_unload_34 : decode cX3_unload 34 = .ok (.invokespecial 101, 3) := by decide +kernel
theorem dX3_unload_37 : decode cX3_unload 37 = .ok (.athrow, 1) := by decide +kernel
theorem dX3_unload_38 : decode cX3_unload 38 = .ok (.iconst 0, 1) := by decide +kernel
theorem dX3_unload_39 : decode cX3_unload 39 = .ok (.istore_n 2, 1) := by decide +kernel
theorem dX3_unload_40 : decode cX3_unload 40 = .ok (.aload_n 0, 1) := by decide +kernel
theorem dX3_unload_41 : decode cX3_unload 41 = .ok (.getfield 32, 3) := by decide +kernel
theorem dX3_unload_44 : decode cX3_unload 44 = .ok (.iconst 1, 1) := by decide +kernel
theorem dX3_unload_45 : decode cX3_unload 45 = .ok (.isub, 1) := by decide +kernel
theorem dX3_unload_46 : decode cX3_unload 46 = .ok (.istore_n 3, 1) := by decide +kernel
theorem dX3_unload_47 : decode cX3_unload 47 = .ok (.iload_n 3, 1) := by decide +kernel
theorem dX3_unload_48 : decode cX3_unload 48 = .ok (.ifCond .lt 41, 3) := by decide +kernel
theorem dX3_unload_51 : decode cX3_unload 51 = .ok (.aload_n 0, 1) := by decide +kernel
theorem dX3_unload_52 : decode cX3_unload 52 = .ok (.aload_n 0, 1) := by decide +kernel
theorem dX3_unload_53 : decode cX3_unload 53 = .ok (.getfield 21, 3) := by decide +kernel
theorem dX3_unload_56 : decode cX3_unload 56 = .ok (.iload_n 3, 1) := by decide +kernel
theorem dX3_unload_57 : decode cX3_unload 57 = .ok (.iaload, 1) := by decide +kernel
theorem dX3_unload_58 : decode cX3_unload 58 = .ok (.invokevirtual 134, 3) := by decide +kernel
theorem dX3_unload_61 : decode cX3_unload 61 = .ok (.astore 4, 2) := by decide +kernel
theorem dX3_unload_63 : decode cX3_unload 63 = .ok (.aload 4, 2) := by decide +kernel
theorem dX3_unload_65 : decode cX3_unload 65 = .ok (.getfield 194, 3) := by decide +kernel
theorem dX3_unload_68 : decode cX3_unload 68 = .ok (.iload_n 1, 1) := by decide +kernel
theorem dX3_unload_69 : decode cX3_unload 69 = .ok (.if_icmp .eq 6, 3) := by decide +kernel
theorem dX3_unload_72 : decode cX3_unload 72 = .ok (.goto 17, 3) := by decide +kernel
theorem dX3_unload_75 : decode cX3_unload 75 = .ok (.aload 4, 2) := by decide +kernel
theorem dX3_unload_77 : decode cX3_unload 77 = .ok (.invokevirtual 215, 3) := by decide +kernel
theorem dX3_unload_80 : decode cX3_unload 80 = .ok (.iinc 2 1, 3) := by decide +kernel
theorem dX3_unload_83 : decode cX3_unload 83 = .ok (.iinc 3 (-1), 3) := by decide +kernel
theorem dX3_unload_86 : decode cX3_unload 86 = .ok (.goto (-39), 3) := by decide +kernel
theorem dX3_unload_89 : decode cX3_unload 89 = .ok (.aload_n 0, 1) := by decide +kernel
theorem dX3_unload_90 : decode cX3_unload 90 = .ok (.dup, 1) := by decide +kernel
theorem dX3_unload_91 : decode cX3_unload 91 = .ok (.getfield 32, 3) := by decide +kernel
theorem dX3_unload_94 : decode cX3_unload 94 = .ok (.iload_n 2, 1) := by decide +kernel
theorem dX3_unload_95 : decode cX3_unload 95 = .ok (.isub, 1) := by decide +kernel
theorem dX3_unload_96 : decode cX3_unload 96 = .ok (.putfield 32, 3) := by decide +kernel
theorem dX3_unload_99 : decode cX3_unload 99 = .ok (.iload_n 2, 1) := by decide +kernel
theorem dX3_unload_100 : decode cX3_unload 100 = .ok (.ireturn, 1) := by decide +kernel
set_option maxRecDepth 20000 in
theorem ggX3_order_X3_isOutside : GoodIn wsX3_order wsX3_isOutside := goodIn_r _ [8] (by decide +kernel) (by decide +kernel)
set_option maxRecDepth 20000 in
theorem gX3_order_X3_isOutside : GoodIn wsX3_order (va_wsS RX3 68 yX3_isOutside wsX3_isOutside) := goodIn_app (goodIn_of _ (by decide +kernel)) ggX3_order_X3_isOutside
theorem dX3_order_0 : decode cX3_order 0 = .ok (.iload_n 1, 1) := by decide +kernel
theorem dX3_order_1 : decode cX3_order 1 = .ok (.iconst 0, 1) := by decide +kernel
theorem dX3_order_2 : decode cX3_order 2 = .ok (.aload_n 0, 1) := by decide +kernel
theorem dX3_order_3 : decode cX3_order 3 = .ok (.getfield 32, 3) := by decide +kernel
theorem dX3_order_6 : decode cX3_order 6 = .ok (.iconst 1, 1) := by decide +kernel
theorem dX3_order_7 : decode cX3_order 7 = .ok (.isub, 1) := by decide +kernel
theorem dX3_order_8 : decode cX3_order 8 = .ok (.invokestatic 68, 3) := by decide +kernel
theorem dX3_order_11 : decode cX3_order 11 = .ok (.ifCond .eq 13, 3) := by decide +kernel
theorem dX3_order_14 : decode cX3_order 14 = .ok (.new 174, 3) := by decide +kernel
theorem dX3_order_17 : decode cX3_order 17 = .ok (.dup, 1) := by decide +kernel
theorem dX3_order_18 : decode cX3_order 18 = .ok (.ldc 218, 2) := by decide +kernel
theorem dX3_order_20 : decode cX3_order 20 = .ok (.invokespecial 178, 3) := by decide +kernel
theorem dX3_order_23 : decode cX3_order 23 = .ok (.athrow, 1) := by decide +kernel
theorem dX3_order_24 : decode cX3_order 24 = .ok (.aload_n 0, 1) := by decide +kernel
theorem dX3_order_25 : decode cX3_order 25 = .ok (.getfield 21, 3) := by decide +kernel
theorem dX3_order_28 : decode cX3_order 28 = .ok (.aload_n 0, 1) := by decide +kernel
theorem dX3_order_29 : decode cX3_order 29 = .ok (.getfield 32, 3) := by decide +kernel
theorem dX3_order_32 : decode cX3_order 32 = .ok (.iconst 1, 1) := by decide +kernel
theorem dX3_order_33 : decode cX3_order 33 = .ok (.isub, 1) := by decide +kernel
theorem dX3_order_34 : decode cX3_order 34 = .ok (.iload_n 1, 1) := by decide +kernel
theorem dX3_order_35 : decode cX3_order 35 = .ok (.isub, 1) := by decide +kernel
theorem dX3_order_36 : decode cX3_order 36 = .ok (.iaload, 1) := by decide +kernel
theorem dX3_order_37 : decode cX3_order 37 = .ok (.ireturn, 1) := by decide +kernel
set_option maxRecDepth 20000 in
theorem ggX3_count_X3_boxesOnPallets : GoodIn wsX3_count wsX3_boxesOnPallets := goodIn_r _ [10, 11, 12, 13, 14, 15, 16, 17, 18, 19, 20, 21, 22, 23, 24, 25, 35, 36, 37, 38, 39, 40, 41, 42, 43, 44] (by decide +kernel) (by decide +kernel)
set_option maxRecDepth 20000 in
theorem gX3_count_X3_boxesOnPallets : GoodIn wsX3_count (wsV RX3 220 RX3 yX3_boxesOnPallets wsX3_boxesOnPallets) := goodIn_app (goodIn_of _ (by decide +kernel)) ggX3_count_X3_boxesOnPallets
theorem dX3_count_0 : decode cX3_count 0 = .ok (.iload_n 1, 1) := by decide +kernel
theorem dX3_count_1 : decode cX3_count 1 = .ok (.tableswitch 74 0 5 #[39, 44, 49, 54, 60, 66], 39) := by decide +kernel
theorem dX3_count_40 : decode cX3_count 40 = .ok (.aload_n 0, 1) := by decide +kernel
theorem dX3_count_41 : decode cX3_count 41 = .ok (.getfield 25, 3) := by decide +kernel
theorem dX3_count_44 : decode cX3_count 44 = .ok (.ireturn, 1) := by decide +kernel
theorem dX3_count_45 : decode cX3_count 45 = .ok (.aload_n 0, 1) := by decide +kernel
theorem dX3_count_46 : decode cX3_count 46 = .ok (.getfield 29, 3) := by decide +kernel
theorem dX3_count_49 : decode cX3_count 49 = .ok (.ireturn, 1) := by decide +kernel
theorem dX3_count_50 : decode cX3_count 50 = .ok (.aload_n 0, 1) := by decide +kernel
theorem dX3_count_51 : decode cX3_count 51 = .ok (.getfield 32, 3) := by decide +kernel
theorem dX3_count_54 : decode cX3_count 54 = .ok (.ireturn, 1) := by decide +kernel
theorem dX3_count_55 : decode cX3_count 55 = .ok (.aload_n 0, 1) := by decide +kernel
theorem dX3_count_56 : decode cX3_count 56 = .ok (.iconst 0, 1) := by decide +kernel
theorem dX3_count_57 : decode cX3_count 57 = .ok (.invokevirtual 220, 3) := by decide +kernel
theorem dX3_count_60 : decode cX3_count 60 = .ok (.ireturn, 1) := by decide +kernel
theorem dX3_count_61 : decode cX3_count 61 = .ok (.aload_n 0, 1) := by decide +kernel
theorem dX3_count_62 : decode cX3_count 62 = .ok (.iconst 1, 1) := by decide +kernel
theorem dX3_count_63 : decode cX3_count 63 = .ok (.invokevirtual 220, 3) := by decide +kernel
theorem dX3_count_66 : decode cX3_count 66 = .ok (.ireturn, 1) := by decide +kernel
theorem dX3_count_67 : decode cX3_count 67 = .ok (.aload_n 0, 1) := by decide +kernel
theorem dX3_count_68 : decode cX3_count 68 = .ok (.getfield 64, 3) := by decide +kernel
theorem dX3_count_71 : decode cX3_count 71 = .ok (.getfield 224, 3) := by decide +kernel
theorem dX3_count_74 : decode cX3_count 74 = .ok (.ireturn, 1) := by decide +kernel
theorem dX3_count_75 : decode cX3_count 75 = .ok (.iconst (-1), 1) := by decide +kernel
theorem dX3_count_76 : decode cX3_count 76 = .ok (.ireturn, 1) := by decide +kernel
theorem dX3_isOutside_0 : decode cX3_isOutside 0 = .ok (.iload_n 0, 1) := by decide +kernel
theorem dX3_isOutside_1 : decode cX3_isOutside 1 = .ok (.iload_n 1, 1) := by decide +kernel
theorem dX3_isOutside_2 : decode cX3_isOutside 2 = .ok (.if_icmp .lt 8, 3) := by decide +kernel
theorem dX3_isOutside_5 : decode cX3_isOutside 5 = .ok (.iload_n 0, 1) := by decide +kernel
theorem dX3_isOutside_6 : decode cX3_isOutside 6 = .ok (.iload_n 2, 1) := by decide +kernel
theorem dX3_isOutside_7 : decode cX3_isOutside 7 = .ok (.if_icmp .le 7, 3) := by decide +kernel
theorem dX3_isOutside_10 : decode cX3_isOutside 10 = .ok (.iconst 1, 1) := by decide +kernel
theorem dX3_isOutside_11 : decode cX3_isOutside 11 = .ok (.goto 4, 3) := by decide +kernel
theorem dX3_isOutside_14 : decode cX3_isOutside 14 = .ok (.iconst 0, 1) := by decide +kernel
theorem dX3_isOutside_15 : decode cX3_isOutside 15 = .ok (.ireturn, 1) := by decide +kernel
set_option maxRecDepth 20000 in
theorem ggX3_kindNumbered_X3_isOutside : GoodIn wsX3_kindNumbered wsX3_isOutside := goodIn_r _ [7] (by decide +kernel) (by decide +kernel)
set_option maxRecDepth 20000 in
theorem gX3_kindNumbered_X3_isOutside : GoodIn wsX3_kindNumbered (va_wsS RX3 68 yX3_isOutside wsX3_isOutside) := goodIn_app (goodIn_of _ (by decide +kernel)) ggX3_kindNumbered_X3_isOutside
theorem dX3_kindNumbered_0 : decode cX3_kindNumbered 0 = .ok (.iload_n 1, 1) := by decide +kernel
theorem dX3_kindNumbered_1 : decode cX3_kindNumbered 1 = .ok (.iconst 0, 1) := by decide +kernel
theorem dX3_kindNumbered_2 : decode cX3_kindNumbered 2 = .ok (.aload_n 0, 1) := by decide +kernel
theorem dX3_kindNumbered_3 : decode cX3_kindNumbered 3 = .ok (.getfield 11, 3) := by decide +kernel
theorem dX3_kindNumbered_6 : decode cX3_kindNumbered 6 = .ok (.arraylength, 1) := by decide +kernel
theorem dX3_kindNumbered_7 : decode cX3_kindNumbered 7 = .ok (.iconst 1, 1) := by decide +kernel
theorem dX3_kindNumbered_8 : decode cX3_kindNumbered 8 = .ok (.isub, 1) := by decide +kernel
theorem dX3_kindNumbered_9 : decode cX3_kindNumbered 9 = .ok (.invokestatic 68, 3) := by decide +kernel
theorem dX3_kindNumbered_12 : decode cX3_kindNumbered 12 = .ok (.ifCond .eq 7, 3) := by decide +kernel
theorem dX3_kindNumbered_15 : decode cX3_kindNumbered 15 = .ok (.aconst_null, 1) := by decide +kernel
theorem dX3_kindNumbered_16 : decode cX3_kindNumbered 16 = .ok (.goto 9, 3) := by decide +kernel
theorem dX3_kindNumbered_19 : decode cX3_kindNumbered 19 = .ok (.aload_n 0, 1) := by decide +kernel
theorem dX3_kindNumbered_20 : decode cX3_kindNumbered 20 = .ok (.getfield 11, 3) := by decide +kernel
theorem dX3_kindNumbered_23 : decode cX3_kindNumbered 23 = .ok (.iload_n 1, 1) := by decide +kernel
theorem dX3_kindNumbered_24 : decode cX3_kindNumbered 24 = .ok (.aaload, 1) := by decide +kernel
theorem dX3_kindNumbered_25 : decode cX3_kindNumbered 25 = .ok (.astore_n 2, 1) := by decide +kernel
theorem dX3_kindNumbered_26 : decode cX3_kindNumbered 26 = .ok (.aload_n 2, 1) := by decide +kernel
theorem dX3_kindNumbered_27 : decode cX3_kindNumbered 27 = .ok (.ifnonnull 13, 3) := by decide +kernel
theorem dX3_kindNumbered_30 : decode cX3_kindNumbered 30 = .ok (.new 174, 3) := by decide +kernel
theorem dX3_kindNumbered_33 : decode cX3_kindNumbered 33 = .ok (.dup, 1) := by decide +kernel
theorem dX3_kindNumbered_34 : decode cX3_kindNumbered 34 = .ok (.ldc 227, 2) := by decide +kernel
theorem dX3_kindNumbered_36 : decode cX3_kindNumbered 36 = .ok (.invokespecial 178, 3) := by decide +kernel
theorem dX3_kindNumbered_39 : decode cX3_kindNumbered 39 = .ok (.athrow, 1) := by decide +kernel
theorem dX3_kindNumbered_40 : decode cX3_kindNumbered 40 = .ok (.aload_n 2, 1) := by decide +kernel
theorem dX3_kindNumbered_41 : decode cX3_kindNumbered 41 = .ok (.areturn, 1) := by decide +kernel
set_option maxRecDepth 20000 in
theorem ggX3_palletNumbered_X3_isOutside : GoodIn wsX3_palletNumbered wsX3_isOutside := goodIn_r _ [7] (by decide +kernel) (by decide +kernel)
set_option maxRecDepth 20000 in
theorem gX3_palletNumbered_X3_isOutside : GoodIn wsX3_palletNumbered (va_wsS RX3 68 yX3_isOutside wsX3_isOutside) := goodIn_app (goodIn_of _ (by decide +kernel)) ggX3_palletNumbered_X3_isOutside
theorem dX3_palletNumbered_0 : decode cX3_palletNumbered 0 = .ok (.iload_n 1, 1) := by decide +kernel
theorem dX3_palletNumbered_1 : decode cX3_palletNumbered 1 = .ok (.iconst 0, 1) := by decide +kernel
theorem dX3_palletNumbered_2 : decode cX3_palletNumbered 2 = .ok (.aload_n 0, 1) := by decide +kernel
theorem dX3_palletNumbered_3 : decode cX3_palletNumbered 3 = .ok (.getfield 17, 3) := by decide +kernel
theorem dX3_palletNumbered_6 : decode cX3_palletNumbered 6 = .ok (.arraylength, 1) := by decide +kernel
theorem dX3_palletNumbered_7 : decode cX3_palletNumbered 7 = .ok (.iconst 1, 1) := by decide +kernel
theorem dX3_palletNumbered_8 : decode cX3_palletNumbered 8 = .ok (.isub, 1) := by decide +kernel
theorem dX3_palletNumbered_9 : decode cX3_palletNumbered 9 = .ok (.invokestatic 68, 3) := by decide +kernel
theorem dX3_palletNumbered_12 : decode cX3_palletNumbered 12 = .ok (.ifCond .eq 7, 3) := by decide +kernel
theorem dX3_palletNumbered_15 : decode cX3_palletNumbered 15 = .ok (.aconst_null, 1) := by decide +kernel
theorem dX3_palletNumbered_16 : decode cX3_palletNumbered 16 = .ok (.goto 9, 3) := by decide +kernel
theorem dX3_palletNumbered_19 : decode cX3_palletNumbered 19 = .ok (.aload_n 0, 1) := by decide +kernel
theorem dX3_palletNumbered_20 : decode cX3_palletNumbered 20 = .ok (.getfield 17, 3) := by decide +kernel
theorem dX3_palletNumbered_23 : decode cX3_palletNumbered 23 = .ok (.iload_n 1, 1) := by decide +kernel
theorem dX3_palletNumbered_24 : decode cX3_palletNumbered 24 = .ok (.aaload, 1) := by decide +kernel
theorem dX3_palletNumbered_25 : decode cX3_palletNumbered 25 = .ok (.astore_n 2, 1) := by decide +kernel
theorem dX3_palletNumbered_26 : decode cX3_palletNumbered 26 = .ok (.aload_n 2, 1) := by decide +kernel
theorem dX3_palletNumbered_27 : decode cX3_palletNumbered 27 = .ok (.ifnonnull 13, 3) := by decide +kernel
theorem dX3_palletNumbered_30 : decode cX3_palletNumbered 30 = .ok (.new 174, 3) := by decide +kernel
theorem dX3_palletNumbered_33 : decode cX3_palletNumbered 33 = .ok (.dup, 1) := by decide +kernel
theorem dX3_palletNumbered_34 : decode cX3_palletNumbered 34 = .ok (.ldc 229, 2) := by decide +kernel
theorem dX3_palletNumbered_36 : decode cX3_palletNumbered 36 = .ok (.invokespecial 178, 3) := by decide +kernel
theorem dX3_palletNumbered_39 : decode cX3_palletNumbered 39 = .ok (.athrow, 1) := by decide +kernel
theorem dX3_palletNumbered_40 : decode cX3_palletNumbered 40 = .ok (.aload_n 2, 1) := by decide +kernel
theorem dX3_palletNumbered_41 : decode cX3_palletNumbered 41 = .ok (.areturn, 1) := by decide +kernel
set_option maxRecDepth 20000 in
theorem ggX3_palletWithLayer_X3_palletNumbered : GoodIn wsX3_palletWithLayer wsX3_palletNumbered := goodIn_ca (goodIn_r _ [8, 1, 2, 9, 10, 11, 7, 12, 23, 24, 25, 26, 27, 28, 29, 30, 31, 32, 33, 34] (by decide +kernel) (by decide +kernel)) (goodIn_sub (fun _ h => List.mem_cons_of_mem _ (List.mem_append_right _ h)) (by decide +kernel))
set_option maxRecDepth 20000 in
theorem gX3_palletWithLayer_X3_palletNumbered : GoodIn wsX3_palletWithLayer (wsV RX3 134 RX3 yX3_palletNumbered wsX3_palletNumbered) := goodIn_app (goodIn_of _ (by decide +kernel)) ggX3_palletWithLayer_X3_palletNumbered
set_option maxRecDepth 20000 in
theorem ggX3_palletWithLayer_X3_isOutside : GoodIn wsX3_palletWithLayer wsX3_isOutside := goodIn_r _ [12] (by decide +kernel) (by decide +kernel)
set_option maxRecDepth 20000 in
theorem gX3_palletWithLayer_X3_isOutside : GoodIn wsX3_palletWithLayer (va_wsS RX3 68 yX3_isOutside wsX3_isOutside) := goodIn_app (goodIn_of _ (by decide +kernel)) ggX3_palletWithLayer_X3_isOutside
theorem dX3_palletWithLayer_0 : decode cX3_palletWithLayer 0 = .ok (.aload_n 0, 1) := by decide +kernel
theorem dX3_palletWithLayer_1 : decode cX3_palletWithLayer 1 = .ok (.iload_n 1, 1) := by decide +kernel
theorem dX3_palletWithLayer_2 : decode cX3_palletWithLayer 2 = .ok (.invokevirtual 134, 3) := by decide +kernel
theorem dX3_palletWithLayer_5 : decode cX3_palletWithLayer 5 = .ok (.astore_n 3, 1) := by decide +kernel
theorem dX3_palletWithLayer_6 : decode cX3_palletWithLayer 6 = .ok (.iload_n 2, 1) := by decide +kernel
theorem dX3_palletWithLayer_7 : decode cX3_palletWithLayer 7 = .ok (.iconst 0, 1) := by decide +kernel
theorem dX3_palletWithLayer_8 : decode cX3_palletWithLayer 8 = .ok (.aload_n 3, 1) := by decide +kernel
theorem dX3_palletWithLayer_9 : decode cX3_palletWithLayer 9 = .ok (.getfield 144, 3) := by decide +kernel
theorem dX3_palletWithLayer_12 : decode cX3_palletWithLayer 12 = .ok (.iconst 1, 1) := by decide +kernel
theorem dX3_palletWithLayer_13 : decode cX3_palletWithLayer 13 = .ok (.isub, 1) := by decide +kernel
theorem dX3_palletWithLayer_14 : decode cX3_palletWithLayer 14 = .ok (.invokestatic 68, 3) := by decide +kernel
theorem dX3_palletWithLayer_17 : decode cX3_palletWithLayer 17 = .ok (.ifCond .eq 13, 3) := by decide +kernel
theorem dX3_palletWithLayer_20 : decode cX3_palletWithLayer 20 = .ok (.new 174, 3) := by decide +kernel
theorem dX3_palletWithLayer_23 : decode cX3_palletWithLayer 23 = .ok (.dup, 1) := by decide +kernel
theorem dX3_palletWithLayer_24 : decode cX3_palletWithLayer 24 = .ok (.ldc 231, 2) := by decide +kernel
theorem dX3_palletWithLayer_26 : decode cX3_palletWithLayer 26 = .ok (.invokespecial 178, 3) := by decide +kernel
theorem dX3_palletWithLayer_29 : decode cX3_palletWithLayer 29 = .ok (.athrow, 1) := by decide +kernel
theorem dX3_palletWithLayer_30 : decode cX3_palletWithLayer 30 = .ok (.aload_n 3, 1) := by decide +kernel
theorem dX3_palletWithLayer_31 : decode cX3_palletWithLayer 31 = .ok (.areturn, 1) := by decide +kernel
theorem dX3_refuseOnTruck_0 : decode cX3_refuseOnTruck 0 = .ok (.aload_n 0, 1) := by decide +kernel
theorem dX3_refuseOnTruck_1 : decode cX3_refuseOnTruck 1 = .ok (.getfield 194, 3) := by decide +kernel
theorem dX3_refuseOnTruck_4 : decode cX3_refuseOnTruck 4 = .ok (.iconst (-1), 1) := by decide +kernel
theorem dX3_refuseOnTruck_5 : decode cX3_refuseOnTruck 5 = .ok (.if_icmp .eq 13, 3) := by decide +kernel
theorem dX3_refuseOnTruck_8 : decode cX3_refuseOnTruck 8 = .ok (.new 97, 3) := by decide +kernel
theorem dX3_refuseOnTruck_11 : decode cX3_refuseOnTruck 11 = .ok (.dup, 1) := by decide +kernel
theorem dX3_refuseOnTruck_12 : decode cX3_refuseOnTruck 12 = .ok (.ldc 233, 2) := by decide +kernel
theorem dX3_refuseOnTruck_14 : decode cX3_refuseOnTruck 14 = .ok (.invokespecial 101, 3) := by decide +kernel
theorem dX3_refuseOnTruck_17 : decode cX3_refuseOnTruck 17 = .ok (.athrow, 1) := by decide +kernel
theorem dX3_refuseOnTruck_18 : decode cX3_refuseOnTruck 18 = .ok (.return_, 1) := by decide +kernel
theorem dX3_refuseEmpty_0 : decode cX3_refuseEmpty 0 = .ok (.aload_n 0, 1) := by decide +kernel
theorem dX3_refuseEmpty_1 : decode cX3_refuseEmpty 1 = .ok (.getfield 144, 3) := by decide +kernel
theorem dX3_refuseEmpty_4 : decode cX3_refuseEmpty 4 = .ok (.ifCond .ne 13, 3) := by decide +kernel
theorem dX3_refuseEmpty_7 : decode cX3_refuseEmpty 7 = .ok (.new 97, 3) := by decide +kernel
theorem dX3_refuseEmpty_10 : decode cX3_refuseEmpty 10 = .ok (.dup, 1) := by decide +kernel
theorem dX3_refuseEmpty_11 : decode cX3_refuseEmpty 11 = .ok (.ldc 235, 2) := by decide +kernel
theorem dX3_refuseEmpty_13 : decode cX3_refuseEmpty 13 = .ok (.invokespecial 101, 3) := by decide +kernel
theorem dX3_refuseEmpty_16 : decode cX3_refuseEmpty 16 = .ok (.athrow, 1) := by decide +kernel
theorem dX3_refuseEmpty_17 : decode cX3_refuseEmpty 17 = .ok (.return_, 1) := by decide +kernel
set_option maxRecDepth 20000 in
theorem ggX3_isOnAPallet_X1_kindBits : GoodIn wsX3_isOnAPallet wsX1_kindBits := goodIn_ca (goodIn_r _ [6, 7, 8, 21, 22, 23, 24, 25, 26, 27, 28, 29, 30] (by decide +kernel) (by decide +kernel)) (goodIn_sub (fun _ h => List.mem_cons_of_mem _ (List.mem_append_right _ h)) (by decide +kernel))
set_option maxRecDepth 20000 in
theorem gX3_isOnAPallet_X1_kindBits : GoodIn wsX3_isOnAPallet (wsV RX3 197 RX1 yX1_kindBits wsX1_kindBits) := goodIn_app (goodIn_of _ (by decide +kernel)) ggX3_isOnAPallet_X1_kindBits
theorem dX3_isOnAPallet_0 : decode cX3_isOnAPallet 0 = .ok (.aload_n 0, 1) := by decide +kernel
theorem dX3_isOnAPallet_1 : decode cX3_isOnAPallet 1 = .ok (.getfield 17, 3) := by decide +kernel
theorem dX3_isOnAPallet_4 : decode cX3_isOnAPallet 4 = .ok (.astore_n 2, 1) := by decide +kernel
theorem dX3_isOnAPallet_5 : decode cX3_isOnAPallet 5 = .ok (.aload_n 2, 1) := by decide +kernel
theorem dX3_isOnAPallet_6 : decode cX3_isOnAPallet 6 = .ok (.arraylength, 1) := by decide +kernel
theorem dX3_isOnAPallet_7 : decode cX3_isOnAPallet 7 = .ok (.istore_n 3, 1) := by decide +kernel
theorem dX3_isOnAPallet_8 : decode cX3_isOnAPallet 8 = .ok (.iconst 0, 1) := by decide +kernel
theorem dX3_isOnAPallet_9 : decode cX3_isOnAPallet 9 = .ok (.istore 4, 2) := by decide +kernel
theorem dX3_isOnAPallet_11 : decode cX3_isOnAPallet 11 = .ok (.iload 4, 2) := by decide +kernel
theorem dX3_isOnAPallet_13 : decode cX3_isOnAPallet 13 = .ok (.iload_n 3, 1) := by decide +kernel
theorem dX3_isOnAPallet_14 : decode cX3_isOnAPallet 14 = .ok (.if_icmp .ge 35, 3) := by decide +kernel
theorem dX3_isOnAPallet_17 : decode cX3_isOnAPallet 17 = .ok (.aload_n 2, 1) := by decide +kernel
theorem dX3_isOnAPallet_18 : decode cX3_isOnAPallet 18 = .ok (.iload 4, 2) := by decide +kernel
theorem dX3_isOnAPallet_20 : decode cX3_isOnAPallet 20 = .ok (.aaload, 1) := by decide +kernel
theorem dX3_isOnAPallet_21 : decode cX3_isOnAPallet 21 = .ok (.astore 5, 2) := by decide +kernel
theorem dX3_isOnAPallet_23 : decode cX3_isOnAPallet 23 = .ok (.aload 5, 2) := by decide +kernel
theorem dX3_isOnAPallet_25 : decode cX3_isOnAPallet 25 = .ok (.ifnull 18, 3) := by decide +kernel
theorem dX3_isOnAPallet_28 : decode cX3_isOnAPallet 28 = .ok (.aload 5, 2) := by decide +kernel
theorem dX3_isOnAPallet_30 : decode cX3_isOnAPallet 30 = .ok (.invokevirtual 197, 3) := by decide +kernel
theorem dX3_isOnAPallet_33 : decode cX3_isOnAPallet 33 = .ok (.iload_n 1, 1) := by decide +kernel
theorem dX3_isOnAPallet_34 : decode cX3_isOnAPallet 34 = .ok (.ishr, 1) := by decide +kernel
theorem dX3_isOnAPallet_35 : decode cX3_isOnAPallet 35 = .ok (.iconst 1, 1) := by decide +kernel
theorem dX3_isOnAPallet_36 : decode cX3_isOnAPallet 36 = .ok (.iand, 1) := by decide +kernel
theorem dX3_isOnAPallet_37 : decode cX3_isOnAPallet 37 = .ok (.iconst 1, 1) := by decide +kernel
theorem dX3_isOnAPallet_38 : decode cX3_isOnAPallet 38 = .ok (.if_icmp .ne 5, 3) := by decide +kernel
theorem dX3_isOnAPallet_41 : decode cX3_isOnAPallet 41 = .ok (.iconst 1, 1) := by decide +kernel
theorem dX3_isOnAPallet_42 : decode cX3_isOnAPallet 42 = .ok (.ireturn, 1) := by decide +kernel
theorem dX3_isOnAPallet_43 : decode cX3_isOnAPallet 43 = .ok (.iinc 4 1, 3) := by decide +kernel
theorem dX3_isOnAPallet_46 : decode cX3_isOnAPallet 46 = .ok (.goto (-35), 3) := by decide +kernel
theorem dX3_isOnAPallet_49 : decode cX3_isOnAPallet 49 = .ok (.iconst 0, 1) := by decide +kernel
theorem dX3_isOnAPallet_50 : decode cX3_isOnAPallet 50 = .ok (.ireturn, 1) := by decide +kernel
theorem dX3_boxesOnPallets_0 : decode cX3_boxesOnPallets 0 = .ok (.iconst 0, 1) := by decide +kernel
theorem dX3_boxesOnPallets_1 : decode cX3_boxesOnPallets 1 = .ok (.istore_n 2, 1) := by decide +kernel
theorem dX3_boxesOnPallets_2 : decode cX3_boxesOnPallets 2 = .ok (.aload_n 0, 1) := by decide +kernel
theorem dX3_boxesOnPallets_3 : decode cX3_boxesOnPallets 3 = .ok (.getfield 17, 3) := by decide +kernel
theorem dX3_boxesOnPallets_6 : decode cX3_boxesOnPallets 6 = .ok (.astore_n 3, 1) := by decide +kernel
theorem dX3_boxesOnPallets_7 : decode cX3_boxesOnPallets 7 = .ok (.aload_n 3, 1) := by decide +kernel
theorem dX3_boxesOnPallets_8 : decode cX3_boxesOnPallets 8 = .ok (.arraylength, 1) := by decide +kernel
theorem dX3_boxesOnPallets_9 : decode cX3_boxesOnPallets 9 = .ok (.istore 4, 2) := by decide +kernel
theorem dX3_boxesOnPallets_11 : decode cX3_boxesOnPallets 11 = .ok (.iconst 0, 1) := by decide +kernel
theorem dX3_boxesOnPallets_12 : decode cX3_boxesOnPallets 12 = .ok (.istore 5, 2) := by decide +kernel
theorem dX3_boxesOnPallets_14 : decode cX3_boxesOnPallets 14 = .ok (.iload 5, 2) := by decide +kernel
theorem dX3_boxesOnPallets_16 : decode cX3_boxesOnPallets 16 = .ok (.iload 4, 2) := by decide +kernel
theorem dX3_boxesOnPallets_18 : decode cX3_boxesOnPallets 18 = .ok (.if_icmp .ge 41, 3) := by decide +kernel
theorem dX3_boxesOnPallets_21 : decode cX3_boxesOnPallets 21 = .ok (.aload_n 3, 1) := by decide +kernel
theorem dX3_boxesOnPallets_22 : decode cX3_boxesOnPallets 22 = .ok (.iload 5, 2) := by decide +kernel
theorem dX3_boxesOnPallets_24 : decode cX3_boxesOnPallets 24 = .ok (.aaload, 1) := by decide +kernel
theorem dX3_boxesOnPallets_25 : decode cX3_boxesOnPallets 25 = .ok (.astore 6, 2) := by decide +kernel
theorem dX3_boxesOnPallets_27 : decode cX3_boxesOnPallets 27 = .ok (.aload 6, 2) := by decide +kernel
theorem dX3_boxesOnPallets_29 : decode cX3_boxesOnPallets 29 = .ok (.ifnull 24, 3) := by decide +kernel
theorem dX3_boxesOnPallets_32 : decode cX3_boxesOnPallets 32 = .ok (.iload_n 1, 1) := by decide +kernel
theorem dX3_boxesOnPallets_33 : decode cX3_boxesOnPallets 33 = .ok (.ifCond .eq 12, 3) := by decide +kernel
theorem dX3_boxesOnPallets_36 : decode cX3_boxesOnPallets 36 = .ok (.aload 6, 2) := by decide +kernel
theorem dX3_boxesOnPallets_38 : decode cX3_boxesOnPallets 38 = .ok (.getfield 194, 3) := by decide +kernel
theorem dX3_boxesOnPallets_41 : decode cX3_boxesOnPallets 41 = .ok (.iconst (-1), 1) := by decide +kernel
theorem dX3_boxesOnPallets_42 : decode cX3_boxesOnPallets 42 = .ok (.if_icmp .eq 11, 3) := by decide +kernel
theorem dX3_boxesOnPallets_45 : decode cX3_boxesOnPallets 45 = .ok (.iload_n 2, 1) := by decide +kernel
theorem dX3_boxesOnPallets_46 : decode cX3_boxesOnPallets 46 = .ok (.aload 6, 2) := by decide +kernel
theorem dX3_boxesOnPallets_48 : decode cX3_boxesOnPallets 48 = .ok (.getfield 193, 3) := by decide +kernel
theorem dX3_boxesOnPallets_51 : decode cX3_boxesOnPallets 51 = .ok (.iadd, 1) := by decide +kernel
theorem dX3_boxesOnPallets_52 : decode cX3_boxesOnPallets 52 = .ok (.istore_n 2, 1) := by decide +kernel
theorem dX3_boxesOnPallets_53 : decode cX3_boxesOnPallets 53 = .ok (.iinc 5 1, 3) := by decide +kernel
theorem dX3_boxesOnPallets_56 : decode cX3_boxesOnPallets 56 = .ok (.goto (-42), 3) := by decide +kernel
theorem dX3_boxesOnPallets_59 : decode cX3_boxesOnPallets 59 = .ok (.iload_n 2, 1) := by decide +kernel
theorem dX3_boxesOnPallets_60 : decode cX3_boxesOnPallets 60 = .ok (.ireturn, 1) := by decide +kernel
set_option maxRecDepth 20000 in
theorem ggX3_whyNot_X0_cellsOfBox : GoodIn wsX3_whyNot wsX0_cellsOfBox := goodIn_ca (goodIn_r _ [15, 16, 17, 18, 19, 20, 21, 22, 23, 24, 14, 25, 26, 27, 45, 46, 47, 48, 49, 50, 51, 52, 53, 54, 55] (by decide +kernel) (by decide +kernel)) (goodIn_sub (fun _ h => List.mem_cons_of_mem _ (List.mem_append_right _ h)) (by decide +kernel))
set_option maxRecDepth 20000 in
theorem gX3_whyNot_X0_cellsOfBox : GoodIn wsX3_whyNot (wsV RX3 179 RX0 yX0_cellsOfBox wsX0_cellsOfBox) := goodIn_app (goodIn_of _ (by decide +kernel)) ggX3_whyNot_X0_cellsOfBox
set_option maxRecDepth 20000 in
theorem ggX3_whyNot_X3_supportedCells : GoodIn wsX3_whyNot wsX3_supportedCells := goodIn_ca (goodIn_r _ [30, 31, 32, 33, 34, 35, 36, 37, 19, 20, 21, 38, 39, 40, 41, 42, 43, 44, 56, 57, 58, 59, 60, 61, 62, 63, 64, 65] (by decide +kernel) (by decide +kernel)) (goodIn_sub (fun _ h => List.mem_cons_of_mem _ (List.mem_append_right _ h)) (by decide +kernel))
set_option maxRecDepth 20000 in
theorem gX3_whyNot_X3_supportedCells : GoodIn wsX3_whyNot (va_wsS RX3 183 yX3_supportedCells wsX3_supportedCells) := goodIn_app (goodIn_of _ (by decide +kernel)) ggX3_whyNot_X3_supportedCells
theorem dX3_whyNot_0 : decode cX3_whyNot 0 = .ok (.iload_n 3, 1) := by decide +kernel
theorem dX3_whyNot_1 : decode cX3_whyNot 1 = .ok (.aload_n 2, 1) := by decide +kernel
theorem dX3_whyNot_2 : decode cX3_whyNot 2 = .ok (.getfield 106, 3) := by decide +kernel
theorem dX3_whyNot_5 : decode cX3_whyNot 5 = .ok (.if_icmp .le 5, 3) := by decide +kernel
theorem dX3_whyNot_8 : decode cX3_whyNot 8 = .ok (.iconst (-1), 1) := by decide +kernel
theorem dX3_whyNot_9 : decode cX3_whyNot 9 = .ok (.ireturn, 1) := by decide +kernel
theorem dX3_whyNot_10 : decode cX3_whyNot 10 = .ok (.iconst 0, 1) := by decide +kernel
theorem dX3_whyNot_11 : decode cX3_whyNot 11 = .ok (.istore 4, 2) := by decide +kernel
theorem dX3_whyNot_13 : decode cX3_whyNot 13 = .ok (.iload 4, 2) := by decide +kernel
theorem dX3_whyNot_15 : decode cX3_whyNot 15 = .ok (.iload_n 3, 1) := by decide +kernel
theorem dX3_whyNot_16 : decode cX3_whyNot 16 = .ok (.if_icmp .ge 45, 3) := by decide +kernel
theorem dX3_whyNot_19 : decode cX3_whyNot 19 = .ok (.aload_n 1, 1) := by decide +kernel
theorem dX3_whyNot_20 : decode cX3_whyNot 20 = .ok (.aload_n 1, 1) := by decide +kernel
theorem dX3_whyNot_21 : decode cX3_whyNot 21 = .ok (.getfield 144, 3) := by decide +kernel
theorem dX3_whyNot_24 : decode cX3_whyNot 24 = .ok (.aload_n 2, 1) := by decide +kernel
theorem dX3_whyNot_25 : decode cX3_whyNot 25 = .ok (.iload 4, 2) := by decide +kernel
theorem dX3_whyNot_27 : decode cX3_whyNot 27 = .ok (.invokevirtual 179, 3) := by decide +kernel
theorem dX3_whyNot_30 : decode cX3_whyNot 30 = .ok (.invokestatic 183, 3) := by decide +kernel
theorem dX3_whyNot_33 : decode cX3_whyNot 33 = .ok (.istore 5, 2) := by decide +kernel
theorem dX3_whyNot_35 : decode cX3_whyNot 35 = .ok (.iload 5, 2) := by decide +kernel
theorem dX3_whyNot_37 : decode cX3_whyNot 37 = .ok (.bipush 100, 2) := by decide +kernel
theorem dX3_whyNot_39 : decode cX3_whyNot 39 = .ok (.imul, 1) := by decide +kernel
theorem dX3_whyNot_40 : decode cX3_whyNot 40 = .ok (.aload_n 0, 1) := by decide +kernel
theorem dX3_whyNot_41 : decode cX3_whyNot 41 = .ok (.getfield 35, 3) := by decide +kernel
theorem dX3_whyNot_44 : decode cX3_whyNot 44 = .ok (.aload_n 2, 1) := by decide +kernel
theorem dX3_whyNot_45 : decode cX3_whyNot 45 = .ok (.getfield 126, 3) := by decide +kernel
theorem dX3_whyNot_48 : decode cX3_whyNot 48 = .ok (.imul, 1) := by decide +kernel
theorem dX3_whyNot_49 : decode cX3_whyNot 49 = .ok (.if_icmp .ge 6, 3) := by decide +kernel
theorem dX3_whyNot_52 : decode cX3_whyNot 52 = .ok (.bipush (-2), 2) := by decide +kernel
theorem dX3_whyNot_54 : decode cX3_whyNot 54 = .ok (.ireturn, 1) := by decide +kernel
theorem dX3_whyNot_55 : decode cX3_whyNot 55 = .ok (.iinc 4 1, 3) := by decide +kernel
theorem dX3_whyNot_58 : decode cX3_whyNot 58 = .ok (.goto (-45), 3) := by decide +kernel
theorem dX3_whyNot_61 : decode cX3_whyNot 61 = .ok (.aload_n 1, 1) := by decide +kernel
theorem dX3_whyNot_62 : decode cX3_whyNot 62 = .ok (.getfield 187, 3) := by decide +kernel
theorem dX3_whyNot_65 : decode cX3_whyNot 65 = .ok (.aload_n 2, 1) := by decide +kernel
theorem dX3_whyNot_66 : decode cX3_whyNot 66 = .ok (.getfield 237, 3) := by decide +kernel
theorem dX3_whyNot_69 : decode cX3_whyNot 69 = .ok (.iadd, 1) := by decide +kernel
theorem dX3_whyNot_70 : decode cX3_whyNot 70 = .ok (.aload_n 0, 1) := by decide +kernel
theorem dX3_whyNot_71 : decode cX3_whyNot 71 = .ok (.getfield 38, 3) := by decide +kernel
theorem dX3_whyNot_74 : decode cX3_whyNot 74 = .ok (.if_icmp .le 6, 3) := by decide +kernel
theorem dX3_whyNot_77 : decode cX3_whyNot 77 = .ok (.bipush (-3), 2) := by decide +kernel
theorem dX3_whyNot_79 : decode cX3_whyNot 79 = .ok (.ireturn, 1) := by decide +kernel
theorem dX3_whyNot_80 : decode cX3_whyNot 80 = .ok (.aload_n 1, 1) := by decide +kernel
theorem dX3_whyNot_81 : decode cX3_whyNot 81 = .ok (.getfield 190, 3) := by decide +kernel
theorem dX3_whyNot_84 : decode cX3_whyNot 84 = .ok (.aload_n 2, 1) := by decide +kernel
theorem dX3_whyNot_85 : decode cX3_whyNot 85 = .ok (.getfield 238, 3) := by decide +kernel
theorem dX3_whyNot_88 : decode cX3_whyNot 88 = .ok (.iload_n 3, 1) := by decide +kernel
theorem dX3_whyNot_89 : decode cX3_whyNot 89 = .ok (.imul, 1) := by decide +kernel
theorem dX3_whyNot_90 : decode cX3_whyNot 90 = .ok (.iadd, 1) := by decide +kernel
theorem dX3_whyNot_91 : decode cX3_whyNot 91 = .ok (.aload_n 0, 1) := by decide +kernel
theorem dX3_whyNot_92 : decode cX3_whyNot 92 = .ok (.getfield 41, 3) := by decide +kernel
theorem dX3_whyNot_95 : decode cX3_whyNot 95 = .ok (.if_icmp .le 6, 3) := by decide +kernel
theorem dX3_whyNot_98 : decode cX3_whyNot 98 = .ok (.bipush (-4), 2) := by decide +kernel
theorem dX3_whyNot_100 : decode cX3_whyNot 100 = .ok (.ireturn, 1) := by decide +kernel
theorem dX3_whyNot_101 : decode cX3_whyNot 101 = .ok (.iconst 0, 1) := by decide +kernel
theorem dX3_whyNot_102 : decode cX3_whyNot 102 = .ok (.ireturn, 1) := by decide +kernel
set_option maxRecDepth 20000 in
theorem ggX3_supportedCells_X1_coveredIn : GoodIn wsX3_supportedCells wsX1_coveredIn := goodIn_ca (goodIn_r _ [5, 6, 7, 8, 9, 10, 18, 19, 20, 21, 22, 23, 24, 25, 26, 27] (by decide +kernel) (by decide +kernel)) (goodIn_sub (fun _ h => List.mem_cons_of_mem _ (List.mem_append_right _ h)) (by decide +kernel))
set_option maxRecDepth 20000 in
theorem gX3_supportedCells_X1_coveredIn : GoodIn wsX3_supportedCells (wsV RX3 239 RX1 yX1_coveredIn wsX1_coveredIn) := goodIn_app (goodIn_of _ (by decide +kernel)) ggX3_supportedCells_X1_coveredIn
set_option maxRecDepth 20000 in
theorem ggX3_supportedCells_J13_bitCount_95d88 : GoodIn wsX3_supportedCells wsJ13_bitCount_95d88 := goodIn_r _ [14, 15, 16, 17] (by decide +kernel) (by decide +kernel)
set_option maxRecDepth 20000 in
theorem gX3_supportedCells_J13_bitCount_95d88 : GoodIn wsX3_supportedCells (va_wsS RX3 242 yJ13_bitCount_95d88 wsJ13_bitCount_95d88) := goodIn_app (goodIn_of _ (by decide +kernel)) ggX3_supportedCells_J13_bitCount_95d88
theorem dX3_supportedCells_0 : decode cX3_supportedCells 0 = .ok (.iload_n 1, 1) := by decide +kernel
theorem dX3_supportedCells_1 : decode cX3_supportedCells 1 = .ok (.ifCond .ne 7, 3) := by decide +kernel
theorem dX3_supportedCells_4 : decode cX3_supportedCells 4 = .ok (.lload_n 2, 1) := by decide +kernel
theorem dX3_supportedCells_5 : decode cX3_supportedCells 5 = .ok (.goto 12, 3) := by decide +kernel
theorem dX3_supportedCells_8 : decode cX3_supportedCells 8 = .ok (.lload_n 2, 1) := by decide +kernel
theorem dX3_supportedCells_9 : decode cX3_supportedCells 9 = .ok (.aload_n 0, 1) := by decide +kernel
theorem dX3_supportedCells_10 : decode cX3_supportedCells 10 = .ok (.iload_n 1, 1) := by decide +kernel
theorem dX3_supportedCells_11 : decode cX3_supportedCells 11 = .ok (.iconst 1, 1) := by decide +kernel
theorem dX3_supportedCells_12 : decode cX3_supportedCells 12 = .ok (.isub, 1) := by decide +kernel
theorem dX3_supportedCells_13 : decode cX3_supportedCells 13 = .ok (.invokevirtual 239, 3) := by decide +kernel
theorem dX3_supportedCells_16 : decode cX3_supportedCells 16 = .ok (.land, 1) := by decide +kernel
theorem dX3_supportedCells_17 : decode cX3_supportedCells 17 = .ok (.lstore 4, 2) := by decide +kernel
theorem dX3_supportedCells_19 : decode cX3_supportedCells 19 = .ok (.lload 4, 2) := by decide +kernel
theorem dX3_supportedCells_21 : decode cX3_supportedCells 21 = .ok (.invokestatic 242, 3) := by decide +kernel
theorem dX3_supportedCells_24 : decode cX3_supportedCells 24 = .ok (.ireturn, 1) := by decide +kernel
set_option maxRecDepth 20000 in
theorem ggX3_hasLesserStopAboard_X3_palletNumbered : GoodIn wsX3_hasLesserStopAboard wsX3_palletNumbered := goodIn_ca (goodIn_r _ [8, 9, 10, 11, 12, 13, 7, 14, 15, 16, 17, 18, 19, 20, 21, 22, 23, 24, 25, 26] (by decide +kernel) (by decide +kernel)) (goodIn_sub (fun _ h => List.mem_cons_of_mem _ (List.mem_append_right _ h)) (by decide +kernel))
set_option maxRecDepth 20000 in
theorem gX3_hasLesserStopAboard_X3_palletNumbered : GoodIn wsX3_hasLesserStopAboard (wsV RX3 134 RX3 yX3_palletNumbered wsX3_palletNumbered) := goodIn_app (goodIn_of _ (by decide +kernel)) ggX3_hasLesserStopAboard_X3_palletNumbered
theorem dX3_hasLesserStopAboard_0 : decode cX3_hasLesserStopAboard 0 = .ok (.iconst 0, 1) := by decide +kernel
theorem dX3_hasLesserStopAboard_1 : decode cX3_hasLesserStopAboard 1 = .ok (.istore_n 2, 1) := by decide +kernel
theorem dX3_hasLesserStopAboard_2 : decode cX3_hasLesserStopAboard 2 = .ok (.iload_n 2, 1) := by decide +kernel
theorem dX3_hasLesserStopAboard_3 : decode cX3_hasLesserStopAboard 3 = .ok (.aload_n 0, 1) := by decide +kernel
theorem dX3_hasLesserStopAboard_4 : decode cX3_hasLesserStopAboard 4 = .ok (.getfield 32, 3) := by decide +kernel
theorem dX3_hasLesserStopAboard_7 : decode cX3_hasLesserStopAboard 7 = .ok (.if_icmp .ge 28, 3) := by decide +kernel
theorem dX3_hasLesserStopAboard_10 : decode cX3_hasLesserStopAboard 10 = .ok (.aload_n 0, 1) := by decide +kernel
theorem dX3_hasLesserStopAboard_11 : decode cX3_hasLesserStopAboard 11 = .ok (.aload_n 0, 1) := by decide +kernel
theorem dX3_hasLesserStopAboard_12 : decode cX3_hasLesserStopAboard 12 = .ok (.getfield 21, 3) := by decide +kernel
theorem dX3_hasLesserStopAboard_15 : decode cX3_hasLesserStopAboard 15 = .ok (.iload_n 2, 1) := by decide +kernel
theorem dX3_hasLesserStopAboard_16 : decode cX3_hasLesserStopAboard 16 = .ok (.iaload, 1) := by decide +kernel
theorem dX3_hasLesserStopAboard_17 : decode cX3_hasLesserStopAboard 17 = .ok (.invokevirtual 134, 3) := by decide +kernel
theorem dX3_hasLesserStopAboard_20 : decode cX3_hasLesserStopAboard 20 = .ok (.getfield 194, 3) := by decide +kernel
theorem dX3_hasLesserStopAboard_23 : decode cX3_hasLesserStopAboard 23 = .ok (.iload_n 1, 1) := by decide +kernel
theorem dX3_hasLesserStopAboard_24 : decode cX3_hasLesserStopAboard 24 = .ok (.if_icmp .ge 5, 3) := by decide +kernel
theorem dX3_hasLesserStopAboard_27 : decode cX3_hasLesserStopAboard 27 = .ok (.iconst 1, 1) := by decide +kernel
theorem dX3_hasLesserStopAboard_28 : decode cX3_hasLesserStopAboard 28 = .ok (.ireturn, 1) := by decide +kernel
theorem dX3_hasLesserStopAboard_29 : decode cX3_hasLesserStopAboard 29 = .ok (.iinc 2 1, 3) := by decide +kernel
theorem dX3_hasLesserStopAboard_32 : decode cX3_hasLesserStopAboard 32 = .ok (.goto (-30), 3) := by decide +kernel
theorem dX3_hasLesserStopAboard_35 : decode cX3_hasLesserStopAboard 35 = .ok (.iconst 0, 1) := by decide +kernel
theorem dX3_hasLesserStopAboard_36 : decode cX3_hasLesserStopAboard 36 = .ok (.ireturn, 1) := by decide +kernel
set_option maxRecDepth 20000 in
theorem ggX3_isBarred_X3_palletNumbered : GoodIn wsX3_isBarred wsX3_palletNumbered := goodIn_ca (goodIn_r _ [8, 9, 10, 11, 12, 13, 7, 14, 15, 16, 17, 18, 19, 20, 21, 22, 23, 24, 25, 26] (by decide +kernel) (by decide +kernel)) (goodIn_sub (fun _ h => List.mem_cons_of_mem _ (List.mem_append_right _ h)) (by decide +kernel))
set_option maxRecDepth 20000 in
theorem gX3_isBarred_X3_palletNumbered : GoodIn wsX3_isBarred (wsV RX3 134 RX3 yX3_palletNumbered wsX3_palletNumbered) := goodIn_app (goodIn_of _ (by decide +kernel)) ggX3_isBarred_X3_palletNumbered
theorem dX3_isBarred_0 : decode cX3_isBarred 0 = .ok (.iconst 0, 1) := by decide +kernel
theorem dX3_isBarred_1 : decode cX3_isBarred 1 = .ok (.istore_n 2, 1) := by decide +kernel
theorem dX3_isBarred_2 : decode cX3_isBarred 2 = .ok (.iconst 0, 1) := by decide +kernel
theorem dX3_isBarred_3 : decode cX3_isBarred 3 = .ok (.istore_n 3, 1) := by decide +kernel
theorem dX3_isBarred_4 : decode cX3_isBarred 4 = .ok (.iload_n 3, 1) := by decide +kernel
theorem dX3_isBarred_5 : decode cX3_isBarred 5 = .ok (.aload_n 0, 1) := by decide +kernel
theorem dX3_isBarred_6 : decode cX3_isBarred 6 = .ok (.getfield 32, 3) := by decide +kernel
theorem dX3_isBarred_9 : decode cX3_isBarred 9 = .ok (.if_icmp .ge 37, 3) := by decide +kernel
theorem dX3_isBarred_12 : decode cX3_isBarred 12 = .ok (.aload_n 0, 1) := by decide +kernel
theorem dX3_isBarred_13 : decode cX3_isBarred 13 = .ok (.aload_n 0, 1) := by decide +kernel
theorem dX3_isBarred_14 : decode cX3_isBarred 14 = .ok (.getfield 21, 3) := by decide +kernel
theorem dX3_isBarred_17 : decode cX3_isBarred 17 = .ok (.iload_n 3, 1) := by decide +kernel
theorem dX3_isBarred_18 : decode cX3_isBarred 18 = .ok (.iaload, 1) := by decide +kernel
theorem dX3_isBarred_19 : decode cX3_isBarred 19 = .ok (.invokevirtual 134, 3) := by decide +kernel
theorem dX3_isBarred_22 : decode cX3_isBarred 22 = .ok (.getfield 194, 3) := by decide +kernel
theorem dX3_isBarred_25 : decode cX3_isBarred 25 = .ok (.iload_n 1, 1) := by decide +kernel
theorem dX3_isBarred_26 : decode cX3_isBarred 26 = .ok (.if_icmp .ne 8, 3) := by decide +kernel
theorem dX3_isBarred_29 : decode cX3_isBarred 29 = .ok (.iconst 1, 1) := by decide +kernel
theorem dX3_isBarred_30 : decode cX3_isBarred 30 = .ok (.istore_n 2, 1) := by decide +kernel
theorem dX3_isBarred_31 : decode cX3_isBarred 31 = .ok (.goto 9, 3) := by decide +kernel
theorem dX3_isBarred_34 : decode cX3_isBarred 34 = .ok (.iload_n 2, 1) := by decide +kernel
theorem dX3_isBarred_35 : decode cX3_isBarred 35 = .ok (.ifCond .eq 5, 3) := by decide +kernel
theorem dX3_isBarred_38 : decode cX3_isBarred 38 = .ok (.iconst 1, 1) := by decide +kernel
theorem dX3_isBarred_39 : decode cX3_isBarred 39 = .ok (.ireturn, 1) := by decide +kernel
theorem dX3_isBarred_40 : decode cX3_isBarred 40 = .ok (.iinc 3 1, 3) := by decide +kernel
theorem dX3_isBarred_43 : decode cX3_isBarred 43 = .ok (.goto (-39), 3) := by decide +kernel
theorem dX3_isBarred_46 : decode cX3_isBarred 46 = .ok (.iconst 0, 1) := by decide +kernel
theorem dX3_isBarred_47 : decode cX3_isBarred 47 = .ok (.ireturn, 1) := by decide +kernel
set_option maxRecDepth 20000 in
theorem ggX4_init_X4_held : GoodIn wsX4_init wsX4_held := goodIn_r _ [34] (by decide +kernel) (by decide +kernel)
set_option maxRecDepth 20000 in
theorem gX4_init_X4_held : GoodIn wsX4_init (va_wsS RX4 76 yX4_held wsX4_held) := goodIn_app (goodIn_of _ (by decide +kernel)) ggX4_init_X4_held
theorem dX4_init_0 : decode cX4_init 0 = .ok (.aload_n 0, 1) := by decide +kernel
theorem dX4_init_1 : decode cX4_init 1 = .ok (.invokespecial 1, 3) := by decide +kernel
theorem dX4_init_4 : decode cX4_init 4 = .ok (.aload_n 0, 1) := by decide +kernel
theorem dX4_init_5 : decode cX4_init 5 = .ok (.bipush 6, 2) := by decide +kernel
theorem dX4_init_7 : decode cX4_init 7 = .ok (.newarray .int, 2) := by decide +kernel
theorem dX4_init_9 : decode cX4_init 9 = .ok (.putfield 7, 3) := by decide +kernel
theorem dX4_init_12 : decode cX4_init 12 = .ok (.aload_n 0, 1) := by decide +kernel
theorem dX4_init_13 : decode cX4_init 13 = .ok (.bipush 6, 2) := by decide +kernel
theorem dX4_init_15 : decode cX4_init 15 = .ok (.newarray .int, 2) := by decide +kernel
theorem dX4_init_17 : decode cX4_init 17 = .ok (.putfield 13, 3) := by decide +kernel
theorem dX4_init_20 : decode cX4_init 20 = .ok (.aload_n 0, 1) := by decide +kernel
theorem dX4_init_21 : decode cX4_init 21 = .ok (.bipush 6, 2) := by decide +kernel
theorem dX4_init_23 : decode cX4_init 23 = .ok (.newarray .int, 2) := by decide +kernel
theorem dX4_init_25 : decode cX4_init 25 = .ok (.putfield 16, 3) := by decide +kernel
theorem dX4_init_28 : decode cX4_init 28 = .ok (.aload_n 0, 1) := by decide +kernel
theorem dX4_init_29 : decode cX4_init 29 = .ok (.bipush 6, 2) := by decide +kernel
theorem dX4_init_31 : decode cX4_init 31 = .ok (.newarray .int, 2) := by decide +kernel
theorem dX4_init_33 : decode cX4_init 33 = .ok (.putfield 19, 3) := by decide +kernel
theorem dX4_init_36 : decode cX4_init 36 = .ok (.aload_n 0, 1) := by decide +kernel
theorem dX4_init_37 : decode cX4_init 37 = .ok (.bipush 6, 2) := by decide +kernel
theorem dX4_init_39 : decode cX4_init 39 = .ok (.newarray .int, 2) := by decide +kernel
theorem dX4_init_41 : decode cX4_init 41 = .ok (.putfield 22, 3) := by decide +kernel
theorem dX4_init_44 : decode cX4_init 44 = .ok (.aload_n 0, 1) := by decide +kernel
theorem dX4_init_45 : decode cX4_init 45 = .ok (.bipush 6, 2) := by decide +kernel
theorem dX4_init_47 : decode cX4_init 47 = .ok (.newarray .boolean, 2) := by decide +kernel
theorem dX4_init_49 : decode cX4_init 49 = .ok (.putfield 25, 3) := by decide +kernel
theorem dX4_init_52 : decode cX4_init 52 = .ok (.aload_n 0, 1) := by decide +kernel
theorem dX4_init_53 : decode cX4_init 53 = .ok (.sipush 216, 3) := by decide +kernel
theorem dX4_init_56 : decode cX4_init 56 = .ok (.newarray .long, 2) := by decide +kernel
theorem dX4_init_58 : decode cX4_init 58 = .ok (.putfield 29, 3) := by decide +kernel
theorem dX4_init_61 : decode cX4_init 61 = .ok (.aload_n 0, 1) := by decide +kernel
theorem dX4_init_62 : decode cX4_init 62 = .ok (.sipush 216, 3) := by decide +kernel
theorem dX4_init_65 : decode cX4_init 65 = .ok (.newarray .int, 2) := by decide +kernel
theorem dX4_init_67 : decode cX4_init 67 = .ok (.putfield 33, 3) := by decide +kernel
theorem dX4_init_70 : decode cX4_init 70 = .ok (.aload_n 0, 1) := by decide +kernel
theorem dX4_init_71 : decode cX4_init 71 = .ok (.sipush 216, 3) := by decide +kernel
theorem dX4_init_74 : decode cX4_init 74 = .ok (.newarray .int, 2) := by decide +kernel
theorem dX4_init_76 : decode cX4_init 76 = .ok (.putfield 36, 3) := by decide +kernel
theorem dX4_init_79 : decode cX4_init 79 = .ok (.aload_n 0, 1) := by decide +kernel
theorem dX4_init_80 : decode cX4_init 80 = .ok (.bipush 50, 2) := by decide +kernel
theorem dX4_init_82 : decode cX4_init 82 = .ok (.putfield 39, 3) := by decide +kernel
theorem dX4_init_85 : decode cX4_init 85 = .ok (.aload_n 0, 1) := by decide +kernel
theorem dX4_init_86 : decode cX4_init 86 = .ok (.bipush 100, 2) := by decide +kernel
theorem dX4_init_88 : decode cX4_init 88 = .ok (.putfield 43, 3) := by decide +kernel
theorem dX4_init_91 : decode cX4_init 91 = .ok (.aload_n 0, 1) := by decide +kernel
theorem dX4_init_92 : decode cX4_init 92 = .ok (.sipush 10000, 3) := by decide +kernel
theorem dX4_init_95 : decode cX4_init 95 = .ok (.putfield 46, 3) := by decide +kernel
theorem dX4_init_98 : decode cX4_init 98 = .ok (.aload_n 0, 1) := by decide +kernel
theorem dX4_init_99 : decode cX4_init 99 = .ok (.bipush 8, 2) := by decide +kernel
theorem dX4_init_101 : decode cX4_init 101 = .ok (.newarray .int, 2) := by decide +kernel
theorem dX4_init_103 : decode cX4_init 103 = .ok (.putfield 49, 3) := by decide +kernel
theorem dX4_init_106 : decode cX4_init 106 = .ok (.aload_n 0, 1) := by decide +kernel
theorem dX4_init_107 : decode cX4_init 107 = .ok (.bipush 80, 2) := by decide +kernel
theorem dX4_init_109 : decode cX4_init 109 = .ok (.newarray .int, 2) := by decide +kernel
theorem dX4_init_111 : decode cX4_init 111 = .ok (.putfield 52, 3) := by decide +kernel
theorem dX4_init_114 : decode cX4_init 114 = .ok (.aload_n 0, 1) := by decide +kernel
theorem dX4_init_115 : decode cX4_init 115 = .ok (.bipush 80, 2) := by decide +kernel
theorem dX4_init_117 : decode cX4_init 117 = .ok (.newarray .int, 2) := by decide +kernel
theorem dX4_init_119 : decode cX4_init 119 = .ok (.putfield 55, 3) := by decide +kernel
theorem dX4_init_122 : decode cX4_init 122 = .ok (.aload_n 0, 1) := by decide +kernel
theorem dX4_init_123 : decode cX4_init 123 = .ok (.bipush 8, 2) := by decide +kernel
theorem dX4_init_125 : decode cX4_init 125 = .ok (.newarray .int, 2) := by decide +kernel
theorem dX4_init_127 : decode cX4_init 127 = .ok (.putfield 58, 3) := by decide +kernel
theorem dX4_init_130 : decode cX4_init 130 = .ok (.aload_n 0, 1) := by decide +kernel
theorem dX4_init_131 : decode cX4_init 131 = .ok (.bipush 8, 2) := by decide +kernel
theorem dX4_init_133 : decode cX4_init 133 = .ok (.newarray .int, 2) := by decide +kernel
theorem dX4_init_135 : decode cX4_init 135 = .ok (.putfield 61, 3) := by decide +kernel
theorem dX4_init_138 : decode cX4_init 138 = .ok (.aload_n 0, 1) := by decide +kernel
theorem dX4_init_139 : decode cX4_init 139 = .ok (.bipush 38, 2) := by decide +kernel
theorem dX4_init_141 : decode cX4_init 141 = .ok (.newarray .int, 2) := by decide +kernel
theorem dX4_init_143 : decode cX4_init 143 = .ok (.putfield 64, 3) := by decide +kernel
theorem dX4_init_146 : decode cX4_init 146 = .ok (.aload_n 0, 1) := by decide +kernel
theorem dX4_init_147 : decode cX4_init 147 = .ok (.bipush 38, 2) := by decide +kernel
theorem dX4_init_149 : decode cX4_init 149 = .ok (.newarray .int, 2) := by decide +kernel
theorem dX4_init_151 : decode cX4_init 151 = .ok (.putfield 67, 3) := by decide +kernel
theorem dX4_init_154 : decode cX4_init 154 = .ok (.aload_n 0, 1) := by decide +kernel
theorem dX4_init_155 : decode cX4_init 155 = .ok (.bipush 36, 2) := by decide +kernel
theorem dX4_init_157 : decode cX4_init 157 = .ok (.newarray .int, 2) := by decide +kernel
theorem dX4_init_159 : decode cX4_init 159 = .ok (.putfield 70, 3) := by decide +kernel
theorem dX4_init_162 : decode cX4_init 162 = .ok (.aload_n 0, 1) := by decide +kernel
theorem dX4_init_163 : decode cX4_init 163 = .ok (.bipush 36, 2) := by decide +kernel
theorem dX4_init_165 : decode cX4_init 165 = .ok (.newarray .int, 2) := by decide +kernel
theorem dX4_init_167 : decode cX4_init 167 = .ok (.putfield 73, 3) := by decide +kernel
theorem dX4_init_170 : decode cX4_init 170 = .ok (.aload_n 0, 1) := by decide +kernel
theorem dX4_init_171 : decode cX4_init 171 = .ok (.iload_n 1, 1) := by decide +kernel
theorem dX4_init_172 : decode cX4_init 172 = .ok (.invokestatic 76, 3) := by decide +kernel
theorem dX4_init_175 : decode cX4_init 175 = .ok (.putfield 80, 3) := by decide +kernel
theorem dX4_init_178 : decode cX4_init 178 = .ok (.aload_n 0, 1) := by decide +kernel
theorem dX4_init_179 : decode cX4_init 179 = .ok (.iload_n 2, 1) := by decide +kernel
theorem dX4_init_180 : decode cX4_init 180 = .ok (.invokestatic 76, 3) := by decide +kernel
theorem dX4_init_183 : decode cX4_init 183 = .ok (.putfield 83, 3) := by decide +kernel
theorem dX4_init_186 : decode cX4_init 186 = .ok (.aload_n 0, 1) := by decide +kernel
theorem dX4_init_187 : decode cX4_init 187 = .ok (.aload_n 0, 1) := by decide +kernel
theorem dX4_init_188 : decode cX4_init 188 = .ok (.getfield 80, 3) := by decide +kernel
theorem dX4_init_191 : decode cX4_init 191 = .ok (.aload_n 0, 1) := by decide +kernel
theorem dX4_init_192 : decode cX4_init 192 = .ok (.getfield 83, 3) := by decide +kernel
theorem dX4_init_195 : decode cX4_init 195 = .ok (.imul, 1) := by decide +kernel
theorem dX4_init_196 : decode cX4_init 196 = .ok (.putfield 86, 3) := by decide +kernel
theorem dX4_init_199 : decode cX4_init 199 = .ok (.return_, 1) := by decide +kernel
theorem dX4_thrown_0 : decode cX4_thrown 0 = .ok (.aload_n 0, 1) := by decide +kernel
theorem dX4_thrown_1 : decode cX4_thrown 1 = .ok (.getfield 89, 3) := by decide +kernel
theorem dX4_thrown_4 : decode cX4_thrown 4 = .ok (.ireturn, 1) := by decide +kernel
theorem dX4_held_0 : decode cX4_held 0 = .ok (.iload_n 0, 1) := by decide +kernel
theorem dX4_held_1 : decode cX4_held 1 = .ok (.iconst 1, 1) := by decide +kernel
theorem dX4_held_2 : decode cX4_held 2 = .ok (.if_icmp .ge 7, 3) := by decide +kernel
theorem dX4_held_5 : decode cX4_held 5 = .ok (.iconst 1, 1) := by decide +kernel
theorem dX4_held_6 : decode cX4_held 6 = .ok (.goto 15, 3) := by decide +kernel
theorem dX4_held_9 : decode cX4_held 9 = .ok (.iload_n 0, 1) := by decide +kernel
theorem dX4_held_10 : decode cX4_held 10 = .ok (.bipush 6, 2) := by decide +kernel
theorem dX4_held_12 : decode cX4_held 12 = .ok (.if_icmp .le 8, 3) := by decide +kernel
theorem dX4_held_15 : decode cX4_held 15 = .ok (.bipush 6, 2) := by decide +kernel
theorem dX4_held_17 : decode cX4_held 17 = .ok (.goto 4, 3) := by decide +kernel
theorem dX4_held_20 : decode cX4_held 20 = .ok (.iload_n 0, 1) := by decide +kernel
theorem dX4_held_21 : decode cX4_held 21 = .ok (.ireturn, 1) := by decide +kernel
theorem dX4_within_0 : decode cX4_within 0 = .ok (.iload_n 0, 1) := by decide +kernel
theorem dX4_within_1 : decode cX4_within 1 = .ok (.iload_n 1, 1) := by decide +kernel
theorem dX4_within_2 : decode cX4_within 2 = .ok (.if_icmp .lt 12, 3) := by decide +kernel
theorem dX4_within_5 : decode cX4_within 5 = .ok (.iload_n 0, 1) := by decide +kernel
theorem dX4_within_6 : decode cX4_within 6 = .ok (.iload_n 2, 1) := by decide +kernel
theorem dX4_within_7 : decode cX4_within 7 = .ok (.if_icmp .gt 7, 3) := by decide +kernel
theorem dX4_within_10 : decode cX4_within 10 = .ok (.iconst 1, 1) := by decide +kernel
theorem dX4_within_11 : decode cX4_within 11 = .ok (.goto 4, 3) := by decide +kernel
theorem dX4_within_14 : decode cX4_within 14 = .ok (.iconst 0, 1) := by decide +kernel
theorem dX4_within_15 : decode cX4_within 15 = .ok (.ireturn, 1) := by decide +kernel
set_option maxRecDepth 20000 in
theorem ggX4_isKind_X4_within : GoodIn wsX4_isKind wsX4_within := goodIn_r _ [5] (by decide +kernel) (by decide +kernel)
set_option maxRecDepth 20000 in
theorem gX4_isKind_X4_within : GoodIn wsX4_isKind (va_wsS RX4 95 yX4_within wsX4_within) := goodIn_app (goodIn_of _ (by decide +kernel)) ggX4_isKind_X4_within
theorem dX4_isKind_0 : decode cX4_isKind 0 = .ok (.iload_n 1, 1) := by decide +kernel
theorem dX4_isKind_1 : decode cX4_isKind 1 = .ok (.iconst 0, 1) := by decide +kernel
theorem dX4_isKind_2 : decode cX4_isKind 2 = .ok (.aload_n 0, 1) := by decide +kernel
theorem dX4_isKind_3 : decode cX4_isKind 3 = .ok (.getfield 92, 3) := by decide +kernel
theorem dX4_isKind_6 : decode cX4_isKind 6 = .ok (.iconst 1, 1) := by decide +kernel
theorem dX4_isKind_7 : decode cX4_isKind 7 = .ok (.isub, 1) := by decide +kernel
theorem dX4_isKind_8 : decode cX4_isKind 8 = .ok (.invokestatic 95, 3) := by decide +kernel
theorem dX4_isKind_11 : decode cX4_isKind 11 = .ok (.ireturn, 1) := by decide +kernel
set_option maxRecDepth 20000 in
theorem ggX4_isPallet_X4_within : GoodIn wsX4_isPallet wsX4_within := goodIn_r _ [5] (by decide +kernel) (by decide +kernel)
set_option maxRecDepth 20000 in
theorem gX4_isPallet_X4_within : GoodIn wsX4_isPallet (va_wsS RX4 95 yX4_within wsX4_within) := goodIn_app (goodIn_of _ (by decide +kernel)) ggX4_isPallet_X4_within
theorem dX4_isPallet_0 : decode cX4_isPallet 0 = .ok (.iload_n 1, 1) := by decide +kernel
theorem dX4_isPallet_1 : decode cX4_isPallet 1 = .ok (.iconst 0, 1) := by decide +kernel
theorem dX4_isPallet_2 : decode cX4_isPallet 2 = .ok (.aload_n 0, 1) := by decide +kernel
theorem dX4_isPallet_3 : decode cX4_isPallet 3 = .ok (.getfield 99, 3) := by decide +kernel
theorem dX4_isPallet_6 : decode cX4_isPallet 6 = .ok (.iconst 1, 1) := by decide +kernel
theorem dX4_isPallet_7 : decode cX4_isPallet 7 = .ok (.isub, 1) := by decide +kernel
theorem dX4_isPallet_8 : decode cX4_isPallet 8 = .ok (.invokestatic 95, 3) := by decide +kernel
theorem dX4_isPallet_11 : decode cX4_isPallet 11 = .ok (.ireturn, 1) := by decide +kernel
set_option maxRecDepth 20000 in
theorem ggX4_kind_X4_within : GoodIn wsX4_kind wsX4_within := goodIn_r _ [10] (by decide +kernel) (by decide +kernel)
set_option maxRecDepth 20000 in
theorem gX4_kind_X4_within : GoodIn wsX4_kind (va_wsS RX4 95 yX4_within wsX4_within) := goodIn_app (goodIn_of _ (by decide +kernel)) ggX4_kind_X4_within
theorem dX4_kind_0 : decode cX4_kind 0 = .ok (.iload_n 1, 1) := by decide +kernel
theorem dX4_kind_1 : decode cX4_kind 1 = .ok (.iconst 1, 1) := by decide +kernel
theorem dX4_kind_2 : decode cX4_kind 2 = .ok (.bipush 6, 2) := by decide +kernel
theorem dX4_kind_4 : decode cX4_kind 4 = .ok (.invokestatic 95, 3) := by decide +kernel
theorem dX4_kind_7 : decode cX4_kind 7 = .ok (.ifCond .eq 38, 3) := by decide +kernel
theorem dX4_kind_10 : decode cX4_kind 10 = .ok (.iload_n 2, 1) := by decide +kernel
theorem dX4_kind_11 : decode cX4_kind 11 = .ok (.iconst 1, 1) := by decide +kernel
theorem dX4_kind_12 : decode cX4_kind 12 = .ok (.bipush 6, 2) := by decide +kernel
theorem dX4_kind_14 : decode cX4_kind 14 = .ok (.invokestatic 95, 3) := by decide +kernel
theorem dX4_kind_17 : decode cX4_kind 17 = .ok (.ifCond .eq 28, 3) := by decide +kernel
theorem dX4_kind_20 : decode cX4_kind 20 = .ok (.iload_n 3, 1) := by decide +kernel
theorem dX4_kind_21 : decode cX4_kind 21 = .ok (.iconst 1, 1) := by decide +kernel
theorem dX4_kind_22 : decode cX4_kind 22 = .ok (.bipush 6, 2) := by decide +kernel
theorem dX4_kind_24 : decode cX4_kind 24 = .ok (.invokestatic 95, 3) := by decide +kernel
theorem dX4_kind_27 : decode cX4_kind 27 = .ok (.ifCond .eq 18, 3) := by decide +kernel
theorem dX4_kind_30 : decode cX4_kind 30 = .ok (.iload 4, 2) := by decide +kernel
theorem dX4_kind_32 : decode cX4_kind 32 = .ok (.iconst 0, 1) := by decide +kernel
theorem dX4_kind_33 : decode cX4_kind 33 = .ok (.bipush 100, 2) := by decide +kernel
theorem dX4_kind_35 : decode cX4_kind 35 = .ok (.invokestatic 95, 3) := by decide +kernel
theorem dX4_kind_38 : decode cX4_kind 38 = .ok (.ifCond .eq 7, 3) := by decide +kernel
theorem dX4_kind_41 : decode cX4_kind 41 = .ok (.iconst 1, 1) := by decide +kernel
theorem dX4_kind_42 : decode cX4_kind 42 = .ok (.goto 4, 3) := by decide +kernel
theorem dX4_kind_45 : decode cX4_kind 45 = .ok (.iconst 0, 1) := by decide +kernel
theorem dX4_kind_46 : decode cX4_kind 46 = .ok (.istore 5, 2) := by decide +kernel
theorem dX4_kind_48 : decode cX4_kind 48 = .ok (.aload_n 0, 1) := by decide +kernel
theorem dX4_kind_49 : decode cX4_kind 49 = .ok (.iload 5, 2) := by decide +kernel
theorem dX4_kind_51 : decode cX4_kind 51 = .ok (.ifCond .ne 7, 3) := by decide +kernel
theorem dX4_kind_54 : decode cX4_kind 54 = .ok (.iconst 1, 1) := by decide +kernel
theorem dX4_kind_55 : decode cX4_kind 55 = .ok (.goto 17, 3) := by decide +kernel
theorem dX4_kind_58 : decode cX4_kind 58 = .ok (.aload_n 0, 1) := by decide +kernel
theorem dX4_kind_59 : decode cX4_kind 59 = .ok (.getfield 92, 3) := by decide +kernel
theorem dX4_kind_62 : decode cX4_kind 62 = .ok (.bipush 6, 2) := by decide +kernel
theorem dX4_kind_64 : decode cX4_kind 64 = .ok (.if_icmp .ne 7, 3) := by decide +kernel
theorem dX4_kind_67 : decode cX4_kind 67 = .ok (.iconst 2, 1) := by decide +kernel
theorem dX4_kind_68 : decode cX4_kind 68 = .ok (.goto 4, 3) := by decide +kernel
theorem dX4_kind_71 : decode cX4_kind 71 = .ok (.iconst 0, 1) := by decide +kernel
theorem dX4_kind_72 : decode cX4_kind 72 = .ok (.putfield 89, 3) := by decide +kernel
theorem dX4_kind_75 : decode cX4_kind 75 = .ok (.aload_n 0, 1) := by decide +kernel
theorem dX4_kind_76 : decode cX4_kind 76 = .ok (.getfield 89, 3) := by decide +kernel
theorem dX4_kind_79 : decode cX4_kind 79 = .ok (.ifCond .eq 5, 3) := by decide +kernel
theorem dX4_kind_82 : decode cX4_kind 82 = .ok (.iconst 0, 1) := by decide +kernel
theorem dX4_kind_83 : decode cX4_kind 83 = .ok (.ireturn, 1) := by decide +kernel
theorem dX4_kind_84 : decode cX4_kind 84 = .ok (.aload_n 0, 1) := by decide +kernel
theorem dX4_kind_85 : decode cX4_kind 85 = .ok (.getfield 7, 3) := by decide +kernel
theorem dX4_kind_88 : decode cX4_kind 88 = .ok (.aload_n 0, 1) := by decide +kernel
theorem dX4_kind_89 : decode cX4_kind 89 = .ok (.getfield 92, 3) := by decide +kernel
theorem dX4_kind_92 : decode cX4_kind 92 = .ok (.iload_n 1, 1) := by decide +kernel
theorem dX4_kind_93 : decode cX4_kind 93 = .ok (.iastore, 1) := by decide +kernel
theorem dX4_kind_94 : decode cX4_kind 94 = .ok (.aload_n 0, 1) := by decide +kernel
theorem dX4_kind_95 : decode cX4_kind 95 = .ok (.getfield 13, 3) := by decide +kernel
theorem dX4_kind_98 : decode cX4_kind 98 = .ok (.aload_n 0, 1) := by decide +kernel
theorem dX4_kind_99 : decode cX4_kind 99 = .ok (.getfield 92, 3) := by decide +kernel
theorem dX4_kind_102 : decode cX4_kind 102 = .ok (.iload_n 2, 1) := by decide +kernel
theorem dX4_kind_103 : decode cX4_kind 103 = .ok (.iastore, 1) := by decide +kernel
theorem dX4_kind_104 : decode cX4_kind 104 = .ok (.aload_n 0, 1) := by decide +kernel
theorem dX4_kind_105 : decode cX4_kind 105 = .ok (.getfield 16, 3) := by decide +kernel
theorem dX4_kind_108 : decode cX4_kind 108 = .ok (.aload_n 0, 1) := by decide +kernel
theorem dX4_kind_109 : decode cX4_kind 109 = .ok (.getfield 92, 3) := by decide +kernel
theorem dX4_kind_112 : decode cX4_kind 112 = .ok (.iload_n 3, 1) := by decide +kernel
theorem dX4_kind_113 : decode cX4_kind 113 = .ok (.iastore, 1) := by decide +kernel
theorem dX4_kind_114 : decode cX4_kind 114 = .ok (.aload_n 0, 1) := by decide +kernel
theorem dX4_kind_115 : decode cX4_kind 115 = .ok (.getfield 19, 3) := by decide +kernel
theorem dX4_kind_118 : decode cX4_kind 118 = .ok (.aload_n 0, 1) := by decide +kernel
theorem dX4_kind_119 : decode cX4_kind 119 = .ok (.getfield 92, 3) := by decide +kernel
theorem dX4_kind_122 : decode cX4_kind 122 = .ok (.iload 4, 2) := by decide +kernel
theorem dX4_kind_124 : decode cX4_kind 124 = .ok (.iastore, 1) := by decide +kernel
theorem dX4_kind_125 : decode cX4_kind 125 = .ok (.aload_n 0, 1) := by decide +kernel
theorem dX4_kind_126 : decode cX4_kind 126 = .ok (.dup, 1) := by decide +kernel
theorem dX4_kind_127 : decode cX4_kind 127 = .ok (.getfield 92, 3) := by decide +kernel
theorem dX4_kind_130 : decode cX4_kind 130 = .ok (.iconst 1, 1) := by decide +kernel
theorem dX4_kind_131 : decode cX4_kind 131 = .ok (.iadd, 1) := by decide +kernel
theorem dX4_kind_132 : decode cX4_kind 132 = .ok (.putfield 92, 3) := by decide +kernel
theorem dX4_kind_135 : decode cX4_kind 135 = .ok (.aload_n 0, 1) := by decide +kernel
theorem dX4_kind_136 : decode cX4_kind 136 = .ok (.getfield 92, 3) := by decide +kernel
theorem dX4_kind_139 : decode cX4_kind 139 = .ok (.iconst 1, 1) := by decide +kernel
theorem dX4_kind_140 : decode cX4_kind 140 = .ok (.isub, 1) := by decide +kernel
theorem dX4_kind_141 : decode cX4_kind 141 = .ok (.ireturn, 1) := by decide +kernel
theorem dX4_areaOf_0 : decode cX4_areaOf 0 = .ok (.aload_n 0, 1) := by decide +kernel
theorem dX4_areaOf_1 : decode cX4_areaOf 1 = .ok (.getfield 7, 3) := by decide +kernel
theorem dX4_areaOf_4 : decode cX4_areaOf 4 = .ok (.iload_n 1, 1) := by decide +kernel
theorem dX4_areaOf_5 : decode cX4_areaOf 5 = .ok (.iaload, 1) := by decide +kernel
theorem dX4_areaOf_6 : decode cX4_areaOf 6 = .ok (.aload_n 0, 1) := by decide +kernel
theorem dX4_areaOf_7 : decode cX4_areaOf 7 = .ok (.getfield 13, 3) := by decide +kernel
theorem dX4_areaOf_10 : decode cX4_areaOf 10 = .ok (.iload_n 1, 1) := by decide +kernel
theorem dX4_areaOf_11 : decode cX4_areaOf 11 = .ok (.iaload, 1) := by decide +kernel
theorem dX4_areaOf_12 : decode cX4_areaOf 12 = .ok (.imul, 1) := by decide +kernel
theorem dX4_areaOf_13 : decode cX4_areaOf 13 = .ok (.ireturn, 1) := by decide +kernel
theorem dX4_cellsOf_0 : decode cX4_cellsOf 0 = .ok (.iload_n 3, 1) := by decide +kernel
theorem dX4_cellsOf_1 : decode cX4_cellsOf 1 = .ok (.ifCond .ne 12, 3) := by decide +kernel
theorem dX4_cellsOf_4 : decode cX4_cellsOf 4 = .ok (.aload_n 0, 1) := by decide +kernel
theorem dX4_cellsOf_5 : decode cX4_cellsOf 5 = .ok (.getfield 7, 3) := by decide +kernel
theorem dX4_cellsOf_8 : decode cX4_cellsOf 8 = .ok (.iload_n 1, 1) := by decide +kernel
theorem dX4_cellsOf_9 : decode cX4_cellsOf 9 = .ok (.iaload, 1) := by decide +kernel
theorem dX4_cellsOf_10 : decode cX4_cellsOf 10 = .ok (.goto 9, 3) := by decide +kernel
theorem dX4_cellsOf_13 : decode cX4_cellsOf 13 = .ok (.aload_n 0, 1) := by decide +kernel
theorem dX4_cellsOf_14 : decode cX4_cellsOf 14 = .ok (.getfield 13, 3) := by decide +kernel
theorem dX4_cellsOf_17 : decode cX4_cellsOf 17 = .ok (.iload_n 1, 1) := by decide +kernel
theorem dX4_cellsOf_18 : decode cX4_cellsOf 18 = .ok (.iaload, 1) := by decide +kernel
theorem dX4_cellsOf_19 : decode cX4_cellsOf 19 = .ok (.istore 4, 2) := by decide +kernel
theorem dX4_cellsOf_21 : decode cX4_cellsOf 21 = .ok (.iload_n 3, 1) := by decide +kernel
theorem dX4_cellsOf_22 : decode cX4_cellsOf 22 = .ok (.ifCond .ne 12, 3) := by decide +kernel
theorem dX4_cellsOf_25 : decode cX4_cellsOf 25 = .ok (.aload_n 0, 1) := by decide +kernel
theorem dX4_cellsOf_26 : decode cX4_cellsOf 26 = .ok (.getfield 13, 3) := by decide +kernel
theorem dX4_cellsOf_29 : decode cX4_cellsOf 29 = .ok (.iload_n 1, 1) := by decide +kernel
theorem dX4_cellsOf_30 : decode cX4_cellsOf 30 = .ok (.iaload, 1) := by decide +kernel
theorem dX4_cellsOf_31 : decode cX4_cellsOf 31 = .ok (.goto 9, 3) := by decide +kernel
theorem dX4_cellsOf_34 : decode cX4_cellsOf 34 = .ok (.aload_n 0, 1) := by decide +kernel
theorem dX4_cellsOf_35 : decode cX4_cellsOf 35 = .ok (.getfield 7, 3) := by decide +kernel
theorem dX4_cellsOf_38 : decode cX4_cellsOf 38 = .ok (.iload_n 1, 1) := by decide +kernel
theorem dX4_cellsOf_39 : decode cX4_cellsOf 39 = .ok (.iaload, 1) := by decide +kernel
theorem dX4_cellsOf_40 : decode cX4_cellsOf 40 = .ok (.istore 5, 2) := by decide +kernel
theorem dX4_cellsOf_42 : decode cX4_cellsOf 42 = .ok (.iload_n 2, 1) := by decide +kernel
theorem dX4_cellsOf_43 : decode cX4_cellsOf 43 = .ok (.aload_n 0, 1) := by decide +kernel
theorem dX4_cellsOf_44 : decode cX4_cellsOf 44 = .ok (.getfield 80, 3) := by decide +kernel
theorem dX4_cellsOf_47 : decode cX4_cellsOf 47 = .ok (.irem, 1) := by decide +kernel
theorem dX4_cellsOf_48 : decode cX4_cellsOf 48 = .ok (.istore 6, 2) := by decide +kernel
theorem dX4_cellsOf_50 : decode cX4_cellsOf 50 = .ok (.iload_n 2, 1) := by decide +kernel
theorem dX4_cellsOf_51 : decode cX4_cellsOf 51 = .ok (.aload_n 0, 1) := by decide +kernel
theorem dX4_cellsOf_52 : decode cX4_cellsOf 52 = .ok (.getfield 80, 3) := by decide +kernel
theorem dX4_cellsOf_55 : decode cX4_cellsOf 55 = .ok (.idiv, 1) := by decide +kernel
theorem dX4_cellsOf_56 : decode cX4_cellsOf 56 = .ok (.istore 7, 2) := by decide +kernel
theorem dX4_cellsOf_58 : decode cX4_cellsOf 58 = .ok (.iload 6, 2) := by decide +kernel
theorem dX4_cellsOf_60 : decode cX4_cellsOf 60 = .ok (.iload 4, 2) := by decide +kernel
theorem dX4_cellsOf_62 : decode cX4_cellsOf 62 = .ok (.iadd, 1) := by decide +kernel
theorem dX4_cellsOf_63 : decode cX4_cellsOf 63 = .ok (.aload_n 0, 1) := by decide +kernel
theorem dX4_cellsOf_64 : decode cX4_cellsOf 64 = .ok (.getfield 80, 3) := by decide +kernel
theorem dX4_cellsOf_67 : decode cX4_cellsOf 67 = .ok (.if_icmp .gt 15, 3) := by decide +kernel
theorem dX4_cellsOf_70 : decode cX4_cellsOf 70 = .ok (.iload 7, 2) := by decide +kernel
theorem dX4_cellsOf_72 : decode cX4_cellsOf 72 = .ok (.iload 5, 2) := by decide +kernel
theorem dX4_cellsOf_74 : decode cX4_cellsOf 74 = .ok (.iadd, 1) := by decide +kernel
theorem dX4_cellsOf_75 : decode cX4_cellsOf 75 = .ok (.aload_n 0, 1) := by decide +kernel
theorem dX4_cellsOf_76 : decode cX4_cellsOf 76 = .ok (.getfield 83, 3) := by decide +kernel
theorem dX4_cellsOf_79 : decode cX4_cellsOf 79 = .ok (.if_icmp .le 5, 3) := by decide +kernel
theorem dX4_cellsOf_82 : decode cX4_cellsOf 82 = .ok (.lconst 0, 1) := by decide +kernel
theorem dX4_cellsOf_83 : decode cX4_cellsOf 83 = .ok (.lreturn, 1) := by decide +kernel
theorem dX4_cellsOf_84 : decode cX4_cellsOf 84 = .ok (.lconst 1, 1) := by decide +kernel
theorem dX4_cellsOf_85 : decode cX4_cellsOf 85 = .ok (.iload 4, 2) := by decide +kernel
theorem dX4_cellsOf_87 : decode cX4_cellsOf 87 = .ok (.lshl, 1) := by decide +kernel
theorem dX4_cellsOf_88 : decode cX4_cellsOf 88 = .ok (.lconst 1, 1) := by decide +kernel
theorem dX4_cellsOf_89 : decode cX4_cellsOf 89 = .ok (.lsub, 1) := by decide +kernel
theorem dX4_cellsOf_90 : decode cX4_cellsOf 90 = .ok (.iload 6, 2) := by decide +kernel
theorem dX4_cellsOf_92 : decode cX4_cellsOf 92 = .ok (.lshl, 1) := by decide +kernel
theorem dX4_cellsOf_93 : decode cX4_cellsOf 93 = .ok (.lstore 8, 2) := by decide +kernel
theorem dX4_cellsOf_95 : decode cX4_cellsOf 95 = .ok (.lconst 0, 1) := by decide +kernel
theorem dX4_cellsOf_96 : decode cX4_cellsOf 96 = .ok (.lstore 10, 2) := by decide +kernel
theorem dX4_cellsOf_98 : decode cX4_cellsOf 98 = .ok (.iload 7, 2) := by decide +kernel
theorem dX4_cellsOf_100 : decode cX4_cellsOf 100 = .ok (.istore 12, 2) := by decide +kernel
theorem dX4_cellsOf_102 : decode cX4_cellsOf 102 = .ok (.iload 12, 2) := by decide +kernel
theorem dX4_cellsOf_104 : decode cX4_cellsOf 104 = .ok (.iload 7, 2) := by decide +kernel
theorem dX4_cellsOf_106 : decode cX4_cellsOf 106 = .ok (.iload 5, 2) := by decide +kernel
theorem dX4_cellsOf_108 : decode cX4_cellsOf 108 = .ok (.iadd, 1) := by decide +kernel
theorem dX4_cellsOf_109 : decode cX4_cellsOf 109 = .ok (.if_icmp .ge 24, 3) := by decide +kernel
theorem dX4_cellsOf_112 : decode cX4_cellsOf 112 = .ok (.lload 10, 2) := by decide +kernel
theorem dX4_cellsOf_114 : decode cX4_cellsOf 114 = .ok (.lload 8, 2) := by decide +kernel
theorem dX4_cellsOf_116 : decode cX4_cellsOf 116 = .ok (.aload_n 0, 1) := by decide +kernel
theorem dX4_cellsOf_117 : decode cX4_cellsOf 117 = .ok (.getfield 80, 3) := by decide +kernel
theorem dX4_cellsOf_120 : decode cX4_cellsOf 120 = .ok (.iload 12, 2) := by decide +kernel
theorem dX4_cellsOf_122 : decode cX4_cellsOf 122 = .ok (.imul, 1) := by decide +kernel
theorem dX4_cellsOf_123 : decode cX4_cellsOf 123 = .ok (.lshl, 1) := by decide +kernel
theorem dX4_cellsOf_124 : decode cX4_cellsOf 124 = .ok (.lor, 1) := by decide +kernel
theorem dX4_cellsOf_125 : decode cX4_cellsOf 125 = .ok (.lstore 10, 2) := by decide +kernel
theorem dX4_cellsOf_127 : decode cX4_cellsOf 127 = .ok (.iinc 12 1, 3) := by decide +kernel
theorem dX4_cellsOf_130 : decode cX4_cellsOf 130 = .ok (.goto (-28), 3) := by decide +kernel
theorem dX4_cellsOf_133 : decode cX4_cellsOf 133 = .ok (.lload 10, 2) := by decide +kernel
theorem dX4_cellsOf_135 : decode cX4_cellsOf 135 = .ok (.lreturn, 1) := by decide +kernel
theorem dX4_count_0 : decode cX4_count 0 = .ok (.iconst 0, 1) := by decide +kernel
theorem dX4_count_1 : decode cX4_count 1 = .ok (.istore_n 2, 1) := by decide +kernel
theorem dX4_count_2 : decode cX4_count 2 = .ok (.lload_n 0, 1) := by decide +kernel
theorem dX4_count_3 : decode cX4_count 3 = .ok (.lstore_n 3, 1) := by decide +kernel
theorem dX4_count_4 : decode cX4_count 4 = .ok (.lload_n 3, 1) := by decide +kernel
theorem dX4_count_5 : decode cX4_count 5 = .ok (.lconst 0, 1) := by decide +kernel
theorem dX4_count_6 : decode cX4_count 6 = .ok (.lcmp, 1) := by decide +kernel
theorem dX4_count_7 : decode cX4_count 7 = .ok (.ifCond .eq 15, 3) := by decide +kernel
theorem dX4_count_10 : decode cX4_count 10 = .ok (.iinc 2 1, 3) := by decide +kernel
theorem dX4_count_13 : decode cX4_count 13 = .ok (.lload_n 3, 1) := by decide +kernel
theorem dX4_count_14 : decode cX4_count 14 = .ok (.lload_n 3, 1) := by decide +kernel
theorem dX4_count_15 : decode cX4_count 15 = .ok (.lconst 1, 1) := by decide +kernel
theorem dX4_count_16 : decode cX4_count 16 = .ok (.lsub, 1) := by decide +kernel
theorem dX4_count_17 : decode cX4_count 17 = .ok (.land, 1) := by decide +kernel
theorem dX4_count_18 : decode cX4_count 18 = .ok (.lstore_n 3, 1) := by decide +kernel
theorem dX4_count_19 : decode cX4_count 19 = .ok (.goto (-15), 3) := by decide +kernel
theorem dX4_count_22 : decode cX4_count 22 = .ok (.iload_n 2, 1) := by decide +kernel
theorem dX4_count_23 : decode cX4_count 23 = .ok (.ireturn, 1) := by decide +kernel
theorem dX4_firstCell_0 : decode cX4_firstCell 0 = .ok (.iconst 0, 1) := by decide +kernel
theorem dX4_firstCell_1 : decode cX4_firstCell 1 = .ok (.istore_n 1, 1) := by decide +kernel
theorem dX4_firstCell_2 : decode cX4_firstCell 2 = .ok (.iload_n 1, 1) := by decide +kernel
theorem dX4_firstCell_3 : decode cX4_firstCell 3 = .ok (.aload_n 0, 1) := by decide +kernel
theorem dX4_firstCell_4 : decode cX4_firstCell 4 = .ok (.getfield 86, 3) := by decide +kernel
theorem dX4_firstCell_7 : decode cX4_firstCell 7 = .ok (.if_icmp .ge 27, 3) := by decide +kernel
theorem dX4_firstCell_10 : decode cX4_firstCell 10 = .ok (.aload_n 0, 1) := by decide +kernel
theorem dX4_firstCell_11 : decode cX4_firstCell 11 = .ok (.getfield 102, 3) := by decide +kernel
theorem dX4_firstCell_14 : decode cX4_firstCell 14 = .ok (.aload_n 0, 1) := by decide +kernel
theorem dX4_firstCell_15 : decode cX4_firstCell 15 = .ok (.getfield 106, 3) := by decide +kernel
theorem dX4_firstCell_18 : decode cX4_firstCell 18 = .ok (.lor, 1) := by decide +kernel
theorem dX4_firstCell_19 : decode cX4_firstCell 19 = .ok (.iload_n 1, 1) := by decide +kernel
theorem dX4_firstCell_20 : decode cX4_firstCell 20 = .ok (.lshr, 1) := by decide +kernel
theorem dX4_firstCell_21 : decode cX4_firstCell 21 = .ok (.lconst 1, 1) := by decide +kernel
theorem dX4_firstCell_22 : decode cX4_firstCell 22 = .ok (.land, 1) := by decide +kernel
theorem dX4_firstCell_23 : decode cX4_firstCell 23 = .ok (.lconst 1, 1) := by decide +kernel
theorem dX4_firstCell_24 : decode cX4_firstCell 24 = .ok (.lcmp, 1) := by decide +kernel
theorem dX4_firstCell_25 : decode cX4_firstCell 25 = .ok (.ifCond .ne 9, 3) := by decide +kernel
theorem dX4_firstCell_28 : decode cX4_firstCell 28 = .ok (.iinc 1 1, 3) := by decide +kernel
theorem dX4_firstCell_31 : decode cX4_firstCell 31 = .ok (.goto (-29), 3) := by decide +kernel
theorem dX4_firstCell_34 : decode cX4_firstCell 34 = .ok (.iload_n 1, 1) := by decide +kernel
theorem dX4_firstCell_35 : decode cX4_firstCell 35 = .ok (.ireturn, 1) := by decide +kernel
set_option maxRecDepth 20000 in
theorem ggX4_canBeBetter_X4_count : GoodIn wsX4_canBeBetter wsX4_count := goodIn_r _ [9] (by decide +kernel) (by decide +kernel)
set_option maxRecDepth 20000 in
theorem gX4_canBeBetter_X4_count : GoodIn wsX4_canBeBetter (va_wsS RX4 115 yX4_count wsX4_count) := goodIn_app (goodIn_of _ (by decide +kernel)) ggX4_canBeBetter_X4_count
set_option maxRecDepth 20000 in
theorem ggX4_canBeBetter_X4_areaOf : GoodIn wsX4_canBeBetter wsX4_areaOf := goodIn_ca (goodIn_r _ [13, 14, 15, 16, 17, 18, 19, 20, 21, 22, 23, 24, 25, 26, 27, 28, 29, 30, 31, 32, 33, 34, 35, 36, 37, 38, 39, 40, 41, 42, 43, 44, 45, 46, 47, 48] (by decide +kernel) (by decide +kernel)) (goodIn_sub (fun _ h => List.mem_cons_of_mem _ (List.mem_append_right _ h)) (by decide +kernel))
set_option maxRecDepth 20000 in
theorem gX4_canBeBetter_X4_areaOf : GoodIn wsX4_canBeBetter (wsV RX4 119 RX4 yX4_areaOf wsX4_areaOf) := goodIn_app (goodIn_of _ (by decide +kernel)) ggX4_canBeBetter_X4_areaOf
theorem dX4_canBeBetter_0 : decode cX4_canBeBetter 0 = .ok (.aload_n 0, 1) := by decide +kernel
theorem dX4_canBeBetter_1 : decode cX4_canBeBetter 1 = .ok (.getfield 109, 3) := by decide +kernel
theorem dX4_canBeBetter_4 : decode cX4_canBeBetter 4 = .ok (.iconst (-1), 1) := by decide +kernel
theorem dX4_canBeBetter_5 : decode cX4_canBeBetter 5 = .ok (.if_icmp .eq 38, 3) := by decide +kernel
theorem dX4_canBeBetter_8 : decode cX4_canBeBetter 8 = .ok (.aload_n 0, 1) := by decide +kernel
theorem dX4_canBeBetter_9 : decode cX4_canBeBetter 9 = .ok (.getfield 112, 3) := by decide +kernel
theorem dX4_canBeBetter_12 : decode cX4_canBeBetter 12 = .ok (.aload_n 0, 1) := by decide +kernel
theorem dX4_canBeBetter_13 : decode cX4_canBeBetter 13 = .ok (.getfield 86, 3) := by decide +kernel
theorem dX4_canBeBetter_16 : decode cX4_canBeBetter 16 = .ok (.aload_n 0, 1) := by decide +kernel
theorem dX4_canBeBetter_17 : decode cX4_canBeBetter 17 = .ok (.getfield 102, 3) := by decide +kernel
theorem dX4_canBeBetter_20 : decode cX4_canBeBetter 20 = .ok (.aload_n 0, 1) := by decide +kernel
theorem dX4_canBeBetter_21 : decode cX4_canBeBetter 21 = .ok (.getfield 106, 3) := by decide +kernel
theorem dX4_canBeBetter_24 : decode cX4_canBeBetter 24 = .ok (.lor, 1) := by decide +kernel
theorem dX4_canBeBetter_25 : decode cX4_canBeBetter 25 = .ok (.invokestatic 115, 3) := by decide +kernel
theorem dX4_canBeBetter_28 : decode cX4_canBeBetter 28 = .ok (.isub, 1) := by decide +kernel
theorem dX4_canBeBetter_29 : decode cX4_canBeBetter 29 = .ok (.aload_n 0, 1) := by decide +kernel
theorem dX4_canBeBetter_30 : decode cX4_canBeBetter 30 = .ok (.iload_n 1, 1) := by decide +kernel
theorem dX4_canBeBetter_31 : decode cX4_canBeBetter 31 = .ok (.invokevirtual 119, 3) := by decide +kernel
theorem dX4_canBeBetter_34 : decode cX4_canBeBetter 34 = .ok (.idiv, 1) := by decide +kernel
theorem dX4_canBeBetter_35 : decode cX4_canBeBetter 35 = .ok (.iadd, 1) := by decide +kernel
theorem dX4_canBeBetter_36 : decode cX4_canBeBetter 36 = .ok (.aload_n 0, 1) := by decide +kernel
theorem dX4_canBeBetter_37 : decode cX4_canBeBetter 37 = .ok (.getfield 109, 3) := by decide +kernel
theorem dX4_canBeBetter_40 : decode cX4_canBeBetter 40 = .ok (.if_icmp .le 7, 3) := by decide +kernel
theorem dX4_canBeBetter_43 : decode cX4_canBeBetter 43 = .ok (.iconst 1, 1) := by decide +kernel
theorem dX4_canBeBetter_44 : decode cX4_canBeBetter 44 = .ok (.goto 4, 3) := by decide +kernel
theorem dX4_canBeBetter_47 : decode cX4_canBeBetter 47 = .ok (.iconst 0, 1) := by decide +kernel
theorem dX4_canBeBetter_48 : decode cX4_canBeBetter 48 = .ok (.ireturn, 1) := by decide +kernel
set_option maxRecDepth 20000 in
theorem ggX4_keepBest_X4_cellsOf : GoodIn wsX4_keepBest wsX4_cellsOf := goodIn_ca (goodIn_r _ [13, 14, 15, 16, 17, 18, 19, 20, 21, 22, 23, 24, 25, 26, 27, 28, 29, 30, 31, 32, 33, 34, 35, 36, 37, 38, 39, 40, 41, 42, 43, 44, 45, 46, 47, 48, 49, 50] (by decide +kernel) (by decide +kernel)) (goodIn_sub (fun _ h => List.mem_cons_of_mem _ (List.mem_append_right _ h)) (by decide +kernel))
set_option maxRecDepth 20000 in
theorem gX4_keepBest_X4_cellsOf : GoodIn wsX4_keepBest (wsV RX4 122 RX4 yX4_cellsOf wsX4_cellsOf) := goodIn_app (goodIn_of _ (by decide +kernel)) ggX4_keepBest_X4_cellsOf
theorem dX4_keepBest_0 : decode cX4_keepBest 0 = .ok (.aload_n 0, 1) := by decide +kernel
theorem dX4_keepBest_1 : decode cX4_keepBest 1 = .ok (.aload_n 0, 1) := by decide +kernel
theorem dX4_keepBest_2 : decode cX4_keepBest 2 = .ok (.getfield 112, 3) := by decide +kernel
theorem dX4_keepBest_5 : decode cX4_keepBest 5 = .ok (.putfield 109, 3) := by decide +kernel
theorem dX4_keepBest_8 : decode cX4_keepBest 8 = .ok (.aload_n 0, 1) := by decide +kernel
theorem dX4_keepBest_9 : decode cX4_keepBest 9 = .ok (.getfield 22, 3) := by decide +kernel
theorem dX4_keepBest_12 : decode cX4_keepBest 12 = .ok (.iload_n 1, 1) := by decide +kernel
theorem dX4_keepBest_13 : decode cX4_keepBest 13 = .ok (.aload_n 0, 1) := by decide +kernel
theorem dX4_keepBest_14 : decode cX4_keepBest 14 = .ok (.getfield 112, 3) := by decide +kernel
theorem dX4_keepBest_17 : decode cX4_keepBest 17 = .ok (.iastore, 1) := by decide +kernel
theorem dX4_keepBest_18 : decode cX4_keepBest 18 = .ok (.iconst 0, 1) := by decide +kernel
theorem dX4_keepBest_19 : decode cX4_keepBest 19 = .ok (.istore_n 2, 1) := by decide +kernel
theorem dX4_keepBest_20 : decode cX4_keepBest 20 = .ok (.iload_n 2, 1) := by decide +kernel
theorem dX4_keepBest_21 : decode cX4_keepBest 21 = .ok (.aload_n 0, 1) := by decide +kernel
theorem dX4_keepBest_22 : decode cX4_keepBest 22 = .ok (.getfield 112, 3) := by decide +kernel
theorem dX4_keepBest_25 : decode cX4_keepBest 25 = .ok (.if_icmp .ge 71, 3) := by decide +kernel
theorem dX4_keepBest_28 : decode cX4_keepBest 28 = .ok (.aload_n 0, 1) := by decide +kernel
theorem dX4_keepBest_29 : decode cX4_keepBest 29 = .ok (.getfield 33, 3) := by decide +kernel
theorem dX4_keepBest_32 : decode cX4_keepBest 32 = .ok (.bipush 36, 2) := by decide +kernel
theorem dX4_keepBest_34 : decode cX4_keepBest 34 = .ok (.iload_n 1, 1) := by decide +kernel
theorem dX4_keepBest_35 : decode cX4_keepBest 35 = .ok (.imul, 1) := by decide +kernel
theorem dX4_keepBest_36 : decode cX4_keepBest 36 = .ok (.iload_n 2, 1) := by decide +kernel
theorem dX4_keepBest_37 : decode cX4_keepBest 37 = .ok (.iadd, 1) := by decide +kernel
theorem dX4_keepBest_38 : decode cX4_keepBest 38 = .ok (.aload_n 0, 1) := by decide +kernel
theorem dX4_keepBest_39 : decode cX4_keepBest 39 = .ok (.getfield 70, 3) := by decide +kernel
theorem dX4_keepBest_42 : decode cX4_keepBest 42 = .ok (.iload_n 2, 1) := by decide +kernel
theorem dX4_keepBest_43 : decode cX4_keepBest 43 = .ok (.iaload, 1) := by decide +kernel
theorem dX4_keepBest_44 : decode cX4_keepBest 44 = .ok (.iastore, 1) := by decide +kernel
theorem dX4_keepBest_45 : decode cX4_keepBest 45 = .ok (.aload_n 0, 1) := by decide +kernel
theorem dX4_keepBest_46 : decode cX4_keepBest 46 = .ok (.getfield 36, 3) := by decide +kernel
theorem dX4_keepBest_49 : decode cX4_keepBest 49 = .ok (.bipush 36, 2) := by decide +kernel
theorem dX4_keepBest_51 : decode cX4_keepBest 51 = .ok (.iload_n 1, 1) := by decide +kernel
theorem dX4_keepBest_52 : decode cX4_keepBest 52 = .ok (.imul, 1) := by decide +kernel
theorem dX4_keepBest_53 : decode cX4_keepBest 53 = .ok (.iload_n 2, 1) := by decide +kernel
theorem dX4_keepBest_54 : decode cX4_keepBest 54 = .ok (.iadd, 1) := by decide +kernel
theorem dX4_keepBest_55 : decode cX4_keepBest 55 = .ok (.aload_n 0, 1) := by decide +kernel
theorem dX4_keepBest_56 : decode cX4_keepBest 56 = .ok (.getfield 73, 3) := by decide +kernel
theorem dX4_keepBest_59 : decode cX4_keepBest 59 = .ok (.iload_n 2, 1) := by decide +kernel
theorem dX4_keepBest_60 : decode cX4_keepBest 60 = .ok (.iaload, 1) := by decide +kernel
theorem dX4_keepBest_61 : decode cX4_keepBest 61 = .ok (.iastore, 1) := by decide +kernel
theorem dX4_keepBest_62 : decode cX4_keepBest 62 = .ok (.aload_n 0, 1) := by decide +kernel
theorem dX4_keepBest_63 : decode cX4_keepBest 63 = .ok (.getfield 29, 3) := by decide +kernel
theorem dX4_keepBest_66 : decode cX4_keepBest 66 = .ok (.bipush 36, 2) := by decide +kernel
theorem dX4_keepBest_68 : decode cX4_keepBest 68 = .ok (.iload_n 1, 1) := by decide +kernel
theorem dX4_keepBest_69 : decode cX4_keepBest 69 = .ok (.imul, 1) := by decide +kernel
theorem dX4_keepBest_70 : decode cX4_keepBest 70 = .ok (.iload_n 2, 1) := by decide +kernel
theorem dX4_keepBest_71 : decode cX4_keepBest 71 = .ok (.iadd, 1) := by decide +kernel
theorem dX4_keepBest_72 : decode cX4_keepBest 72 = .ok (.aload_n 0, 1) := by decide +kernel
theorem dX4_keepBest_73 : decode cX4_keepBest 73 = .ok (.iload_n 1, 1) := by decide +kernel
theorem dX4_keepBest_74 : decode cX4_keepBest 74 = .ok (.aload_n 0, 1) := by decide +kernel
theorem dX4_keepBest_75 : decode cX4_keepBest 75 = .ok (.getfield 70, 3) := by decide +kernel
theorem dX4_keepBest_78 : decode cX4_keepBest 78 = .ok (.iload_n 2, 1) := by decide +kernel
theorem dX4_keepBest_79 : decode cX4_keepBest 79 = .ok (.iaload, 1) := by decide +kernel
theorem dX4_keepBest_80 : decode cX4_keepBest 80 = .ok (.aload_n 0, 1) := by decide +kernel
theorem dX4_keepBest_81 : decode cX4_keepBest 81 = .ok (.getfield 73, 3) := by decide +kernel
theorem dX4_keepBest_84 : decode cX4_keepBest 84 = .ok (.iload_n 2, 1) := by decide +kernel
theorem dX4_keepBest_85 : decode cX4_keepBest 85 = .ok (.iaload, 1) := by decide +kernel
theorem dX4_keepBest_86 : decode cX4_keepBest 86 = .ok (.invokevirtual 122, 3) := by decide +kernel
theorem dX4_keepBest_89 : decode cX4_keepBest 89 = .ok (.lastore, 1) := by decide +kernel
theorem dX4_keepBest_90 : decode cX4_keepBest 90 = .ok (.iinc 2 1, 3) := by decide +kernel
theorem dX4_keepBest_93 : decode cX4_keepBest 93 = .ok (.goto (-73), 3) := by decide +kernel
theorem dX4_keepBest_96 : decode cX4_keepBest 96 = .ok (.return_, 1) := by decide +kernel
set_option maxRecDepth 20000 in
theorem ggX4_undo_X4_cellsOf : GoodIn wsX4_undo wsX4_cellsOf := goodIn_ca (goodIn_r _ [9, 10, 11, 12, 13, 14, 15, 16, 17, 18, 19, 20, 21, 22, 23, 24, 25, 26, 27, 28, 29, 30, 31, 32, 33, 34, 35, 36, 37, 38, 39, 40, 41, 42, 43, 44, 45, 46] (by decide +kernel) (by decide +kernel)) (goodIn_sub (fun _ h => List.mem_cons_of_mem _ (List.mem_append_right _ h)) (by decide +kernel))
set_option maxRecDepth 20000 in
theorem gX4_undo_X4_cellsOf : GoodIn wsX4_undo (wsV RX4 122 RX4 yX4_cellsOf wsX4_cellsOf) := goodIn_app (goodIn_of _ (by decide +kernel)) ggX4_undo_X4_cellsOf
theorem dX4_undo_0 : decode cX4_undo 0 = .ok (.iload_n 3, 1) := by decide +kernel
theorem dX4_undo_1 : decode cX4_undo 1 = .ok (.iconst 1, 1) := by decide +kernel
theorem dX4_undo_2 : decode cX4_undo 2 = .ok (.if_icmp .eq 8, 3) := by decide +kernel
theorem dX4_undo_5 : decode cX4_undo 5 = .ok (.iload_n 3, 1) := by decide +kernel
theorem dX4_undo_6 : decode cX4_undo 6 = .ok (.iconst 2, 1) := by decide +kernel
theorem dX4_undo_7 : decode cX4_undo 7 = .ok (.if_icmp .ne 38, 3) := by decide +kernel
theorem dX4_undo_10 : decode cX4_undo 10 = .ok (.aload_n 0, 1) := by decide +kernel
theorem dX4_undo_11 : decode cX4_undo 11 = .ok (.dup, 1) := by decide +kernel
theorem dX4_undo_12 : decode cX4_undo 12 = .ok (.getfield 112, 3) := by decide +kernel
theorem dX4_undo_15 : decode cX4_undo 15 = .ok (.iconst 1, 1) := by decide +kernel
theorem dX4_undo_16 : decode cX4_undo 16 = .ok (.isub, 1) := by decide +kernel
theorem dX4_undo_17 : decode cX4_undo 17 = .ok (.putfield 112, 3) := by decide +kernel
theorem dX4_undo_20 : decode cX4_undo 20 = .ok (.aload_n 0, 1) := by decide +kernel
theorem dX4_undo_21 : decode cX4_undo 21 = .ok (.dup, 1) := by decide +kernel
theorem dX4_undo_22 : decode cX4_undo 22 = .ok (.getfield 102, 3) := by decide +kernel
theorem dX4_undo_25 : decode cX4_undo 25 = .ok (.aload_n 0, 1) := by decide +kernel
theorem dX4_undo_26 : decode cX4_undo 26 = .ok (.iload_n 1, 1) := by decide +kernel
theorem dX4_undo_27 : decode cX4_undo 27 = .ok (.iload_n 2, 1) := by decide +kernel
theorem dX4_undo_28 : decode cX4_undo 28 = .ok (.iload_n 3, 1) := by decide +kernel
theorem dX4_undo_29 : decode cX4_undo 29 = .ok (.iconst 1, 1) := by decide +kernel
theorem dX4_undo_30 : decode cX4_undo 30 = .ok (.isub, 1) := by decide +kernel
theorem dX4_undo_31 : decode cX4_undo 31 = .ok (.invokevirtual 122, 3) := by decide +kernel
theorem dX4_undo_34 : decode cX4_undo 34 = .ok (.ldc2_w 126, 3) := by decide +kernel
theorem dX4_undo_37 : decode cX4_undo 37 = .ok (.lxor, 1) := by decide +kernel
theorem dX4_undo_38 : decode cX4_undo 38 = .ok (.land, 1) := by decide +kernel
theorem dX4_undo_39 : decode cX4_undo 39 = .ok (.putfield 102, 3) := by decide +kernel
theorem dX4_undo_42 : decode cX4_undo 42 = .ok (.goto 24, 3) := by decide +kernel
theorem dX4_undo_45 : decode cX4_undo 45 = .ok (.iload_n 3, 1) := by decide +kernel
theorem dX4_undo_46 : decode cX4_undo 46 = .ok (.iconst 3, 1) := by decide +kernel
theorem dX4_undo_47 : decode cX4_undo 47 = .ok (.if_icmp .ne 19, 3) := by decide +kernel
theorem dX4_undo_50 : decode cX4_undo 50 = .ok (.aload_n 0, 1) := by decide +kernel
theorem dX4_undo_51 : decode cX4_undo 51 = .ok (.dup, 1) := by decide +kernel
theorem dX4_undo_52 : decode cX4_undo 52 = .ok (.getfield 106, 3) := by decide +kernel
theorem dX4_undo_55 : decode cX4_undo 55 = .ok (.lconst 1, 1) := by decide +kernel
theorem dX4_undo_56 : decode cX4_undo 56 = .ok (.iload_n 2, 1) := by decide +kernel
theorem dX4_undo_57 : decode cX4_undo 57 = .ok (.lshl, 1) := by decide +kernel
theorem dX4_undo_58 : decode cX4_undo 58 = .ok (.ldc2_w 126, 3) := by decide +kernel
theorem dX4_undo_61 : decode cX4_undo 61 = .ok (.lxor, 1) := by decide +kernel
theorem dX4_undo_62 : decode cX4_undo 62 = .ok (.land, 1) := by decide +kernel
theorem dX4_undo_63 : decode cX4_undo 63 = .ok (.putfield 106, 3) := by decide +kernel
theorem dX4_undo_66 : decode cX4_undo 66 = .ok (.return_, 1) := by decide +kernel
set_option maxRecDepth 20000 in
theorem ggX4_canTry_X4_cellsOf : GoodIn wsX4_canTry wsX4_cellsOf := goodIn_ca (goodIn_r _ [8, 1, 2, 9, 10, 11, 12, 13, 14, 15, 16, 17, 18, 19, 20, 21, 22, 23, 24, 25, 26, 27, 28, 29, 30, 31, 32, 33, 34, 35, 36, 37, 38, 39, 40, 41, 42, 43] (by decide +kernel) (by decide +kernel)) (goodIn_sub (fun _ h => List.mem_cons_of_mem _ (List.mem_append_right _ h)) (by decide +kernel))
set_option maxRecDepth 20000 in
theorem gX4_canTry_X4_cellsOf : GoodIn wsX4_canTry (wsV RX4 122 RX4 yX4_cellsOf wsX4_cellsOf) := goodIn_app (goodIn_of _ (by decide +kernel)) ggX4_canTry_X4_cellsOf
theorem dX4_canTry_0 : decode cX4_canTry 0 = .ok (.iload_n 3, 1) := by decide +kernel
theorem dX4_canTry_1 : decode cX4_canTry 1 = .ok (.iconst 3, 1) := by decide +kernel
theorem dX4_canTry_2 : decode cX4_canTry 2 = .ok (.if_icmp .ne 5, 3) := by decide +kernel
theorem dX4_canTry_5 : decode cX4_canTry 5 = .ok (.iconst 1, 1) := by decide +kernel
theorem dX4_canTry_6 : decode cX4_canTry 6 = .ok (.ireturn, 1) := by decide +kernel
theorem dX4_canTry_7 : decode cX4_canTry 7 = .ok (.iload_n 3, 1) := by decide +kernel
theorem dX4_canTry_8 : decode cX4_canTry 8 = .ok (.iconst 2, 1) := by decide +kernel
theorem dX4_canTry_9 : decode cX4_canTry 9 = .ok (.if_icmp .ne 20, 3) := by decide +kernel
theorem dX4_canTry_12 : decode cX4_canTry 12 = .ok (.aload_n 0, 1) := by decide +kernel
theorem dX4_canTry_13 : decode cX4_canTry 13 = .ok (.getfield 7, 3) := by decide +kernel
theorem dX4_canTry_16 : decode cX4_canTry 16 = .ok (.iload_n 1, 1) := by decide +kernel
theorem dX4_canTry_17 : decode cX4_canTry 17 = .ok (.iaload, 1) := by decide +kernel
theorem dX4_canTry_18 : decode cX4_canTry 18 = .ok (.aload_n 0, 1) := by decide +kernel
theorem dX4_canTry_19 : decode cX4_canTry 19 = .ok (.getfield 13, 3) := by decide +kernel
theorem dX4_canTry_22 : decode cX4_canTry 22 = .ok (.iload_n 1, 1) := by decide +kernel
theorem dX4_canTry_23 : decode cX4_canTry 23 = .ok (.iaload, 1) := by decide +kernel
theorem dX4_canTry_24 : decode cX4_canTry 24 = .ok (.if_icmp .ne 5, 3) := by decide +kernel
theorem dX4_canTry_27 : decode cX4_canTry 27 = .ok (.iconst 0, 1) := by decide +kernel
theorem dX4_canTry_28 : decode cX4_canTry 28 = .ok (.ireturn, 1) := by decide +kernel
theorem dX4_canTry_29 : decode cX4_canTry 29 = .ok (.aload_n 0, 1) := by decide +kernel
theorem dX4_canTry_30 : decode cX4_canTry 30 = .ok (.iload_n 1, 1) := by decide +kernel
theorem dX4_canTry_31 : decode cX4_canTry 31 = .ok (.iload_n 2, 1) := by decide +kernel
theorem dX4_canTry_32 : decode cX4_canTry 32 = .ok (.iload_n 3, 1) := by decide +kernel
theorem dX4_canTry_33 : decode cX4_canTry 33 = .ok (.iconst 1, 1) := by decide +kernel
theorem dX4_canTry_34 : decode cX4_canTry 34 = .ok (.isub, 1) := by decide +kernel
theorem dX4_canTry_35 : decode cX4_canTry 35 = .ok (.invokevirtual 122, 3) := by decide +kernel
theorem dX4_canTry_38 : decode cX4_canTry 38 = .ok (.lstore 4, 2) := by decide +kernel
theorem dX4_canTry_40 : decode cX4_canTry 40 = .ok (.lload 4, 2) := by decide +kernel
theorem dX4_canTry_42 : decode cX4_canTry 42 = .ok (.lconst 0, 1) := by decide +kernel
theorem dX4_canTry_43 : decode cX4_canTry 43 = .ok (.lcmp, 1) := by decide +kernel
theorem dX4_canTry_44 : decode cX4_canTry 44 = .ok (.ifCond .eq 19, 3) := by decide +kernel
theorem dX4_canTry_47 : decode cX4_canTry 47 = .ok (.lload 4, 2) := by decide +kernel
theorem dX4_canTry_49 : decode cX4_canTry 49 = .ok (.aload_n 0, 1) := by decide +kernel
theorem dX4_canTry_50 : decode cX4_canTry 50 = .ok (.getfield 102, 3) := by decide +kernel
theorem dX4_canTry_53 : decode cX4_canTry 53 = .ok (.land, 1) := by decide +kernel
theorem dX4_canTry_54 : decode cX4_canTry 54 = .ok (.lconst 0, 1) := by decide +kernel
theorem dX4_canTry_55 : decode cX4_canTry 55 = .ok (.lcmp, 1) := by decide +kernel
theorem dX4_canTry_56 : decode cX4_canTry 56 = .ok (.ifCond .ne 7, 3) := by decide +kernel
theorem dX4_canTry_59 : decode cX4_canTry 59 = .ok (.iconst 1, 1) := by decide +kernel
theorem dX4_canTry_60 : decode cX4_canTry 60 = .ok (.goto 4, 3) := by decide +kernel
theorem dX4_canTry_63 : decode cX4_canTry 63 = .ok (.iconst 0, 1) := by decide +kernel
theorem dX4_canTry_64 : decode cX4_canTry 64 = .ok (.ireturn, 1) := by decide +kernel
set_option maxRecDepth 20000 in
theorem ggX4_tries_X4_cellsOf : GoodIn wsX4_tries wsX4_cellsOf := goodIn_ca (goodIn_r _ [10, 11, 12, 13, 14, 15, 16, 17, 18, 19, 20, 21, 22, 23, 24, 25, 26, 27, 28, 29, 30, 31, 32, 33, 34, 35, 36, 37, 38, 39, 40, 41, 42, 43, 44, 45, 46, 47] (by decide +kernel) (by decide +kernel)) (goodIn_sub (fun _ h => List.mem_cons_of_mem _ (List.mem_append_right _ h)) (by decide +kernel))
set_option maxRecDepth 20000 in
theorem gX4_tries_X4_cellsOf : GoodIn wsX4_tries (wsV RX4 122 RX4 yX4_cellsOf wsX4_cellsOf) := goodIn_app (goodIn_of _ (by decide +kernel)) ggX4_tries_X4_cellsOf
theorem dX4_tries_0 : decode cX4_tries 0 = .ok (.iload_n 3, 1) := by decide +kernel
theorem dX4_tries_1 : decode cX4_tries 1 = .ok (.iconst 3, 1) := by decide +kernel
theorem dX4_tries_2 : decode cX4_tries 2 = .ok (.if_icmp .ne 18, 3) := by decide +kernel
theorem dX4_tries_5 : decode cX4_tries 5 = .ok (.aload_n 0, 1) := by decide +kernel
theorem dX4_tries_6 : decode cX4_tries 6 = .ok (.dup, 1) := by decide +kernel
theorem dX4_tries_7 : decode cX4_tries 7 = .ok (.getfield 106, 3) := by decide +kernel
theorem dX4_tries_10 : decode cX4_tries 10 = .ok (.lconst 1, 1) := by decide +kernel
theorem dX4_tries_11 : decode cX4_tries 11 = .ok (.iload_n 2, 1) := by decide +kernel
theorem dX4_tries_12 : decode cX4_tries 12 = .ok (.lshl, 1) := by decide +kernel
theorem dX4_tries_13 : decode cX4_tries 13 = .ok (.lor, 1) := by decide +kernel
theorem dX4_tries_14 : decode cX4_tries 14 = .ok (.putfield 106, 3) := by decide +kernel
theorem dX4_tries_17 : decode cX4_tries 17 = .ok (.goto 53, 3) := by decide +kernel
theorem dX4_tries_20 : decode cX4_tries 20 = .ok (.aload_n 0, 1) := by decide +kernel
theorem dX4_tries_21 : decode cX4_tries 21 = .ok (.dup, 1) := by decide +kernel
theorem dX4_tries_22 : decode cX4_tries 22 = .ok (.getfield 102, 3) := by decide +kernel
theorem dX4_tries_25 : decode cX4_tries 25 = .ok (.aload_n 0, 1) := by decide +kernel
theorem dX4_tries_26 : decode cX4_tries 26 = .ok (.iload_n 1, 1) := by decide +kernel
theorem dX4_tries_27 : decode cX4_tries 27 = .ok (.iload_n 2, 1) := by decide +kernel
theorem dX4_tries_28 : decode cX4_tries 28 = .ok (.iload_n 3, 1) := by decide +kernel
theorem dX4_tries_29 : decode cX4_tries 29 = .ok (.iconst 1, 1) := by decide +kernel
theorem dX4_tries_30 : decode cX4_tries 30 = .ok (.isub, 1) := by decide +kernel
theorem dX4_tries_31 : decode cX4_tries 31 = .ok (.invokevirtual 122, 3) := by decide +kernel
theorem dX4_tries_34 : decode cX4_tries 34 = .ok (.lor, 1) := by decide +kernel
theorem dX4_tries_35 : decode cX4_tries 35 = .ok (.putfield 102, 3) := by decide +kernel
theorem dX4_tries_38 : decode cX4_tries 38 = .ok (.aload_n 0, 1) := by decide +kernel
theorem dX4_tries_39 : decode cX4_tries 39 = .ok (.getfield 70, 3) := by decide +kernel
theorem dX4_tries_42 : decode cX4_tries 42 = .ok (.aload_n 0, 1) := by decide +kernel
theorem dX4_tries_43 : decode cX4_tries 43 = .ok (.getfield 112, 3) := by decide +kernel
theorem dX4_tries_46 : decode cX4_tries 46 = .ok (.iload_n 2, 1) := by decide +kernel
theorem dX4_tries_47 : decode cX4_tries 47 = .ok (.iastore, 1) := by decide +kernel
theorem dX4_tries_48 : decode cX4_tries 48 = .ok (.aload_n 0, 1) := by decide +kernel
theorem dX4_tries_49 : decode cX4_tries 49 = .ok (.getfield 73, 3) := by decide +kernel
theorem dX4_tries_52 : decode cX4_tries 52 = .ok (.aload_n 0, 1) := by decide +kernel
theorem dX4_tries_53 : decode cX4_tries 53 = .ok (.getfield 112, 3) := by decide +kernel
theorem dX4_tries_56 : decode cX4_tries 56 = .ok (.iload_n 3, 1) := by decide +kernel
theorem dX4_tries_57 : decode cX4_tries 57 = .ok (.iconst 1, 1) := by decide +kernel
theorem dX4_tries_58 : decode cX4_tries 58 = .ok (.isub, 1) := by decide +kernel
theorem dX4_tries_59 : decode cX4_tries 59 = .ok (.iastore, 1) := by decide +kernel
theorem dX4_tries_60 : decode cX4_tries 60 = .ok (.aload_n 0, 1) := by decide +kernel
theorem dX4_tries_61 : decode cX4_tries 61 = .ok (.dup, 1) := by decide +kernel
theorem dX4_tries_62 : decode cX4_tries 62 = .ok (.getfield 112, 3) := by decide +kernel
theorem dX4_tries_65 : decode cX4_tries 65 = .ok (.iconst 1, 1) := by decide +kernel
theorem dX4_tries_66 : decode cX4_tries 66 = .ok (.iadd, 1) := by decide +kernel
theorem dX4_tries_67 : decode cX4_tries 67 = .ok (.putfield 112, 3) := by decide +kernel
theorem dX4_tries_70 : decode cX4_tries 70 = .ok (.return_, 1) := by decide +kernel
set_option maxRecDepth 20000 in
theorem ggX4_seek_X4_undo : GoodIn wsX4_seek wsX4_undo := goodIn_ca (goodIn_r _ [15, 3, 1, 16, 2, 17, 18, 19, 14, 20, 21, 22, 23, 24, 57, 58, 59, 60, 61, 62, 63, 64, 65, 66, 67, 68, 69, 70, 71, 72, 73, 74, 75, 76, 77, 78, 79, 80, 81, 82, 83, 84, 85, 86, 87, 88, 89] (by decide +kernel) (by decide +kernel)) (goodIn_sub (fun _ h => List.mem_cons_of_mem _ (List.mem_append_right _ h)) (by decide +kernel))
set_option maxRecDepth 20000 in
theorem gX4_seek_X4_undo : GoodIn wsX4_seek (wsV RX4 131 RX4 yX4_undo wsX4_undo) := goodIn_app (goodIn_of _ (by decide +kernel)) ggX4_seek_X4_undo
set_option maxRecDepth 20000 in
theorem ggX4_seek_X4_keepBest : GoodIn wsX4_seek wsX4_keepBest := goodIn_ca (goodIn_r _ [28, 3, 4, 7, 29, 30, 31, 32, 33, 17, 18, 19, 14, 20, 21, 22, 23, 24, 57, 58, 59, 60, 61, 62, 63, 64, 65, 66, 67, 68, 69, 70, 71, 72, 73, 74, 75, 76, 77, 78, 79, 80, 81, 82, 83, 84, 85, 86, 87, 88, 89] (by decide +kernel) (by decide +kernel)) (goodIn_sub (fun _ h => List.mem_cons_of_mem _ (List.mem_append_right _ h)) (by decide +kernel))
set_option maxRecDepth 20000 in
theorem gX4_seek_X4_keepBest : GoodIn wsX4_seek (wsV RX4 135 RX4 yX4_keepBest wsX4_keepBest) := goodIn_app (goodIn_of _ (by decide +kernel)) ggX4_seek_X4_keepBest
set_option maxRecDepth 20000 in
theorem ggX4_seek_X4_canBeBetter : GoodIn wsX4_seek wsX4_canBeBetter := goodIn_ca (goodIn_r _ [37, 4, 3, 10, 1, 2, 38, 39, 14, 40, 41, 42, 43, 44, 21, 22, 57, 58, 59, 60, 61, 62, 63, 64, 65, 66, 67, 68, 69, 70, 71, 72, 73, 74, 75, 76, 77, 78, 79, 80, 81, 82, 83, 84, 85, 86, 87, 88, 89] (by decide +kernel) (by decide +kernel)) (goodIn_sub (fun _ h => List.mem_cons_of_mem _ (List.mem_append_right _ h)) (by decide +kernel))
set_option maxRecDepth 20000 in
theorem gX4_seek_X4_canBeBetter : GoodIn wsX4_seek (wsV RX4 139 RX4 yX4_canBeBetter wsX4_canBeBetter) := goodIn_app (goodIn_of _ (by decide +kernel)) ggX4_seek_X4_canBeBetter
set_option maxRecDepth 20000 in
theorem ggX4_seek_X4_canTry : GoodIn wsX4_seek wsX4_canTry := goodIn_ca (goodIn_r _ [48, 21, 22, 1, 17, 18, 19, 14, 20, 23, 24, 57, 58, 59, 60, 61, 62, 63, 64, 65, 66, 67, 68, 69, 70, 71, 72, 73, 74, 75, 76, 77, 78, 79, 80, 81, 82, 83, 84, 85, 86, 87, 88, 89] (by decide +kernel) (by decide +kernel)) (goodIn_sub (fun _ h => List.mem_cons_of_mem _ (List.mem_append_right _ h)) (by decide +kernel))
set_option maxRecDepth 20000 in
theorem gX4_seek_X4_canTry : GoodIn wsX4_seek (wsV RX4 143 RX4 yX4_canTry wsX4_canTry) := goodIn_app (goodIn_of _ (by decide +kernel)) ggX4_seek_X4_canTry
set_option maxRecDepth 20000 in
theorem ggX4_seek_X4_tries : GoodIn wsX4_seek wsX4_tries := goodIn_ca (goodIn_r _ [52, 2, 1, 30, 3, 32, 17, 18, 19, 14, 20, 21, 22, 23, 24, 57, 58, 59, 60, 61, 62, 63, 64, 65, 66, 67, 68, 69, 70, 71, 72, 73, 74, 75, 76, 77, 78, 79, 80, 81, 82, 83, 84, 85, 86, 87, 88, 89] (by decide +kernel) (by decide +kernel)) (goodIn_sub (fun _ h => List.mem_cons_of_mem _ (List.mem_append_right _ h)) (by decide +kernel))
set_option maxRecDepth 20000 in
theorem gX4_seek_X4_tries : GoodIn wsX4_seek (wsV RX4 146 RX4 yX4_tries wsX4_tries) := goodIn_app (goodIn_of _ (by decide +kernel)) ggX4_seek_X4_tries
set_option maxRecDepth 20000 in
theorem ggX4_seek_X4_firstCell : GoodIn wsX4_seek wsX4_firstCell := goodIn_r _ [56, 10, 1, 2, 57, 58, 59, 60, 61, 62, 63, 64, 65, 66, 67, 68, 69, 70, 71, 72, 73, 74, 75, 76, 77, 78, 79, 80, 81, 82, 83, 84, 85, 86, 87, 88, 89] (by decide +kernel) (by decide +kernel)
set_option maxRecDepth 20000 in
theorem gX4_seek_X4_firstCell : GoodIn wsX4_seek (wsV RX4 149 RX4 yX4_firstCell wsX4_firstCell) := goodIn_app (goodIn_of _ (by decide +kernel)) ggX4_seek_X4_firstCell
theorem dX4_seek_0 : decode cX4_seek 0 = .ok (.aload_n 0, 1) := by decide +kernel
theorem dX4_seek_1 : decode cX4_seek 1 = .ok (.lconst 0, 1) := by decide +kernel
theorem dX4_seek_2 : decode cX4_seek 2 = .ok (.putfield 102, 3) := by decide +kernel
theorem dX4_seek_5 : decode cX4_seek 5 = .ok (.aload_n 0, 1) := by decide +kernel
theorem dX4_seek_6 : decode cX4_seek 6 = .ok (.lconst 0, 1) := by decide +kernel
theorem dX4_seek_7 : decode cX4_seek 7 = .ok (.putfield 106, 3) := by decide +kernel
theorem dX4_seek_10 : decode cX4_seek 10 = .ok (.aload_n 0, 1) := by decide +kernel
theorem dX4_seek_11 : decode cX4_seek 11 = .ok (.iconst 0, 1) := by decide +kernel
theorem dX4_seek_12 : decode cX4_seek 12 = .ok (.putfield 112, 3) := by decide +kernel
theorem dX4_seek_15 : decode cX4_seek 15 = .ok (.aload_n 0, 1) := by decide +kernel
theorem dX4_seek_16 : decode cX4_seek 16 = .ok (.iconst (-1), 1) := by decide +kernel
theorem dX4_seek_17 : decode cX4_seek 17 = .ok (.putfield 109, 3) := by decide +kernel
theorem dX4_seek_20 : decode cX4_seek 20 = .ok (.aload_n 0, 1) := by decide +kernel
theorem dX4_seek_21 : decode cX4_seek 21 = .ok (.iconst 0, 1) := by decide +kernel
theorem dX4_seek_22 : decode cX4_seek 22 = .ok (.putfield 128, 3) := by decide +kernel
theorem dX4_seek_25 : decode cX4_seek 25 = .ok (.aload_n 0, 1) := by decide +kernel
theorem dX4_seek_26 : decode cX4_seek 26 = .ok (.getfield 25, 3) := by decide +kernel
theorem dX4_seek_29 : decode cX4_seek 29 = .ok (.iload_n 1, 1) := by decide +kernel
theorem dX4_seek_30 : decode cX4_seek 30 = .ok (.iconst 1, 1) := by decide +kernel
theorem dX4_seek_31 : decode cX4_seek 31 = .ok (.bastore, 1) := by decide +kernel
theorem dX4_seek_32 : decode cX4_seek 32 = .ok (.aload_n 0, 1) := by decide +kernel
theorem dX4_seek_33 : decode cX4_seek 33 = .ok (.getfield 22, 3) := by decide +kernel
theorem dX4_seek_36 : decode cX4_seek 36 = .ok (.iload_n 1, 1) := by decide +kernel
theorem dX4_seek_37 : decode cX4_seek 37 = .ok (.iconst 0, 1) := by decide +kernel
theorem dX4_seek_38 : decode cX4_seek 38 = .ok (.iastore, 1) := by decide +kernel
theorem dX4_seek_39 : decode cX4_seek 39 = .ok (.iconst 0, 1) := by decide +kernel
theorem dX4_seek_40 : decode cX4_seek 40 = .ok (.istore_n 3, 1) := by decide +kernel
theorem dX4_seek_41 : decode cX4_seek 41 = .ok (.aload_n 0, 1) := by decide +kernel
theorem dX4_seek_42 : decode cX4_seek 42 = .ok (.getfield 64, 3) := by decide +kernel
theorem dX4_seek_45 : decode cX4_seek 45 = .ok (.iconst 0, 1) := by decide +kernel
theorem dX4_seek_46 : decode cX4_seek 46 = .ok (.iconst 0, 1) := by decide +kernel
theorem dX4_seek_47 : decode cX4_seek 47 = .ok (.iastore, 1) := by decide +kernel
theorem dX4_seek_48 : decode cX4_seek 48 = .ok (.aload_n 0, 1) := by decide +kernel
theorem dX4_seek_49 : decode cX4_seek 49 = .ok (.getfield 67, 3) := by decide +kernel
theorem dX4_seek_52 : decode cX4_seek 52 = .ok (.iconst 0, 1) := by decide +kernel
theorem dX4_seek_53 : decode cX4_seek 53 = .ok (.iconst 0, 1) := by decide +kernel
theorem dX4_seek_54 : decode cX4_seek 54 = .ok (.iastore, 1) := by decide +kernel
theorem dX4_seek_55 : decode cX4_seek 55 = .ok (.iconst 1, 1) := by decide +kernel
theorem dX4_seek_56 : decode cX4_seek 56 = .ok (.istore 4, 2) := by decide +kernel
theorem dX4_seek_58 : decode cX4_seek 58 = .ok (.iload_n 3, 1) := by decide +kernel
theorem dX4_seek_59 : decode cX4_seek 59 = .ok (.ifCond .lt 227, 3) := by decide +kernel
theorem dX4_seek_62 : decode cX4_seek 62 = .ok (.aload_n 0, 1) := by decide +kernel
theorem dX4_seek_63 : decode cX4_seek 63 = .ok (.getfield 64, 3) := by decide +kernel
theorem dX4_seek_66 : decode cX4_seek 66 = .ok (.iload_n 3, 1) := by decide +kernel
theorem dX4_seek_67 : decode cX4_seek 67 = .ok (.iaload, 1) := by decide +kernel
theorem dX4_seek_68 : decode cX4_seek 68 = .ok (.istore 5, 2) := by decide +kernel
theorem dX4_seek_70 : decode cX4_seek 70 = .ok (.aload_n 0, 1) := by decide +kernel
theorem dX4_seek_71 : decode cX4_seek 71 = .ok (.getfield 67, 3) := by decide +kernel
theorem dX4_seek_74 : decode cX4_seek 74 = .ok (.iload_n 3, 1) := by decide +kernel
theorem dX4_seek_75 : decode cX4_seek 75 = .ok (.iaload, 1) := by decide +kernel
theorem dX4_seek_76 : decode cX4_seek 76 = .ok (.istore 6, 2) := by decide +kernel
theorem dX4_seek_78 : decode cX4_seek 78 = .ok (.aload_n 0, 1) := by decide +kernel
theorem dX4_seek_79 : decode cX4_seek 79 = .ok (.iload_n 1, 1) := by decide +kernel
theorem dX4_seek_80 : decode cX4_seek 80 = .ok (.iload 5, 2) := by decide +kernel
theorem dX4_seek_82 : decode cX4_seek 82 = .ok (.iload 6, 2) := by decide +kernel
theorem dX4_seek_84 : decode cX4_seek 84 = .ok (.invokevirtual 131, 3) := by decide +kernel
theorem dX4_seek_87 : decode cX4_seek 87 = .ok (.iload 4, 2) := by decide +kernel
theorem dX4_seek_89 : decode cX4_seek 89 = .ok (.ifCond .eq 28, 3) := by decide +kernel
theorem dX4_seek_92 : decode cX4_seek 92 = .ok (.iload 5, 2) := by decide +kernel
theorem dX4_seek_94 : decode cX4_seek 94 = .ok (.aload_n 0, 1) := by decide +kernel
theorem dX4_seek_95 : decode cX4_seek 95 = .ok (.getfield 86, 3) := by decide +kernel
theorem dX4_seek_98 : decode cX4_seek 98 = .ok (.if_icmp .ne 19, 3) := by decide +kernel
theorem dX4_seek_101 : decode cX4_seek 101 = .ok (.aload_n 0, 1) := by decide +kernel
theorem dX4_seek_102 : decode cX4_seek 102 = .ok (.getfield 112, 3) := by decide +kernel
theorem dX4_seek_105 : decode cX4_seek 105 = .ok (.aload_n 0, 1) := by decide +kernel
theorem dX4_seek_106 : decode cX4_seek 106 = .ok (.getfield 109, 3) := by decide +kernel
theorem dX4_seek_109 : decode cX4_seek 109 = .ok (.if_icmp .le 8, 3) := by decide +kernel
theorem dX4_seek_112 : decode cX4_seek 112 = .ok (.aload_n 0, 1) := by decide +kernel
theorem dX4_seek_113 : decode cX4_seek 113 = .ok (.iload_n 1, 1) := by decide +kernel
theorem dX4_seek_114 : decode cX4_seek 114 = .ok (.invokevirtual 135, 3) := by decide +kernel
theorem dX4_seek_117 : decode cX4_seek 117 = .ok (.iload 5, 2) := by decide +kernel
theorem dX4_seek_119 : decode cX4_seek 119 = .ok (.aload_n 0, 1) := by decide +kernel
theorem dX4_seek_120 : decode cX4_seek 120 = .ok (.getfield 86, 3) := by decide +kernel
theorem dX4_seek_123 : decode cX4_seek 123 = .ok (.if_icmp .eq 16, 3) := by decide +kernel
theorem dX4_seek_126 : decode cX4_seek 126 = .ok (.iload 4, 2) := by decide +kernel
theorem dX4_seek_128 : decode cX4_seek 128 = .ok (.ifCond .eq 15, 3) := by decide +kernel
theorem dX4_seek_131 : decode cX4_seek 131 = .ok (.aload_n 0, 1) := by decide +kernel
theorem dX4_seek_132 : decode cX4_seek 132 = .ok (.iload_n 1, 1) := by decide +kernel
theorem dX4_seek_133 : decode cX4_seek 133 = .ok (.invokevirtual 139, 3) := by decide +kernel
theorem dX4_seek_136 : decode cX4_seek 136 = .ok (.ifCond .ne 7, 3) := by decide +kernel
theorem dX4_seek_139 : decode cX4_seek 139 = .ok (.iconst 1, 1) := by decide +kernel
theorem dX4_seek_140 : decode cX4_seek 140 = .ok (.goto 4, 3) := by decide +kernel
theorem dX4_seek_143 : decode cX4_seek 143 = .ok (.iconst 0, 1) := by decide +kernel
theorem dX4_seek_144 : decode cX4_seek 144 = .ok (.istore 7, 2) := by decide +kernel
theorem dX4_seek_146 : decode cX4_seek 146 = .ok (.iinc 6 1, 3) := by decide +kernel
theorem dX4_seek_149 : decode cX4_seek 149 = .ok (.iload 7, 2) := by decide +kernel
theorem dX4_seek_151 : decode cX4_seek 151 = .ok (.ifCond .ne 27, 3) := by decide +kernel
theorem dX4_seek_154 : decode cX4_seek 154 = .ok (.iload 6, 2) := by decide +kernel
theorem dX4_seek_156 : decode cX4_seek 156 = .ok (.iconst 3, 1) := by decide +kernel
theorem dX4_seek_157 : decode cX4_seek 157 = .ok (.if_icmp .ge 21, 3) := by decide +kernel
theorem dX4_seek_160 : decode cX4_seek 160 = .ok (.aload_n 0, 1) := by decide +kernel
theorem dX4_seek_161 : decode cX4_seek 161 = .ok (.iload_n 1, 1) := by decide +kernel
theorem dX4_seek_162 : decode cX4_seek 162 = .ok (.iload 5, 2) := by decide +kernel
theorem dX4_seek_164 : decode cX4_seek 164 = .ok (.iload 6, 2) := by decide +kernel
theorem dX4_seek_166 : decode cX4_seek 166 = .ok (.invokevirtual 143, 3) := by decide +kernel
theorem dX4_seek_169 : decode cX4_seek 169 = .ok (.ifCond .ne 9, 3) := by decide +kernel
theorem dX4_seek_172 : decode cX4_seek 172 = .ok (.iinc 6 1, 3) := by decide +kernel
theorem dX4_seek_175 : decode cX4_seek 175 = .ok (.goto (-26), 3) := by decide +kernel
theorem dX4_seek_178 : decode cX4_seek 178 = .ok (.iload 7, 2) := by decide +kernel
theorem dX4_seek_180 : decode cX4_seek 180 = .ok (.ifCond .ne 27, 3) := by decide +kernel
theorem dX4_seek_183 : decode cX4_seek 183 = .ok (.iload 6, 2) := by decide +kernel
theorem dX4_seek_185 : decode cX4_seek 185 = .ok (.iconst 3, 1) := by decide +kernel
theorem dX4_seek_186 : decode cX4_seek 186 = .ok (.if_icmp .gt 21, 3) := by decide +kernel
theorem dX4_seek_189 : decode cX4_seek 189 = .ok (.aload_n 0, 1) := by decide +kernel
theorem dX4_seek_190 : decode cX4_seek 190 = .ok (.getfield 128, 3) := by decide +kernel
theorem dX4_seek_193 : decode cX4_seek 193 = .ok (.iload_n 2, 1) := by decide +kernel
theorem dX4_seek_194 : decode cX4_seek 194 = .ok (.if_icmp .ne 13, 3) := by decide +kernel
theorem dX4_seek_197 : decode cX4_seek 197 = .ok (.aload_n 0, 1) := by decide +kernel
theorem dX4_seek_198 : decode cX4_seek 198 = .ok (.getfield 25, 3) := by decide +kernel
theorem dX4_seek_201 : decode cX4_seek 201 = .ok (.iload_n 1, 1) := by decide +kernel
theorem dX4_seek_202 : decode cX4_seek 202 = .ok (.iconst 0, 1) := by decide +kernel
theorem dX4_seek_203 : decode cX4_seek 203 = .ok (.bastore, 1) := by decide +kernel
theorem dX4_seek_204 : decode cX4_seek 204 = .ok (.iconst 1, 1) := by decide +kernel
theorem dX4_seek_205 : decode cX4_seek 205 = .ok (.istore 7, 2) := by decide +kernel
theorem dX4_seek_207 : decode cX4_seek 207 = .ok (.iload 7, 2) := by decide +kernel
theorem dX4_seek_209 : decode cX4_seek 209 = .ok (.ifCond .ne 13, 3) := by decide +kernel
theorem dX4_seek_212 : decode cX4_seek 212 = .ok (.iload 6, 2) := by decide +kernel
theorem dX4_seek_214 : decode cX4_seek 214 = .ok (.iconst 3, 1) := by decide +kernel
theorem dX4_seek_215 : decode cX4_seek 215 = .ok (.if_icmp .gt 7, 3) := by decide +kernel
theorem dX4_seek_218 : decode cX4_seek 218 = .ok (.iconst 1, 1) := by decide +kernel
theorem dX4_seek_219 : decode cX4_seek 219 = .ok (.goto 4, 3) := by decide +kernel
theorem dX4_seek_222 : decode cX4_seek 222 = .ok (.iconst 0, 1) := by decide +kernel
theorem dX4_seek_223 : decode cX4_seek 223 = .ok (.istore 4, 2) := by decide +kernel
theorem dX4_seek_225 : decode cX4_seek 225 = .ok (.iload 4, 2) := by decide +kernel
theorem dX4_seek_227 : decode cX4_seek 227 = .ok (.ifCond .eq 53, 3) := by decide +kernel
theorem dX4_seek_230 : decode cX4_seek 230 = .ok (.aload_n 0, 1) := by decide +kernel
theorem dX4_seek_231 : decode cX4_seek 231 = .ok (.dup, 1) := by decide +kernel
theorem dX4_seek_232 : decode cX4_seek 232 = .ok (.getfield 128, 3) := by decide +kernel
theorem dX4_seek_235 : decode cX4_seek 235 = .ok (.iconst 1, 1) := by decide +kernel
theorem dX4_seek_236 : decode cX4_seek 236 = .ok (.iadd, 1) := by decide +kernel
theorem dX4_seek_237 : decode cX4_seek 237 = .ok (.putfield 128, 3) := by decide +kernel
theorem dX4_seek_240 : decode cX4_seek 240 = .ok (.aload_n 0, 1) := by decide +kernel
theorem dX4_seek_241 : decode cX4_seek 241 = .ok (.getfield 67, 3) := by decide +kernel
theorem dX4_seek_244 : decode cX4_seek 244 = .ok (.iload_n 3, 1) := by decide +kernel
theorem dX4_seek_245 : decode cX4_seek 245 = .ok (.iload 6, 2) := by decide +kernel
theorem dX4_seek_247 : decode cX4_seek 247 = .ok (.iastore, 1) := by decide +kernel
theorem dX4_seek_248 : decode cX4_seek 248 = .ok (.aload_n 0, 1) := by decide +kernel
theorem dX4_seek_249 : decode cX4_seek 249 = .ok (.iload_n 1, 1) := by decide +kernel
theorem dX4_seek_250 : decode cX4_seek 250 = .ok (.iload 5, 2) := by decide +kernel
theorem dX4_seek_252 : decode cX4_seek 252 = .ok (.iload 6, 2) := by decide +kernel
theorem dX4_seek_254 : decode cX4_seek 254 = .ok (.invokevirtual 146, 3) := by decide +kernel
theorem dX4_seek_257 : decode cX4_seek 257 = .ok (.iinc 3 1, 3) := by decide +kernel
theorem dX4_seek_260 : decode cX4_seek 260 = .ok (.aload_n 0, 1) := by decide +kernel
theorem dX4_seek_261 : decode cX4_seek 261 = .ok (.getfield 64, 3) := by decide +kernel
theorem dX4_seek_264 : decode cX4_seek 264 = .ok (.iload_n 3, 1) := by decide +kernel
theorem dX4_seek_265 : decode cX4_seek 265 = .ok (.aload_n 0, 1) := by decide +kernel
theorem dX4_seek_266 : decode cX4_seek 266 = .ok (.invokevirtual 149, 3) := by decide +kernel
theorem dX4_seek_269 : decode cX4_seek 269 = .ok (.iastore, 1) := by decide +kernel
theorem dX4_seek_270 : decode cX4_seek 270 = .ok (.aload_n 0, 1) := by decide +kernel
theorem dX4_seek_271 : decode cX4_seek 271 = .ok (.getfield 67, 3) := by decide +kernel
theorem dX4_seek_274 : decode cX4_seek 274 = .ok (.iload_n 3, 1) := by decide +kernel
theorem dX4_seek_275 : decode cX4_seek 275 = .ok (.iconst 0, 1) := by decide +kernel
theorem dX4_seek_276 : decode cX4_seek 276 = .ok (.iastore, 1) := by decide +kernel
theorem dX4_seek_277 : decode cX4_seek 277 = .ok (.goto 6, 3) := by decide +kernel
theorem dX4_seek_280 : decode cX4_seek 280 = .ok (.iinc 3 (-1), 3) := by decide +kernel
theorem dX4_seek_283 : decode cX4_seek 283 = .ok (.goto (-225), 3) := by decide +kernel
theorem dX4_seek_286 : decode cX4_seek 286 = .ok (.return_, 1) := by decide +kernel
theorem dX4_hasLayers_0 : decode cX4_hasLayers 0 = .ok (.iconst 0, 1) := by decide +kernel
theorem dX4_hasLayers_1 : decode cX4_hasLayers 1 = .ok (.istore_n 2, 1) := by decide +kernel
theorem dX4_hasLayers_2 : decode cX4_hasLayers 2 = .ok (.iload_n 2, 1) := by decide +kernel
theorem dX4_hasLayers_3 : decode cX4_hasLayers 3 = .ok (.aload_n 0, 1) := by decide +kernel
theorem dX4_hasLayers_4 : decode cX4_hasLayers 4 = .ok (.getfield 99, 3) := by decide +kernel
theorem dX4_hasLayers_7 : decode cX4_hasLayers 7 = .ok (.if_icmp .ge 44, 3) := by decide +kernel
theorem dX4_hasLayers_10 : decode cX4_hasLayers 10 = .ok (.iconst 0, 1) := by decide +kernel
theorem dX4_hasLayers_11 : decode cX4_hasLayers 11 = .ok (.istore_n 3, 1) := by decide +kernel
theorem dX4_hasLayers_12 : decode cX4_hasLayers 12 = .ok (.iload_n 3, 1) := by decide +kernel
theorem dX4_hasLayers_13 : decode cX4_hasLayers 13 = .ok (.aload_n 0, 1) := by decide +kernel
theorem dX4_hasLayers_14 : decode cX4_hasLayers 14 = .ok (.getfield 49, 3) := by decide +kernel
theorem dX4_hasLayers_17 : decode cX4_hasLayers 17 = .ok (.iload_n 2, 1) := by decide +kernel
theorem dX4_hasLayers_18 : decode cX4_hasLayers 18 = .ok (.iaload, 1) := by decide +kernel
theorem dX4_hasLayers_19 : decode cX4_hasLayers 19 = .ok (.if_icmp .ge 26, 3) := by decide +kernel
theorem dX4_hasLayers_22 : decode cX4_hasLayers 22 = .ok (.aload_n 0, 1) := by decide +kernel
theorem dX4_hasLayers_23 : decode cX4_hasLayers 23 = .ok (.getfield 52, 3) := by decide +kernel
theorem dX4_hasLayers_26 : decode cX4_hasLayers 26 = .ok (.bipush 10, 2) := by decide +kernel
theorem dX4_hasLayers_28 : decode cX4_hasLayers 28 = .ok (.iload_n 2, 1) := by decide +kernel
theorem dX4_hasLayers_29 : decode cX4_hasLayers 29 = .ok (.imul, 1) := by decide +kernel
theorem dX4_hasLayers_30 : decode cX4_hasLayers 30 = .ok (.iload_n 3, 1) := by decide +kernel
theorem dX4_hasLayers_31 : decode cX4_hasLayers 31 = .ok (.iadd, 1) := by decide +kernel
theorem dX4_hasLayers_32 : decode cX4_hasLayers 32 = .ok (.iaload, 1) := by decide +kernel
theorem dX4_hasLayers_33 : decode cX4_hasLayers 33 = .ok (.iload_n 1, 1) := by decide +kernel
theorem dX4_hasLayers_34 : decode cX4_hasLayers 34 = .ok (.if_icmp .ne 5, 3) := by decide +kernel
theorem dX4_hasLayers_37 : decode cX4_hasLayers 37 = .ok (.iconst 1, 1) := by decide +kernel
theorem dX4_hasLayers_38 : decode cX4_hasLayers 38 = .ok (.ireturn, 1) := by decide +kernel
theorem dX4_hasLayers_39 : decode cX4_hasLayers 39 = .ok (.iinc 3 1, 3) := by decide +kernel
theorem dX4_hasLayers_42 : decode cX4_hasLayers 42 = .ok (.goto (-30), 3) := by decide +kernel
theorem dX4_hasLayers_45 : decode cX4_hasLayers 45 = .ok (.iinc 2 1, 3) := by decide +kernel
theorem dX4_hasLayers_48 : decode cX4_hasLayers 48 = .ok (.goto (-46), 3) := by decide +kernel
theorem dX4_hasLayers_51 : decode cX4_hasLayers 51 = .ok (.iconst 0, 1) := by decide +kernel
theorem dX4_hasLayers_52 : decode cX4_hasLayers 52 = .ok (.ireturn, 1) := by decide +kernel
set_option maxRecDepth 20000 in
theorem ggX4_search_X4_isKind : GoodIn wsX4_search wsX4_isKind := goodIn_r _ [7, 8, 9, 10, 6, 11, 77, 78, 79, 80, 81, 82, 83, 84, 85, 86, 87, 88, 89, 90, 91, 92, 93, 94, 95, 96, 97, 98, 99, 100, 101, 102, 103, 104, 105, 106, 107, 108, 109] (by decide +kernel) (by decide +kernel)
set_option maxRecDepth 20000 in
theorem gX4_search_X4_isKind : GoodIn wsX4_search (wsV RX4 153 RX4 yX4_isKind wsX4_isKind) := goodIn_app (goodIn_of _ (by decide +kernel)) ggX4_search_X4_isKind
set_option maxRecDepth 20000 in
theorem ggX4_search_X4_within : GoodIn wsX4_search wsX4_within := goodIn_r _ [11] (by decide +kernel) (by decide +kernel)
set_option maxRecDepth 20000 in
theorem gX4_search_X4_within : GoodIn wsX4_search (va_wsS RX4 95 yX4_within wsX4_within) := goodIn_app (goodIn_of _ (by decide +kernel)) ggX4_search_X4_within
set_option maxRecDepth 20000 in
theorem ggX4_search_X4_hasLayers : GoodIn wsX4_search wsX4_hasLayers := goodIn_ca (goodIn_r _ [15, 16, 17, 18, 77, 78, 79, 80, 81, 82, 83, 84, 85, 86, 87, 88, 89, 90, 91, 92, 93, 94, 95, 96, 97, 98, 99, 100, 101, 102, 103, 104, 105, 106, 107, 108, 109] (by decide +kernel) (by decide +kernel)) (goodIn_sub (fun _ h => List.mem_cons_of_mem _ (List.mem_append_right _ h)) (by decide +kernel))
set_option maxRecDepth 20000 in
theorem gX4_search_X4_hasLayers : GoodIn wsX4_search (wsV RX4 156 RX4 yX4_hasLayers wsX4_hasLayers) := goodIn_app (goodIn_of _ (by decide +kernel)) ggX4_search_X4_hasLayers
set_option maxRecDepth 20000 in
theorem ggX4_search_X4_seek : GoodIn wsX4_search wsX4_seek := goodIn_ca (goodIn_r _ [22, 23, 24, 25, 26, 27, 28, 2, 29, 30, 31, 32, 33, 34, 6, 35, 36, 37, 38, 39, 40, 41, 42, 43, 44, 45, 46, 47, 48, 49, 50, 51, 52, 53, 54, 55, 56, 57, 58, 59, 60, 61, 62, 63, 64, 65, 66, 67, 68, 69, 70, 71, 72, 73, 74, 75, 76, 77, 78, 79, 80, 81, 82, 83, 84, 85, 86, 87, 88, 89, 90, 91, 92, 93, 94, 95, 96, 97, 98, 99, 100, 101, 102, 103, 104, 105, 106, 107, 108, 109] (by decide +kernel) (by decide +kernel)) (goodIn_sub (fun _ h => List.mem_cons_of_mem _ (List.mem_append_right _ h)) (by decide +kernel))
set_option maxRecDepth 20000 in
theorem gX4_search_X4_seek : GoodIn wsX4_search (wsV RX4 159 RX4 yX4_seek wsX4_seek) := goodIn_app (goodIn_of _ (by decide +kernel)) ggX4_search_X4_seek
theorem dX4_search_0 : decode cX4_search 0 = .ok (.aload_n 0, 1) := by decide +kernel
theorem dX4_search_1 : decode cX4_search 1 = .ok (.aload_n 0, 1) := by decide +kernel
theorem dX4_search_2 : decode cX4_search 2 = .ok (.iload_n 1, 1) := by decide +kernel
theorem dX4_search_3 : decode cX4_search 3 = .ok (.invokevirtual 153, 3) := by decide +kernel
theorem dX4_search_6 : decode cX4_search 6 = .ok (.ifCond .ne 7, 3) := by decide +kernel
theorem dX4_search_9 : decode cX4_search 9 = .ok (.iconst 1, 1) := by decide +kernel
theorem dX4_search_10 : decode cX4_search 10 = .ok (.goto 31, 3) := by decide +kernel
theorem dX4_search_13 : decode cX4_search 13 = .ok (.iload_n 2, 1) := by decide +kernel
theorem dX4_search_14 : decode cX4_search 14 = .ok (.iconst 0, 1) := by decide +kernel
theorem dX4_search_15 : decode cX4_search 15 = .ok (.sipush 5000, 3) := by decide +kernel
theorem dX4_search_18 : decode cX4_search 18 = .ok (.invokestatic 95, 3) := by decide +kernel
theorem dX4_search_21 : decode cX4_search 21 = .ok (.ifCond .ne 7, 3) := by decide +kernel
theorem dX4_search_24 : decode cX4_search 24 = .ok (.iconst 2, 1) := by decide +kernel
theorem dX4_search_25 : decode cX4_search 25 = .ok (.goto 16, 3) := by decide +kernel
theorem dX4_search_28 : decode cX4_search 28 = .ok (.aload_n 0, 1) := by decide +kernel
theorem dX4_search_29 : decode cX4_search 29 = .ok (.iload_n 1, 1) := by decide +kernel
theorem dX4_search_30 : decode cX4_search 30 = .ok (.invokevirtual 156, 3) := by decide +kernel
theorem dX4_search_33 : decode cX4_search 33 = .ok (.ifCond .eq 7, 3) := by decide +kernel
theorem dX4_search_36 : decode cX4_search 36 = .ok (.iconst 3, 1) := by decide +kernel
theorem dX4_search_37 : decode cX4_search 37 = .ok (.goto 4, 3) := by decide +kernel
theorem dX4_search_40 : decode cX4_search 40 = .ok (.iconst 0, 1) := by decide +kernel
theorem dX4_search_41 : decode cX4_search 41 = .ok (.putfield 89, 3) := by decide +kernel
theorem dX4_search_44 : decode cX4_search 44 = .ok (.aload_n 0, 1) := by decide +kernel
theorem dX4_search_45 : decode cX4_search 45 = .ok (.getfield 89, 3) := by decide +kernel
theorem dX4_search_48 : decode cX4_search 48 = .ok (.ifCond .eq 5, 3) := by decide +kernel
theorem dX4_search_51 : decode cX4_search 51 = .ok (.iconst 0, 1) := by decide +kernel
theorem dX4_search_52 : decode cX4_search 52 = .ok (.ireturn, 1) := by decide +kernel
theorem dX4_search_53 : decode cX4_search 53 = .ok (.aload_n 0, 1) := by decide +kernel
theorem dX4_search_54 : decode cX4_search 54 = .ok (.iload_n 1, 1) := by decide +kernel
theorem dX4_search_55 : decode cX4_search 55 = .ok (.iload_n 2, 1) := by decide +kernel
theorem dX4_search_56 : decode cX4_search 56 = .ok (.invokevirtual 159, 3) := by decide +kernel
theorem dX4_search_59 : decode cX4_search 59 = .ok (.aload_n 0, 1) := by decide +kernel
