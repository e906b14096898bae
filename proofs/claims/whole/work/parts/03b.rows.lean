theorem dX4_search_60 : decode cX4_search 60 = .ok (.getfield 22, 3) := by decide +kernel
theorem dX4_search_63 : decode cX4_search 63 = .ok (.iload_n 1, 1) := by decide +kernel
theorem dX4_search_64 : decode cX4_search 64 = .ok (.iaload, 1) := by decide +kernel
theorem dX4_search_65 : decode cX4_search 65 = .ok (.ireturn, 1) := by decide +kernel
set_option maxRecDepth 20000 in
theorem ggX4_pattern_X4_isKind : GoodIn wsX4_pattern wsX4_isKind := goodIn_r _ [10, 11, 12, 13, 9, 14, 15, 16, 17, 18, 19, 20, 21, 22, 23, 24, 25, 26, 27, 28, 29, 30, 31, 32, 33, 34, 35, 36, 37, 38, 39, 40, 41, 42, 43, 44, 45, 46, 47] (by decide +kernel) (by decide +kernel)
set_option maxRecDepth 20000 in
theorem gX4_pattern_X4_isKind : GoodIn wsX4_pattern (wsV RX4 153 RX4 yX4_isKind wsX4_isKind) := goodIn_app (goodIn_of _ (by decide +kernel)) ggX4_pattern_X4_isKind
set_option maxRecDepth 20000 in
theorem ggX4_pattern_X4_within : GoodIn wsX4_pattern wsX4_within := goodIn_r _ [14] (by decide +kernel) (by decide +kernel)
set_option maxRecDepth 20000 in
theorem gX4_pattern_X4_within : GoodIn wsX4_pattern (va_wsS RX4 95 yX4_within wsX4_within) := goodIn_app (goodIn_of _ (by decide +kernel)) ggX4_pattern_X4_within
theorem dX4_pattern_0 : decode cX4_pattern 0 = .ok (.aload_n 0, 1) := by decide +kernel
theorem dX4_pattern_1 : decode cX4_pattern 1 = .ok (.aload_n 0, 1) := by decide +kernel
theorem dX4_pattern_2 : decode cX4_pattern 2 = .ok (.iload_n 1, 1) := by decide +kernel
theorem dX4_pattern_3 : decode cX4_pattern 3 = .ok (.invokevirtual 153, 3) := by decide +kernel
theorem dX4_pattern_6 : decode cX4_pattern 6 = .ok (.ifCond .ne 7, 3) := by decide +kernel
theorem dX4_pattern_9 : decode cX4_pattern 9 = .ok (.iconst 1, 1) := by decide +kernel
theorem dX4_pattern_10 : decode cX4_pattern 10 = .ok (.goto 37, 3) := by decide +kernel
theorem dX4_pattern_13 : decode cX4_pattern 13 = .ok (.iload_n 3, 1) := by decide +kernel
theorem dX4_pattern_14 : decode cX4_pattern 14 = .ok (.iconst 0, 1) := by decide +kernel
theorem dX4_pattern_15 : decode cX4_pattern 15 = .ok (.iconst 2, 1) := by decide +kernel
theorem dX4_pattern_16 : decode cX4_pattern 16 = .ok (.invokestatic 95, 3) := by decide +kernel
theorem dX4_pattern_19 : decode cX4_pattern 19 = .ok (.ifCond .ne 7, 3) := by decide +kernel
theorem dX4_pattern_22 : decode cX4_pattern 22 = .ok (.iconst 2, 1) := by decide +kernel
theorem dX4_pattern_23 : decode cX4_pattern 23 = .ok (.goto 24, 3) := by decide +kernel
theorem dX4_pattern_26 : decode cX4_pattern 26 = .ok (.iload_n 2, 1) := by decide +kernel
theorem dX4_pattern_27 : decode cX4_pattern 27 = .ok (.iconst 0, 1) := by decide +kernel
theorem dX4_pattern_28 : decode cX4_pattern 28 = .ok (.aload_n 0, 1) := by decide +kernel
theorem dX4_pattern_29 : decode cX4_pattern 29 = .ok (.getfield 22, 3) := by decide +kernel
theorem dX4_pattern_32 : decode cX4_pattern 32 = .ok (.iload_n 1, 1) := by decide +kernel
theorem dX4_pattern_33 : decode cX4_pattern 33 = .ok (.iaload, 1) := by decide +kernel
theorem dX4_pattern_34 : decode cX4_pattern 34 = .ok (.iconst 1, 1) := by decide +kernel
theorem dX4_pattern_35 : decode cX4_pattern 35 = .ok (.isub, 1) := by decide +kernel
theorem dX4_pattern_36 : decode cX4_pattern 36 = .ok (.invokestatic 95, 3) := by decide +kernel
theorem dX4_pattern_39 : decode cX4_pattern 39 = .ok (.ifCond .ne 7, 3) := by decide +kernel
theorem dX4_pattern_42 : decode cX4_pattern 42 = .ok (.iconst 3, 1) := by decide +kernel
theorem dX4_pattern_43 : decode cX4_pattern 43 = .ok (.goto 4, 3) := by decide +kernel
theorem dX4_pattern_46 : decode cX4_pattern 46 = .ok (.iconst 0, 1) := by decide +kernel
theorem dX4_pattern_47 : decode cX4_pattern 47 = .ok (.putfield 89, 3) := by decide +kernel
theorem dX4_pattern_50 : decode cX4_pattern 50 = .ok (.aload_n 0, 1) := by decide +kernel
theorem dX4_pattern_51 : decode cX4_pattern 51 = .ok (.getfield 89, 3) := by decide +kernel
theorem dX4_pattern_54 : decode cX4_pattern 54 = .ok (.ifCond .eq 5, 3) := by decide +kernel
theorem dX4_pattern_57 : decode cX4_pattern 57 = .ok (.iconst 0, 1) := by decide +kernel
theorem dX4_pattern_58 : decode cX4_pattern 58 = .ok (.ireturn, 1) := by decide +kernel
theorem dX4_pattern_59 : decode cX4_pattern 59 = .ok (.aload_n 0, 1) := by decide +kernel
theorem dX4_pattern_60 : decode cX4_pattern 60 = .ok (.getfield 33, 3) := by decide +kernel
theorem dX4_pattern_63 : decode cX4_pattern 63 = .ok (.bipush 36, 2) := by decide +kernel
theorem dX4_pattern_65 : decode cX4_pattern 65 = .ok (.iload_n 1, 1) := by decide +kernel
theorem dX4_pattern_66 : decode cX4_pattern 66 = .ok (.imul, 1) := by decide +kernel
theorem dX4_pattern_67 : decode cX4_pattern 67 = .ok (.iload_n 2, 1) := by decide +kernel
theorem dX4_pattern_68 : decode cX4_pattern 68 = .ok (.iadd, 1) := by decide +kernel
theorem dX4_pattern_69 : decode cX4_pattern 69 = .ok (.iaload, 1) := by decide +kernel
theorem dX4_pattern_70 : decode cX4_pattern 70 = .ok (.istore 4, 2) := by decide +kernel
theorem dX4_pattern_72 : decode cX4_pattern 72 = .ok (.iload_n 3, 1) := by decide +kernel
theorem dX4_pattern_73 : decode cX4_pattern 73 = .ok (.ifCond .ne 13, 3) := by decide +kernel
theorem dX4_pattern_76 : decode cX4_pattern 76 = .ok (.iload 4, 2) := by decide +kernel
theorem dX4_pattern_78 : decode cX4_pattern 78 = .ok (.aload_n 0, 1) := by decide +kernel
theorem dX4_pattern_79 : decode cX4_pattern 79 = .ok (.getfield 80, 3) := by decide +kernel
theorem dX4_pattern_82 : decode cX4_pattern 82 = .ok (.irem, 1) := by decide +kernel
theorem dX4_pattern_83 : decode cX4_pattern 83 = .ok (.goto 29, 3) := by decide +kernel
theorem dX4_pattern_86 : decode cX4_pattern 86 = .ok (.iload_n 3, 1) := by decide +kernel
theorem dX4_pattern_87 : decode cX4_pattern 87 = .ok (.iconst 1, 1) := by decide +kernel
theorem dX4_pattern_88 : decode cX4_pattern 88 = .ok (.if_icmp .ne 13, 3) := by decide +kernel
theorem dX4_pattern_91 : decode cX4_pattern 91 = .ok (.iload 4, 2) := by decide +kernel
theorem dX4_pattern_93 : decode cX4_pattern 93 = .ok (.aload_n 0, 1) := by decide +kernel
theorem dX4_pattern_94 : decode cX4_pattern 94 = .ok (.getfield 80, 3) := by decide +kernel
theorem dX4_pattern_97 : decode cX4_pattern 97 = .ok (.idiv, 1) := by decide +kernel
theorem dX4_pattern_98 : decode cX4_pattern 98 = .ok (.goto 14, 3) := by decide +kernel
theorem dX4_pattern_101 : decode cX4_pattern 101 = .ok (.aload_n 0, 1) := by decide +kernel
theorem dX4_pattern_102 : decode cX4_pattern 102 = .ok (.getfield 36, 3) := by decide +kernel
theorem dX4_pattern_105 : decode cX4_pattern 105 = .ok (.bipush 36, 2) := by decide +kernel
theorem dX4_pattern_107 : decode cX4_pattern 107 = .ok (.iload_n 1, 1) := by decide +kernel
theorem dX4_pattern_108 : decode cX4_pattern 108 = .ok (.imul, 1) := by decide +kernel
theorem dX4_pattern_109 : decode cX4_pattern 109 = .ok (.iload_n 2, 1) := by decide +kernel
theorem dX4_pattern_110 : decode cX4_pattern 110 = .ok (.iadd, 1) := by decide +kernel
theorem dX4_pattern_111 : decode cX4_pattern 111 = .ok (.iaload, 1) := by decide +kernel
theorem dX4_pattern_112 : decode cX4_pattern 112 = .ok (.ireturn, 1) := by decide +kernel
set_option maxRecDepth 20000 in
theorem ggX4_exact_X4_isKind : GoodIn wsX4_exact wsX4_isKind := goodIn_r _ [7, 8, 9, 10, 6, 11, 12, 13, 14, 15, 16, 17, 18, 19, 20, 21, 22, 23, 24, 25, 26, 27, 28, 29, 30, 31, 32, 33, 34, 35, 36, 37, 38, 39, 40, 41, 42, 43, 44] (by decide +kernel) (by decide +kernel)
set_option maxRecDepth 20000 in
theorem gX4_exact_X4_isKind : GoodIn wsX4_exact (wsV RX4 153 RX4 yX4_isKind wsX4_isKind) := goodIn_app (goodIn_of _ (by decide +kernel)) ggX4_exact_X4_isKind
theorem dX4_exact_0 : decode cX4_exact 0 = .ok (.aload_n 0, 1) := by decide +kernel
theorem dX4_exact_1 : decode cX4_exact 1 = .ok (.aload_n 0, 1) := by decide +kernel
theorem dX4_exact_2 : decode cX4_exact 2 = .ok (.iload_n 1, 1) := by decide +kernel
theorem dX4_exact_3 : decode cX4_exact 3 = .ok (.invokevirtual 153, 3) := by decide +kernel
theorem dX4_exact_6 : decode cX4_exact 6 = .ok (.ifCond .eq 7, 3) := by decide +kernel
theorem dX4_exact_9 : decode cX4_exact 9 = .ok (.iconst 0, 1) := by decide +kernel
theorem dX4_exact_10 : decode cX4_exact 10 = .ok (.goto 4, 3) := by decide +kernel
theorem dX4_exact_13 : decode cX4_exact 13 = .ok (.iconst 1, 1) := by decide +kernel
theorem dX4_exact_14 : decode cX4_exact 14 = .ok (.putfield 89, 3) := by decide +kernel
theorem dX4_exact_17 : decode cX4_exact 17 = .ok (.aload_n 0, 1) := by decide +kernel
theorem dX4_exact_18 : decode cX4_exact 18 = .ok (.getfield 89, 3) := by decide +kernel
theorem dX4_exact_21 : decode cX4_exact 21 = .ok (.ifCond .ne 16, 3) := by decide +kernel
theorem dX4_exact_24 : decode cX4_exact 24 = .ok (.aload_n 0, 1) := by decide +kernel
theorem dX4_exact_25 : decode cX4_exact 25 = .ok (.getfield 25, 3) := by decide +kernel
theorem dX4_exact_28 : decode cX4_exact 28 = .ok (.iload_n 1, 1) := by decide +kernel
theorem dX4_exact_29 : decode cX4_exact 29 = .ok (.baload, 1) := by decide +kernel
theorem dX4_exact_30 : decode cX4_exact 30 = .ok (.ifCond .eq 7, 3) := by decide +kernel
theorem dX4_exact_33 : decode cX4_exact 33 = .ok (.iconst 1, 1) := by decide +kernel
theorem dX4_exact_34 : decode cX4_exact 34 = .ok (.goto 4, 3) := by decide +kernel
theorem dX4_exact_37 : decode cX4_exact 37 = .ok (.iconst 0, 1) := by decide +kernel
theorem dX4_exact_38 : decode cX4_exact 38 = .ok (.ireturn, 1) := by decide +kernel
set_option maxRecDepth 20000 in
theorem ggX4_bound_X4_isKind : GoodIn wsX4_bound wsX4_isKind := goodIn_r _ [7, 8, 9, 10, 6, 11, 18, 19, 20, 21, 22, 23, 24, 25, 26, 27, 28, 29, 30, 31, 32, 33, 34, 35, 36, 37, 38, 39, 40, 41, 42, 43, 44, 45, 46, 47, 48, 49, 50] (by decide +kernel) (by decide +kernel)
set_option maxRecDepth 20000 in
theorem gX4_bound_X4_isKind : GoodIn wsX4_bound (wsV RX4 153 RX4 yX4_isKind wsX4_isKind) := goodIn_app (goodIn_of _ (by decide +kernel)) ggX4_bound_X4_isKind
set_option maxRecDepth 20000 in
theorem ggX4_bound_X4_areaOf : GoodIn wsX4_bound wsX4_areaOf := goodIn_ca (goodIn_r _ [15, 16, 17, 18, 19, 20, 21, 22, 23, 24, 25, 26, 27, 28, 29, 30, 31, 32, 33, 34, 35, 36, 37, 38, 39, 40, 41, 42, 43, 44, 45, 46, 47, 48, 49, 50] (by decide +kernel) (by decide +kernel)) (goodIn_sub (fun _ h => List.mem_cons_of_mem _ (List.mem_append_right _ h)) (by decide +kernel))
set_option maxRecDepth 20000 in
theorem gX4_bound_X4_areaOf : GoodIn wsX4_bound (wsV RX4 119 RX4 yX4_areaOf wsX4_areaOf) := goodIn_app (goodIn_of _ (by decide +kernel)) ggX4_bound_X4_areaOf
theorem dX4_bound_0 : decode cX4_bound 0 = .ok (.aload_n 0, 1) := by decide +kernel
theorem dX4_bound_1 : decode cX4_bound 1 = .ok (.aload_n 0, 1) := by decide +kernel
theorem dX4_bound_2 : decode cX4_bound 2 = .ok (.iload_n 1, 1) := by decide +kernel
theorem dX4_bound_3 : decode cX4_bound 3 = .ok (.invokevirtual 153, 3) := by decide +kernel
theorem dX4_bound_6 : decode cX4_bound 6 = .ok (.ifCond .eq 7, 3) := by decide +kernel
theorem dX4_bound_9 : decode cX4_bound 9 = .ok (.iconst 0, 1) := by decide +kernel
theorem dX4_bound_10 : decode cX4_bound 10 = .ok (.goto 4, 3) := by decide +kernel
theorem dX4_bound_13 : decode cX4_bound 13 = .ok (.iconst 1, 1) := by decide +kernel
theorem dX4_bound_14 : decode cX4_bound 14 = .ok (.putfield 89, 3) := by decide +kernel
theorem dX4_bound_17 : decode cX4_bound 17 = .ok (.aload_n 0, 1) := by decide +kernel
theorem dX4_bound_18 : decode cX4_bound 18 = .ok (.getfield 89, 3) := by decide +kernel
theorem dX4_bound_21 : decode cX4_bound 21 = .ok (.ifCond .eq 7, 3) := by decide +kernel
theorem dX4_bound_24 : decode cX4_bound 24 = .ok (.iconst 0, 1) := by decide +kernel
theorem dX4_bound_25 : decode cX4_bound 25 = .ok (.goto 13, 3) := by decide +kernel
theorem dX4_bound_28 : decode cX4_bound 28 = .ok (.aload_n 0, 1) := by decide +kernel
theorem dX4_bound_29 : decode cX4_bound 29 = .ok (.getfield 86, 3) := by decide +kernel
theorem dX4_bound_32 : decode cX4_bound 32 = .ok (.aload_n 0, 1) := by decide +kernel
theorem dX4_bound_33 : decode cX4_bound 33 = .ok (.iload_n 1, 1) := by decide +kernel
theorem dX4_bound_34 : decode cX4_bound 34 = .ok (.invokevirtual 119, 3) := by decide +kernel
theorem dX4_bound_37 : decode cX4_bound 37 = .ok (.idiv, 1) := by decide +kernel
theorem dX4_bound_38 : decode cX4_bound 38 = .ok (.ireturn, 1) := by decide +kernel
set_option maxRecDepth 20000 in
theorem ggX4_rules_X4_within : GoodIn wsX4_rules wsX4_within := goodIn_r _ [8] (by decide +kernel) (by decide +kernel)
set_option maxRecDepth 20000 in
theorem gX4_rules_X4_within : GoodIn wsX4_rules (va_wsS RX4 95 yX4_within wsX4_within) := goodIn_app (goodIn_of _ (by decide +kernel)) ggX4_rules_X4_within
theorem dX4_rules_0 : decode cX4_rules 0 = .ok (.aload_n 0, 1) := by decide +kernel
theorem dX4_rules_1 : decode cX4_rules 1 = .ok (.iload_n 1, 1) := by decide +kernel
theorem dX4_rules_2 : decode cX4_rules 2 = .ok (.iconst 0, 1) := by decide +kernel
theorem dX4_rules_3 : decode cX4_rules 3 = .ok (.bipush 100, 2) := by decide +kernel
theorem dX4_rules_5 : decode cX4_rules 5 = .ok (.invokestatic 95, 3) := by decide +kernel
theorem dX4_rules_8 : decode cX4_rules 8 = .ok (.ifCond .eq 28, 3) := by decide +kernel
theorem dX4_rules_11 : decode cX4_rules 11 = .ok (.iload_n 2, 1) := by decide +kernel
theorem dX4_rules_12 : decode cX4_rules 12 = .ok (.iconst 1, 1) := by decide +kernel
theorem dX4_rules_13 : decode cX4_rules 13 = .ok (.bipush 100, 2) := by decide +kernel
theorem dX4_rules_15 : decode cX4_rules 15 = .ok (.invokestatic 95, 3) := by decide +kernel
theorem dX4_rules_18 : decode cX4_rules 18 = .ok (.ifCond .eq 18, 3) := by decide +kernel
theorem dX4_rules_21 : decode cX4_rules 21 = .ok (.iload_n 3, 1) := by decide +kernel
theorem dX4_rules_22 : decode cX4_rules 22 = .ok (.iconst 0, 1) := by decide +kernel
theorem dX4_rules_23 : decode cX4_rules 23 = .ok (.sipush 10000, 3) := by decide +kernel
theorem dX4_rules_26 : decode cX4_rules 26 = .ok (.invokestatic 95, 3) := by decide +kernel
theorem dX4_rules_29 : decode cX4_rules 29 = .ok (.ifCond .eq 7, 3) := by decide +kernel
theorem dX4_rules_32 : decode cX4_rules 32 = .ok (.iconst 0, 1) := by decide +kernel
theorem dX4_rules_33 : decode cX4_rules 33 = .ok (.goto 4, 3) := by decide +kernel
theorem dX4_rules_36 : decode cX4_rules 36 = .ok (.iconst 1, 1) := by decide +kernel
theorem dX4_rules_37 : decode cX4_rules 37 = .ok (.putfield 89, 3) := by decide +kernel
theorem dX4_rules_40 : decode cX4_rules 40 = .ok (.aload_n 0, 1) := by decide +kernel
theorem dX4_rules_41 : decode cX4_rules 41 = .ok (.getfield 89, 3) := by decide +kernel
theorem dX4_rules_44 : decode cX4_rules 44 = .ok (.ifCond .eq 4, 3) := by decide +kernel
theorem dX4_rules_47 : decode cX4_rules 47 = .ok (.return_, 1) := by decide +kernel
theorem dX4_rules_48 : decode cX4_rules 48 = .ok (.aload_n 0, 1) := by decide +kernel
theorem dX4_rules_49 : decode cX4_rules 49 = .ok (.iload_n 1, 1) := by decide +kernel
theorem dX4_rules_50 : decode cX4_rules 50 = .ok (.putfield 39, 3) := by decide +kernel
theorem dX4_rules_53 : decode cX4_rules 53 = .ok (.aload_n 0, 1) := by decide +kernel
theorem dX4_rules_54 : decode cX4_rules 54 = .ok (.iload_n 2, 1) := by decide +kernel
theorem dX4_rules_55 : decode cX4_rules 55 = .ok (.putfield 43, 3) := by decide +kernel
theorem dX4_rules_58 : decode cX4_rules 58 = .ok (.aload_n 0, 1) := by decide +kernel
theorem dX4_rules_59 : decode cX4_rules 59 = .ok (.iload_n 3, 1) := by decide +kernel
theorem dX4_rules_60 : decode cX4_rules 60 = .ok (.putfield 46, 3) := by decide +kernel
theorem dX4_rules_63 : decode cX4_rules 63 = .ok (.return_, 1) := by decide +kernel
theorem dX4_pallet_0 : decode cX4_pallet 0 = .ok (.aload_n 0, 1) := by decide +kernel
theorem dX4_pallet_1 : decode cX4_pallet 1 = .ok (.aload_n 0, 1) := by decide +kernel
theorem dX4_pallet_2 : decode cX4_pallet 2 = .ok (.getfield 99, 3) := by decide +kernel
theorem dX4_pallet_5 : decode cX4_pallet 5 = .ok (.bipush 8, 2) := by decide +kernel
theorem dX4_pallet_7 : decode cX4_pallet 7 = .ok (.if_icmp .ne 7, 3) := by decide +kernel
theorem dX4_pallet_10 : decode cX4_pallet 10 = .ok (.iconst 1, 1) := by decide +kernel
theorem dX4_pallet_11 : decode cX4_pallet 11 = .ok (.goto 4, 3) := by decide +kernel
theorem dX4_pallet_14 : decode cX4_pallet 14 = .ok (.iconst 0, 1) := by decide +kernel
theorem dX4_pallet_15 : decode cX4_pallet 15 = .ok (.putfield 89, 3) := by decide +kernel
theorem dX4_pallet_18 : decode cX4_pallet 18 = .ok (.aload_n 0, 1) := by decide +kernel
theorem dX4_pallet_19 : decode cX4_pallet 19 = .ok (.getfield 89, 3) := by decide +kernel
theorem dX4_pallet_22 : decode cX4_pallet 22 = .ok (.ifCond .eq 5, 3) := by decide +kernel
theorem dX4_pallet_25 : decode cX4_pallet 25 = .ok (.iconst 0, 1) := by decide +kernel
theorem dX4_pallet_26 : decode cX4_pallet 26 = .ok (.ireturn, 1) := by decide +kernel
theorem dX4_pallet_27 : decode cX4_pallet 27 = .ok (.aload_n 0, 1) := by decide +kernel
theorem dX4_pallet_28 : decode cX4_pallet 28 = .ok (.getfield 49, 3) := by decide +kernel
theorem dX4_pallet_31 : decode cX4_pallet 31 = .ok (.aload_n 0, 1) := by decide +kernel
theorem dX4_pallet_32 : decode cX4_pallet 32 = .ok (.getfield 99, 3) := by decide +kernel
theorem dX4_pallet_35 : decode cX4_pallet 35 = .ok (.iconst 0, 1) := by decide +kernel
theorem dX4_pallet_36 : decode cX4_pallet 36 = .ok (.iastore, 1) := by decide +kernel
theorem dX4_pallet_37 : decode cX4_pallet 37 = .ok (.aload_n 0, 1) := by decide +kernel
theorem dX4_pallet_38 : decode cX4_pallet 38 = .ok (.getfield 58, 3) := by decide +kernel
theorem dX4_pallet_41 : decode cX4_pallet 41 = .ok (.aload_n 0, 1) := by decide +kernel
theorem dX4_pallet_42 : decode cX4_pallet 42 = .ok (.getfield 99, 3) := by decide +kernel
theorem dX4_pallet_45 : decode cX4_pallet 45 = .ok (.iconst (-1), 1) := by decide +kernel
theorem dX4_pallet_46 : decode cX4_pallet 46 = .ok (.iastore, 1) := by decide +kernel
theorem dX4_pallet_47 : decode cX4_pallet 47 = .ok (.aload_n 0, 1) := by decide +kernel
theorem dX4_pallet_48 : decode cX4_pallet 48 = .ok (.dup, 1) := by decide +kernel
theorem dX4_pallet_49 : decode cX4_pallet 49 = .ok (.getfield 99, 3) := by decide +kernel
theorem dX4_pallet_52 : decode cX4_pallet 52 = .ok (.iconst 1, 1) := by decide +kernel
theorem dX4_pallet_53 : decode cX4_pallet 53 = .ok (.iadd, 1) := by decide +kernel
theorem dX4_pallet_54 : decode cX4_pallet 54 = .ok (.putfield 99, 3) := by decide +kernel
theorem dX4_pallet_57 : decode cX4_pallet 57 = .ok (.aload_n 0, 1) := by decide +kernel
theorem dX4_pallet_58 : decode cX4_pallet 58 = .ok (.getfield 99, 3) := by decide +kernel
theorem dX4_pallet_61 : decode cX4_pallet 61 = .ok (.iconst 1, 1) := by decide +kernel
theorem dX4_pallet_62 : decode cX4_pallet 62 = .ok (.isub, 1) := by decide +kernel
theorem dX4_pallet_63 : decode cX4_pallet 63 = .ok (.ireturn, 1) := by decide +kernel
theorem dX4_heightOf_0 : decode cX4_heightOf 0 = .ok (.iconst 0, 1) := by decide +kernel
theorem dX4_heightOf_1 : decode cX4_heightOf 1 = .ok (.istore_n 3, 1) := by decide +kernel
theorem dX4_heightOf_2 : decode cX4_heightOf 2 = .ok (.iconst 0, 1) := by decide +kernel
theorem dX4_heightOf_3 : decode cX4_heightOf 3 = .ok (.istore 4, 2) := by decide +kernel
theorem dX4_heightOf_5 : decode cX4_heightOf 5 = .ok (.iload 4, 2) := by decide +kernel
theorem dX4_heightOf_7 : decode cX4_heightOf 7 = .ok (.iload_n 2, 1) := by decide +kernel
theorem dX4_heightOf_8 : decode cX4_heightOf 8 = .ok (.if_icmp .ge 29, 3) := by decide +kernel
theorem dX4_heightOf_11 : decode cX4_heightOf 11 = .ok (.iload_n 3, 1) := by decide +kernel
theorem dX4_heightOf_12 : decode cX4_heightOf 12 = .ok (.aload_n 0, 1) := by decide +kernel
theorem dX4_heightOf_13 : decode cX4_heightOf 13 = .ok (.getfield 16, 3) := by decide +kernel
theorem dX4_heightOf_16 : decode cX4_heightOf 16 = .ok (.aload_n 0, 1) := by decide +kernel
theorem dX4_heightOf_17 : decode cX4_heightOf 17 = .ok (.getfield 52, 3) := by decide +kernel
theorem dX4_heightOf_20 : decode cX4_heightOf 20 = .ok (.bipush 10, 2) := by decide +kernel
theorem dX4_heightOf_22 : decode cX4_heightOf 22 = .ok (.iload_n 1, 1) := by decide +kernel
theorem dX4_heightOf_23 : decode cX4_heightOf 23 = .ok (.imul, 1) := by decide +kernel
theorem dX4_heightOf_24 : decode cX4_heightOf 24 = .ok (.iload 4, 2) := by decide +kernel
theorem dX4_heightOf_26 : decode cX4_heightOf 26 = .ok (.iadd, 1) := by decide +kernel
theorem dX4_heightOf_27 : decode cX4_heightOf 27 = .ok (.iaload, 1) := by decide +kernel
theorem dX4_heightOf_28 : decode cX4_heightOf 28 = .ok (.iaload, 1) := by decide +kernel
theorem dX4_heightOf_29 : decode cX4_heightOf 29 = .ok (.iadd, 1) := by decide +kernel
theorem dX4_heightOf_30 : decode cX4_heightOf 30 = .ok (.istore_n 3, 1) := by decide +kernel
theorem dX4_heightOf_31 : decode cX4_heightOf 31 = .ok (.iinc 4 1, 3) := by decide +kernel
theorem dX4_heightOf_34 : decode cX4_heightOf 34 = .ok (.goto (-29), 3) := by decide +kernel
theorem dX4_heightOf_37 : decode cX4_heightOf 37 = .ok (.iload_n 3, 1) := by decide +kernel
theorem dX4_heightOf_38 : decode cX4_heightOf 38 = .ok (.ireturn, 1) := by decide +kernel
theorem dX4_weightOf_0 : decode cX4_weightOf 0 = .ok (.iconst 0, 1) := by decide +kernel
theorem dX4_weightOf_1 : decode cX4_weightOf 1 = .ok (.istore_n 2, 1) := by decide +kernel
theorem dX4_weightOf_2 : decode cX4_weightOf 2 = .ok (.iconst 0, 1) := by decide +kernel
theorem dX4_weightOf_3 : decode cX4_weightOf 3 = .ok (.istore_n 3, 1) := by decide +kernel
theorem dX4_weightOf_4 : decode cX4_weightOf 4 = .ok (.iload_n 3, 1) := by decide +kernel
theorem dX4_weightOf_5 : decode cX4_weightOf 5 = .ok (.aload_n 0, 1) := by decide +kernel
theorem dX4_weightOf_6 : decode cX4_weightOf 6 = .ok (.getfield 49, 3) := by decide +kernel
theorem dX4_weightOf_9 : decode cX4_weightOf 9 = .ok (.iload_n 1, 1) := by decide +kernel
theorem dX4_weightOf_10 : decode cX4_weightOf 10 = .ok (.iaload, 1) := by decide +kernel
theorem dX4_weightOf_11 : decode cX4_weightOf 11 = .ok (.if_icmp .ge 40, 3) := by decide +kernel
theorem dX4_weightOf_14 : decode cX4_weightOf 14 = .ok (.iload_n 2, 1) := by decide +kernel
theorem dX4_weightOf_15 : decode cX4_weightOf 15 = .ok (.aload_n 0, 1) := by decide +kernel
theorem dX4_weightOf_16 : decode cX4_weightOf 16 = .ok (.getfield 19, 3) := by decide +kernel
theorem dX4_weightOf_19 : decode cX4_weightOf 19 = .ok (.aload_n 0, 1) := by decide +kernel
theorem dX4_weightOf_20 : decode cX4_weightOf 20 = .ok (.getfield 52, 3) := by decide +kernel
theorem dX4_weightOf_23 : decode cX4_weightOf 23 = .ok (.bipush 10, 2) := by decide +kernel
theorem dX4_weightOf_25 : decode cX4_weightOf 25 = .ok (.iload_n 1, 1) := by decide +kernel
theorem dX4_weightOf_26 : decode cX4_weightOf 26 = .ok (.imul, 1) := by decide +kernel
theorem dX4_weightOf_27 : decode cX4_weightOf 27 = .ok (.iload_n 3, 1) := by decide +kernel
theorem dX4_weightOf_28 : decode cX4_weightOf 28 = .ok (.iadd, 1) := by decide +kernel
theorem dX4_weightOf_29 : decode cX4_weightOf 29 = .ok (.iaload, 1) := by decide +kernel
theorem dX4_weightOf_30 : decode cX4_weightOf 30 = .ok (.iaload, 1) := by decide +kernel
theorem dX4_weightOf_31 : decode cX4_weightOf 31 = .ok (.aload_n 0, 1) := by decide +kernel
theorem dX4_weightOf_32 : decode cX4_weightOf 32 = .ok (.getfield 55, 3) := by decide +kernel
theorem dX4_weightOf_35 : decode cX4_weightOf 35 = .ok (.bipush 10, 2) := by decide +kernel
theorem dX4_weightOf_37 : decode cX4_weightOf 37 = .ok (.iload_n 1, 1) := by decide +kernel
theorem dX4_weightOf_38 : decode cX4_weightOf 38 = .ok (.imul, 1) := by decide +kernel
theorem dX4_weightOf_39 : decode cX4_weightOf 39 = .ok (.iload_n 3, 1) := by decide +kernel
theorem dX4_weightOf_40 : decode cX4_weightOf 40 = .ok (.iadd, 1) := by decide +kernel
theorem dX4_weightOf_41 : decode cX4_weightOf 41 = .ok (.iaload, 1) := by decide +kernel
theorem dX4_weightOf_42 : decode cX4_weightOf 42 = .ok (.imul, 1) := by decide +kernel
theorem dX4_weightOf_43 : decode cX4_weightOf 43 = .ok (.iadd, 1) := by decide +kernel
theorem dX4_weightOf_44 : decode cX4_weightOf 44 = .ok (.istore_n 2, 1) := by decide +kernel
theorem dX4_weightOf_45 : decode cX4_weightOf 45 = .ok (.iinc 3 1, 3) := by decide +kernel
theorem dX4_weightOf_48 : decode cX4_weightOf 48 = .ok (.goto (-44), 3) := by decide +kernel
theorem dX4_weightOf_51 : decode cX4_weightOf 51 = .ok (.iload_n 2, 1) := by decide +kernel
theorem dX4_weightOf_52 : decode cX4_weightOf 52 = .ok (.ireturn, 1) := by decide +kernel
theorem dX4_boxesOn_0 : decode cX4_boxesOn 0 = .ok (.iconst 0, 1) := by decide +kernel
theorem dX4_boxesOn_1 : decode cX4_boxesOn 1 = .ok (.istore_n 2, 1) := by decide +kernel
theorem dX4_boxesOn_2 : decode cX4_boxesOn 2 = .ok (.iconst 0, 1) := by decide +kernel
theorem dX4_boxesOn_3 : decode cX4_boxesOn 3 = .ok (.istore_n 3, 1) := by decide +kernel
theorem dX4_boxesOn_4 : decode cX4_boxesOn 4 = .ok (.iload_n 3, 1) := by decide +kernel
theorem dX4_boxesOn_5 : decode cX4_boxesOn 5 = .ok (.aload_n 0, 1) := by decide +kernel
theorem dX4_boxesOn_6 : decode cX4_boxesOn 6 = .ok (.getfield 49, 3) := by decide +kernel
theorem dX4_boxesOn_9 : decode cX4_boxesOn 9 = .ok (.iload_n 1, 1) := by decide +kernel
theorem dX4_boxesOn_10 : decode cX4_boxesOn 10 = .ok (.iaload, 1) := by decide +kernel
theorem dX4_boxesOn_11 : decode cX4_boxesOn 11 = .ok (.if_icmp .ge 23, 3) := by decide +kernel
theorem dX4_boxesOn_14 : decode cX4_boxesOn 14 = .ok (.iload_n 2, 1) := by decide +kernel
theorem dX4_boxesOn_15 : decode cX4_boxesOn 15 = .ok (.aload_n 0, 1) := by decide +kernel
theorem dX4_boxesOn_16 : decode cX4_boxesOn 16 = .ok (.getfield 55, 3) := by decide +kernel
theorem dX4_boxesOn_19 : decode cX4_boxesOn 19 = .ok (.bipush 10, 2) := by decide +kernel
theorem dX4_boxesOn_21 : decode cX4_boxesOn 21 = .ok (.iload_n 1, 1) := by decide +kernel
theorem dX4_boxesOn_22 : decode cX4_boxesOn 22 = .ok (.imul, 1) := by decide +kernel
theorem dX4_boxesOn_23 : decode cX4_boxesOn 23 = .ok (.iload_n 3, 1) := by decide +kernel
theorem dX4_boxesOn_24 : decode cX4_boxesOn 24 = .ok (.iadd, 1) := by decide +kernel
theorem dX4_boxesOn_25 : decode cX4_boxesOn 25 = .ok (.iaload, 1) := by decide +kernel
theorem dX4_boxesOn_26 : decode cX4_boxesOn 26 = .ok (.iadd, 1) := by decide +kernel
theorem dX4_boxesOn_27 : decode cX4_boxesOn 27 = .ok (.istore_n 2, 1) := by decide +kernel
theorem dX4_boxesOn_28 : decode cX4_boxesOn 28 = .ok (.iinc 3 1, 3) := by decide +kernel
theorem dX4_boxesOn_31 : decode cX4_boxesOn 31 = .ok (.goto (-27), 3) := by decide +kernel
theorem dX4_boxesOn_34 : decode cX4_boxesOn 34 = .ok (.iload_n 2, 1) := by decide +kernel
theorem dX4_boxesOn_35 : decode cX4_boxesOn 35 = .ok (.ireturn, 1) := by decide +kernel
set_option maxRecDepth 20000 in
theorem ggX4_supportOf_X4_areaOf : GoodIn wsX4_supportOf wsX4_areaOf := goodIn_ca (goodIn_r _ [8, 9, 10, 14, 15, 16, 17, 18, 19, 20, 21, 22, 23, 24, 25, 26, 27, 28, 29, 30, 31, 32, 33, 34, 35, 36, 37, 38, 39, 40, 41, 42, 43, 44, 45, 46] (by decide +kernel) (by decide +kernel)) (goodIn_sub (fun _ h => List.mem_cons_of_mem _ (List.mem_append_right _ h)) (by decide +kernel))
set_option maxRecDepth 20000 in
theorem gX4_supportOf_X4_areaOf : GoodIn wsX4_supportOf (wsV RX4 119 RX4 yX4_areaOf wsX4_areaOf) := goodIn_app (goodIn_of _ (by decide +kernel)) ggX4_supportOf_X4_areaOf
set_option maxRecDepth 20000 in
theorem ggX4_supportOf_X4_count : GoodIn wsX4_supportOf wsX4_count := goodIn_r _ [13] (by decide +kernel) (by decide +kernel)
set_option maxRecDepth 20000 in
theorem gX4_supportOf_X4_count : GoodIn wsX4_supportOf (va_wsS RX4 115 yX4_count wsX4_count) := goodIn_app (goodIn_of _ (by decide +kernel)) ggX4_supportOf_X4_count
theorem dX4_supportOf_0 : decode cX4_supportOf 0 = .ok (.iload 4, 2) := by decide +kernel
theorem dX4_supportOf_2 : decode cX4_supportOf 2 = .ok (.ifCond .ge 9, 3) := by decide +kernel
theorem dX4_supportOf_5 : decode cX4_supportOf 5 = .ok (.aload_n 0, 1) := by decide +kernel
theorem dX4_supportOf_6 : decode cX4_supportOf 6 = .ok (.iload_n 1, 1) := by decide +kernel
theorem dX4_supportOf_7 : decode cX4_supportOf 7 = .ok (.invokevirtual 119, 3) := by decide +kernel
theorem dX4_supportOf_10 : decode cX4_supportOf 10 = .ok (.ireturn, 1) := by decide +kernel
theorem dX4_supportOf_11 : decode cX4_supportOf 11 = .ok (.iconst 0, 1) := by decide +kernel
theorem dX4_supportOf_12 : decode cX4_supportOf 12 = .ok (.istore 5, 2) := by decide +kernel
theorem dX4_supportOf_14 : decode cX4_supportOf 14 = .ok (.aload_n 0, 1) := by decide +kernel
theorem dX4_supportOf_15 : decode cX4_supportOf 15 = .ok (.getfield 52, 3) := by decide +kernel
theorem dX4_supportOf_18 : decode cX4_supportOf 18 = .ok (.bipush 10, 2) := by decide +kernel
theorem dX4_supportOf_20 : decode cX4_supportOf 20 = .ok (.iload_n 3, 1) := by decide +kernel
theorem dX4_supportOf_21 : decode cX4_supportOf 21 = .ok (.imul, 1) := by decide +kernel
theorem dX4_supportOf_22 : decode cX4_supportOf 22 = .ok (.iload 4, 2) := by decide +kernel
theorem dX4_supportOf_24 : decode cX4_supportOf 24 = .ok (.iadd, 1) := by decide +kernel
theorem dX4_supportOf_25 : decode cX4_supportOf 25 = .ok (.iaload, 1) := by decide +kernel
theorem dX4_supportOf_26 : decode cX4_supportOf 26 = .ok (.istore 6, 2) := by decide +kernel
theorem dX4_supportOf_28 : decode cX4_supportOf 28 = .ok (.iconst 0, 1) := by decide +kernel
theorem dX4_supportOf_29 : decode cX4_supportOf 29 = .ok (.istore 7, 2) := by decide +kernel
theorem dX4_supportOf_31 : decode cX4_supportOf 31 = .ok (.iload 7, 2) := by decide +kernel
theorem dX4_supportOf_33 : decode cX4_supportOf 33 = .ok (.aload_n 0, 1) := by decide +kernel
theorem dX4_supportOf_34 : decode cX4_supportOf 34 = .ok (.getfield 55, 3) := by decide +kernel
theorem dX4_supportOf_37 : decode cX4_supportOf 37 = .ok (.bipush 10, 2) := by decide +kernel
theorem dX4_supportOf_39 : decode cX4_supportOf 39 = .ok (.iload_n 3, 1) := by decide +kernel
theorem dX4_supportOf_40 : decode cX4_supportOf 40 = .ok (.imul, 1) := by decide +kernel
theorem dX4_supportOf_41 : decode cX4_supportOf 41 = .ok (.iload 4, 2) := by decide +kernel
theorem dX4_supportOf_43 : decode cX4_supportOf 43 = .ok (.iadd, 1) := by decide +kernel
theorem dX4_supportOf_44 : decode cX4_supportOf 44 = .ok (.iaload, 1) := by decide +kernel
theorem dX4_supportOf_45 : decode cX4_supportOf 45 = .ok (.if_icmp .ge 42, 3) := by decide +kernel
theorem dX4_supportOf_48 : decode cX4_supportOf 48 = .ok (.iload 5, 2) := by decide +kernel
theorem dX4_supportOf_50 : decode cX4_supportOf 50 = .ok (.aload_n 0, 1) := by decide +kernel
theorem dX4_supportOf_51 : decode cX4_supportOf 51 = .ok (.getfield 29, 3) := by decide +kernel
theorem dX4_supportOf_54 : decode cX4_supportOf 54 = .ok (.bipush 36, 2) := by decide +kernel
theorem dX4_supportOf_56 : decode cX4_supportOf 56 = .ok (.iload_n 1, 1) := by decide +kernel
theorem dX4_supportOf_57 : decode cX4_supportOf 57 = .ok (.imul, 1) := by decide +kernel
theorem dX4_supportOf_58 : decode cX4_supportOf 58 = .ok (.iload_n 2, 1) := by decide +kernel
theorem dX4_supportOf_59 : decode cX4_supportOf 59 = .ok (.iadd, 1) := by decide +kernel
theorem dX4_supportOf_60 : decode cX4_supportOf 60 = .ok (.laload, 1) := by decide +kernel
theorem dX4_supportOf_61 : decode cX4_supportOf 61 = .ok (.aload_n 0, 1) := by decide +kernel
theorem dX4_supportOf_62 : decode cX4_supportOf 62 = .ok (.getfield 29, 3) := by decide +kernel
theorem dX4_supportOf_65 : decode cX4_supportOf 65 = .ok (.bipush 36, 2) := by decide +kernel
theorem dX4_supportOf_67 : decode cX4_supportOf 67 = .ok (.iload 6, 2) := by decide +kernel
theorem dX4_supportOf_69 : decode cX4_supportOf 69 = .ok (.imul, 1) := by decide +kernel
theorem dX4_supportOf_70 : decode cX4_supportOf 70 = .ok (.iload 7, 2) := by decide +kernel
theorem dX4_supportOf_72 : decode cX4_supportOf 72 = .ok (.iadd, 1) := by decide +kernel
theorem dX4_supportOf_73 : decode cX4_supportOf 73 = .ok (.laload, 1) := by decide +kernel
theorem dX4_supportOf_74 : decode cX4_supportOf 74 = .ok (.land, 1) := by decide +kernel
theorem dX4_supportOf_75 : decode cX4_supportOf 75 = .ok (.invokestatic 115, 3) := by decide +kernel
theorem dX4_supportOf_78 : decode cX4_supportOf 78 = .ok (.iadd, 1) := by decide +kernel
theorem dX4_supportOf_79 : decode cX4_supportOf 79 = .ok (.istore 5, 2) := by decide +kernel
theorem dX4_supportOf_81 : decode cX4_supportOf 81 = .ok (.iinc 7 1, 3) := by decide +kernel
theorem dX4_supportOf_84 : decode cX4_supportOf 84 = .ok (.goto (-53), 3) := by decide +kernel
theorem dX4_supportOf_87 : decode cX4_supportOf 87 = .ok (.iload 5, 2) := by decide +kernel
theorem dX4_supportOf_89 : decode cX4_supportOf 89 = .ok (.ireturn, 1) := by decide +kernel
set_option maxRecDepth 20000 in
theorem ggX4_reason_X4_supportOf : GoodIn wsX4_reason wsX4_supportOf := goodIn_ca (goodIn_r _ [12, 13, 14, 15, 16, 17, 18, 11, 19, 20, 21, 22, 23, 24, 33, 34, 35, 36, 37, 38, 39, 40, 41, 42, 43, 44, 45, 46, 47, 48, 49, 50, 51, 52, 53, 54, 55, 56, 57, 58, 59, 60, 61, 62, 63, 64, 65] (by decide +kernel) (by decide +kernel)) (goodIn_sub (fun _ h => List.mem_cons_of_mem _ (List.mem_append_right _ h)) (by decide +kernel))
set_option maxRecDepth 20000 in
theorem gX4_reason_X4_supportOf : GoodIn wsX4_reason (wsV RX4 163 RX4 yX4_supportOf wsX4_supportOf) := goodIn_app (goodIn_of _ (by decide +kernel)) ggX4_reason_X4_supportOf
set_option maxRecDepth 20000 in
theorem ggX4_reason_X4_areaOf : GoodIn wsX4_reason wsX4_areaOf := goodIn_ca (goodIn_r _ [19, 20, 21, 33, 34, 35, 36, 37, 38, 39, 40, 41, 42, 43, 44, 45, 46, 47, 48, 49, 50, 51, 52, 53, 54, 55, 56, 57, 58, 59, 60, 61, 62, 63, 64, 65] (by decide +kernel) (by decide +kernel)) (goodIn_sub (fun _ h => List.mem_cons_of_mem _ (List.mem_append_right _ h)) (by decide +kernel))
set_option maxRecDepth 20000 in
theorem gX4_reason_X4_areaOf : GoodIn wsX4_reason (wsV RX4 119 RX4 yX4_areaOf wsX4_areaOf) := goodIn_app (goodIn_of _ (by decide +kernel)) ggX4_reason_X4_areaOf
set_option maxRecDepth 20000 in
theorem ggX4_reason_X4_heightOf : GoodIn wsX4_reason wsX4_heightOf := goodIn_ca (goodIn_r _ [28, 4, 13, 33, 34, 35, 36, 37, 38, 39, 40, 41, 42, 43, 44, 45, 46, 47, 48, 49, 50, 51, 52, 53, 54, 55, 56, 57, 58, 59, 60, 61, 62, 63, 64, 65] (by decide +kernel) (by decide +kernel)) (goodIn_sub (fun _ h => List.mem_cons_of_mem _ (List.mem_append_right _ h)) (by decide +kernel))
set_option maxRecDepth 20000 in
theorem gX4_reason_X4_heightOf : GoodIn wsX4_reason (wsV RX4 167 RX4 yX4_heightOf wsX4_heightOf) := goodIn_app (goodIn_of _ (by decide +kernel)) ggX4_reason_X4_heightOf
set_option maxRecDepth 20000 in
theorem ggX4_reason_X4_weightOf : GoodIn wsX4_reason wsX4_weightOf := goodIn_ca (goodIn_r _ [32, 2, 6, 13, 14, 33, 34, 35, 36, 37, 38, 39, 40, 41, 42, 43, 44, 45, 46, 47, 48, 49, 50, 51, 52, 53, 54, 55, 56, 57, 58, 59, 60, 61, 62, 63, 64, 65] (by decide +kernel) (by decide +kernel)) (goodIn_sub (fun _ h => List.mem_cons_of_mem _ (List.mem_append_right _ h)) (by decide +kernel))
set_option maxRecDepth 20000 in
theorem gX4_reason_X4_weightOf : GoodIn wsX4_reason (wsV RX4 171 RX4 yX4_weightOf wsX4_weightOf) := goodIn_app (goodIn_of _ (by decide +kernel)) ggX4_reason_X4_weightOf
theorem dX4_reason_0 : decode cX4_reason 0 = .ok (.iload_n 3, 1) := by decide +kernel
theorem dX4_reason_1 : decode cX4_reason 1 = .ok (.aload_n 0, 1) := by decide +kernel
theorem dX4_reason_2 : decode cX4_reason 2 = .ok (.getfield 22, 3) := by decide +kernel
theorem dX4_reason_5 : decode cX4_reason 5 = .ok (.iload_n 2, 1) := by decide +kernel
theorem dX4_reason_6 : decode cX4_reason 6 = .ok (.iaload, 1) := by decide +kernel
theorem dX4_reason_7 : decode cX4_reason 7 = .ok (.if_icmp .le 5, 3) := by decide +kernel
theorem dX4_reason_10 : decode cX4_reason 10 = .ok (.iconst (-1), 1) := by decide +kernel
theorem dX4_reason_11 : decode cX4_reason 11 = .ok (.ireturn, 1) := by decide +kernel
theorem dX4_reason_12 : decode cX4_reason 12 = .ok (.iconst 0, 1) := by decide +kernel
theorem dX4_reason_13 : decode cX4_reason 13 = .ok (.istore 4, 2) := by decide +kernel
theorem dX4_reason_15 : decode cX4_reason 15 = .ok (.iload 4, 2) := by decide +kernel
theorem dX4_reason_17 : decode cX4_reason 17 = .ok (.iload_n 3, 1) := by decide +kernel
theorem dX4_reason_18 : decode cX4_reason 18 = .ok (.if_icmp .ge 44, 3) := by decide +kernel
theorem dX4_reason_21 : decode cX4_reason 21 = .ok (.bipush 100, 2) := by decide +kernel
theorem dX4_reason_23 : decode cX4_reason 23 = .ok (.aload_n 0, 1) := by decide +kernel
theorem dX4_reason_24 : decode cX4_reason 24 = .ok (.iload_n 2, 1) := by decide +kernel
theorem dX4_reason_25 : decode cX4_reason 25 = .ok (.iload 4, 2) := by decide +kernel
theorem dX4_reason_27 : decode cX4_reason 27 = .ok (.iload_n 1, 1) := by decide +kernel
theorem dX4_reason_28 : decode cX4_reason 28 = .ok (.aload_n 0, 1) := by decide +kernel
theorem dX4_reason_29 : decode cX4_reason 29 = .ok (.getfield 49, 3) := by decide +kernel
theorem dX4_reason_32 : decode cX4_reason 32 = .ok (.iload_n 1, 1) := by decide +kernel
theorem dX4_reason_33 : decode cX4_reason 33 = .ok (.iaload, 1) := by decide +kernel
theorem dX4_reason_34 : decode cX4_reason 34 = .ok (.iconst 1, 1) := by decide +kernel
theorem dX4_reason_35 : decode cX4_reason 35 = .ok (.isub, 1) := by decide +kernel
theorem dX4_reason_36 : decode cX4_reason 36 = .ok (.invokevirtual 163, 3) := by decide +kernel
theorem dX4_reason_39 : decode cX4_reason 39 = .ok (.imul, 1) := by decide +kernel
theorem dX4_reason_40 : decode cX4_reason 40 = .ok (.aload_n 0, 1) := by decide +kernel
theorem dX4_reason_41 : decode cX4_reason 41 = .ok (.getfield 39, 3) := by decide +kernel
theorem dX4_reason_44 : decode cX4_reason 44 = .ok (.aload_n 0, 1) := by decide +kernel
theorem dX4_reason_45 : decode cX4_reason 45 = .ok (.iload_n 2, 1) := by decide +kernel
theorem dX4_reason_46 : decode cX4_reason 46 = .ok (.invokevirtual 119, 3) := by decide +kernel
theorem dX4_reason_49 : decode cX4_reason 49 = .ok (.imul, 1) := by decide +kernel
theorem dX4_reason_50 : decode cX4_reason 50 = .ok (.if_icmp .ge 6, 3) := by decide +kernel
theorem dX4_reason_53 : decode cX4_reason 53 = .ok (.bipush (-2), 2) := by decide +kernel
theorem dX4_reason_55 : decode cX4_reason 55 = .ok (.ireturn, 1) := by decide +kernel
theorem dX4_reason_56 : decode cX4_reason 56 = .ok (.iinc 4 1, 3) := by decide +kernel
theorem dX4_reason_59 : decode cX4_reason 59 = .ok (.goto (-44), 3) := by decide +kernel
theorem dX4_reason_62 : decode cX4_reason 62 = .ok (.aload_n 0, 1) := by decide +kernel
theorem dX4_reason_63 : decode cX4_reason 63 = .ok (.iload_n 1, 1) := by decide +kernel
theorem dX4_reason_64 : decode cX4_reason 64 = .ok (.aload_n 0, 1) := by decide +kernel
theorem dX4_reason_65 : decode cX4_reason 65 = .ok (.getfield 49, 3) := by decide +kernel
theorem dX4_reason_68 : decode cX4_reason 68 = .ok (.iload_n 1, 1) := by decide +kernel
theorem dX4_reason_69 : decode cX4_reason 69 = .ok (.iaload, 1) := by decide +kernel
theorem dX4_reason_70 : decode cX4_reason 70 = .ok (.invokevirtual 167, 3) := by decide +kernel
theorem dX4_reason_73 : decode cX4_reason 73 = .ok (.aload_n 0, 1) := by decide +kernel
theorem dX4_reason_74 : decode cX4_reason 74 = .ok (.getfield 16, 3) := by decide +kernel
theorem dX4_reason_77 : decode cX4_reason 77 = .ok (.iload_n 2, 1) := by decide +kernel
theorem dX4_reason_78 : decode cX4_reason 78 = .ok (.iaload, 1) := by decide +kernel
theorem dX4_reason_79 : decode cX4_reason 79 = .ok (.iadd, 1) := by decide +kernel
theorem dX4_reason_80 : decode cX4_reason 80 = .ok (.aload_n 0, 1) := by decide +kernel
theorem dX4_reason_81 : decode cX4_reason 81 = .ok (.getfield 43, 3) := by decide +kernel
theorem dX4_reason_84 : decode cX4_reason 84 = .ok (.if_icmp .le 6, 3) := by decide +kernel
theorem dX4_reason_87 : decode cX4_reason 87 = .ok (.bipush (-3), 2) := by decide +kernel
theorem dX4_reason_89 : decode cX4_reason 89 = .ok (.ireturn, 1) := by decide +kernel
theorem dX4_reason_90 : decode cX4_reason 90 = .ok (.aload_n 0, 1) := by decide +kernel
theorem dX4_reason_91 : decode cX4_reason 91 = .ok (.iload_n 1, 1) := by decide +kernel
theorem dX4_reason_92 : decode cX4_reason 92 = .ok (.invokevirtual 171, 3) := by decide +kernel
theorem dX4_reason_95 : decode cX4_reason 95 = .ok (.iload_n 3, 1) := by decide +kernel
theorem dX4_reason_96 : decode cX4_reason 96 = .ok (.aload_n 0, 1) := by decide +kernel
theorem dX4_reason_97 : decode cX4_reason 97 = .ok (.getfield 19, 3) := by decide +kernel
theorem dX4_reason_100 : decode cX4_reason 100 = .ok (.iload_n 2, 1) := by decide +kernel
theorem dX4_reason_101 : decode cX4_reason 101 = .ok (.iaload, 1) := by decide +kernel
theorem dX4_reason_102 : decode cX4_reason 102 = .ok (.imul, 1) := by decide +kernel
theorem dX4_reason_103 : decode cX4_reason 103 = .ok (.iadd, 1) := by decide +kernel
theorem dX4_reason_104 : decode cX4_reason 104 = .ok (.aload_n 0, 1) := by decide +kernel
theorem dX4_reason_105 : decode cX4_reason 105 = .ok (.getfield 46, 3) := by decide +kernel
theorem dX4_reason_108 : decode cX4_reason 108 = .ok (.if_icmp .le 8, 3) := by decide +kernel
theorem dX4_reason_111 : decode cX4_reason 111 = .ok (.bipush (-4), 2) := by decide +kernel
theorem dX4_reason_113 : decode cX4_reason 113 = .ok (.goto 4, 3) := by decide +kernel
theorem dX4_reason_116 : decode cX4_reason 116 = .ok (.iconst 0, 1) := by decide +kernel
theorem dX4_reason_117 : decode cX4_reason 117 = .ok (.ireturn, 1) := by decide +kernel
theorem dX4_add_0 : decode cX4_add 0 = .ok (.aload_n 0, 1) := by decide +kernel
theorem dX4_add_1 : decode cX4_add 1 = .ok (.getfield 52, 3) := by decide +kernel
theorem dX4_add_4 : decode cX4_add 4 = .ok (.bipush 10, 2) := by decide +kernel
theorem dX4_add_6 : decode cX4_add 6 = .ok (.iload_n 1, 1) := by decide +kernel
theorem dX4_add_7 : decode cX4_add 7 = .ok (.imul, 1) := by decide +kernel
theorem dX4_add_8 : decode cX4_add 8 = .ok (.aload_n 0, 1) := by decide +kernel
theorem dX4_add_9 : decode cX4_add 9 = .ok (.getfield 49, 3) := by decide +kernel
theorem dX4_add_12 : decode cX4_add 12 = .ok (.iload_n 1, 1) := by decide +kernel
theorem dX4_add_13 : decode cX4_add 13 = .ok (.iaload, 1) := by decide +kernel
theorem dX4_add_14 : decode cX4_add 14 = .ok (.iadd, 1) := by decide +kernel
theorem dX4_add_15 : decode cX4_add 15 = .ok (.iload_n 2, 1) := by decide +kernel
theorem dX4_add_16 : decode cX4_add 16 = .ok (.iastore, 1) := by decide +kernel
theorem dX4_add_17 : decode cX4_add 17 = .ok (.aload_n 0, 1) := by decide +kernel
theorem dX4_add_18 : decode cX4_add 18 = .ok (.getfield 55, 3) := by decide +kernel
theorem dX4_add_21 : decode cX4_add 21 = .ok (.bipush 10, 2) := by decide +kernel
theorem dX4_add_23 : decode cX4_add 23 = .ok (.iload_n 1, 1) := by decide +kernel
theorem dX4_add_24 : decode cX4_add 24 = .ok (.imul, 1) := by decide +kernel
theorem dX4_add_25 : decode cX4_add 25 = .ok (.aload_n 0, 1) := by decide +kernel
theorem dX4_add_26 : decode cX4_add 26 = .ok (.getfield 49, 3) := by decide +kernel
theorem dX4_add_29 : decode cX4_add 29 = .ok (.iload_n 1, 1) := by decide +kernel
theorem dX4_add_30 : decode cX4_add 30 = .ok (.iaload, 1) := by decide +kernel
theorem dX4_add_31 : decode cX4_add 31 = .ok (.iadd, 1) := by decide +kernel
theorem dX4_add_32 : decode cX4_add 32 = .ok (.iload_n 3, 1) := by decide +kernel
theorem dX4_add_33 : decode cX4_add 33 = .ok (.iastore, 1) := by decide +kernel
theorem dX4_add_34 : decode cX4_add 34 = .ok (.aload_n 0, 1) := by decide +kernel
theorem dX4_add_35 : decode cX4_add 35 = .ok (.getfield 49, 3) := by decide +kernel
theorem dX4_add_38 : decode cX4_add 38 = .ok (.iload_n 1, 1) := by decide +kernel
theorem dX4_add_39 : decode cX4_add 39 = .ok (.dup2, 1) := by decide +kernel
theorem dX4_add_40 : decode cX4_add 40 = .ok (.iaload, 1) := by decide +kernel
theorem dX4_add_41 : decode cX4_add 41 = .ok (.iconst 1, 1) := by decide +kernel
theorem dX4_add_42 : decode cX4_add 42 = .ok (.iadd, 1) := by decide +kernel
theorem dX4_add_43 : decode cX4_add 43 = .ok (.iastore, 1) := by decide +kernel
theorem dX4_add_44 : decode cX4_add 44 = .ok (.return_, 1) := by decide +kernel
set_option maxRecDepth 20000 in
theorem ggX4_put_X4_isPallet : GoodIn wsX4_put wsX4_isPallet := goodIn_r _ [8, 9, 10, 11, 7, 12, 56, 57, 58, 59, 60, 61, 62, 63, 64, 65, 66, 67, 68, 69, 70, 71, 72, 73, 74, 75, 76, 77, 78, 79, 80, 81, 82, 83, 84, 85, 86, 87, 88] (by decide +kernel) (by decide +kernel)
set_option maxRecDepth 20000 in
theorem gX4_put_X4_isPallet : GoodIn wsX4_put (wsV RX4 174 RX4 yX4_isPallet wsX4_isPallet) := goodIn_app (goodIn_of _ (by decide +kernel)) ggX4_put_X4_isPallet
set_option maxRecDepth 20000 in
theorem ggX4_put_X4_isKind : GoodIn wsX4_put wsX4_isKind := goodIn_r _ [16, 17, 10, 11, 7, 12, 56, 57, 58, 59, 60, 61, 62, 63, 64, 65, 66, 67, 68, 69, 70, 71, 72, 73, 74, 75, 76, 77, 78, 79, 80, 81, 82, 83, 84, 85, 86, 87, 88] (by decide +kernel) (by decide +kernel)
set_option maxRecDepth 20000 in
theorem gX4_put_X4_isKind : GoodIn wsX4_put (wsV RX4 153 RX4 yX4_isKind wsX4_isKind) := goodIn_app (goodIn_of _ (by decide +kernel)) ggX4_put_X4_isKind
set_option maxRecDepth 20000 in
theorem ggX4_put_X4_within : GoodIn wsX4_put wsX4_within := goodIn_r _ [12] (by decide +kernel) (by decide +kernel)
set_option maxRecDepth 20000 in
theorem gX4_put_X4_within : GoodIn wsX4_put (va_wsS RX4 95 yX4_within wsX4_within) := goodIn_app (goodIn_of _ (by decide +kernel)) ggX4_put_X4_within
set_option maxRecDepth 20000 in
theorem ggX4_put_X4_reason : GoodIn wsX4_put wsX4_reason := goodIn_ca (goodIn_r _ [21, 22, 2, 23, 24, 25, 26, 27, 28, 29, 30, 7, 31, 32, 33, 34, 35, 36, 37, 38, 39, 40, 41, 42, 43, 44, 45, 46, 47, 48, 49, 50, 51, 56, 57, 58, 59, 60, 61, 62, 63, 64, 65, 66, 67, 68, 69, 70, 71, 72, 73, 74, 75, 76, 77, 78, 79, 80, 81, 82, 83, 84, 85, 86, 87, 88] (by decide +kernel) (by decide +kernel)) (goodIn_sub (fun _ h => List.mem_cons_of_mem _ (List.mem_append_right _ h)) (by decide +kernel))
set_option maxRecDepth 20000 in
theorem gX4_put_X4_reason : GoodIn wsX4_put (wsV RX4 177 RX4 yX4_reason wsX4_reason) := goodIn_app (goodIn_of _ (by decide +kernel)) ggX4_put_X4_reason
set_option maxRecDepth 20000 in
theorem ggX4_put_X4_add : GoodIn wsX4_put wsX4_add := goodIn_ca (goodIn_r _ [55, 32, 2, 33, 56, 57, 58, 59, 60, 61, 62, 63, 64, 65, 66, 67, 68, 69, 70, 71, 72, 73, 74, 75, 76, 77, 78, 79, 80, 81, 82, 83, 84, 85, 86, 87, 88] (by decide +kernel) (by decide +kernel)) (goodIn_sub (fun _ h => List.mem_cons_of_mem _ (List.mem_append_right _ h)) (by decide +kernel))
set_option maxRecDepth 20000 in
theorem gX4_put_X4_add : GoodIn wsX4_put (wsV RX4 181 RX4 yX4_add wsX4_add) := goodIn_app (goodIn_of _ (by decide +kernel)) ggX4_put_X4_add
theorem dX4_put_0 : decode cX4_put 0 = .ok (.aload_n 0, 1) := by decide +kernel
theorem dX4_put_1 : decode cX4_put 1 = .ok (.aload_n 0, 1) := by decide +kernel
theorem dX4_put_2 : decode cX4_put 2 = .ok (.iload_n 1, 1) := by decide +kernel
theorem dX4_put_3 : decode cX4_put 3 = .ok (.invokevirtual 174, 3) := by decide +kernel
theorem dX4_put_6 : decode cX4_put 6 = .ok (.ifCond .eq 11, 3) := by decide +kernel
theorem dX4_put_9 : decode cX4_put 9 = .ok (.aload_n 0, 1) := by decide +kernel
theorem dX4_put_10 : decode cX4_put 10 = .ok (.iload_n 2, 1) := by decide +kernel
theorem dX4_put_11 : decode cX4_put 11 = .ok (.invokevirtual 153, 3) := by decide +kernel
theorem dX4_put_14 : decode cX4_put 14 = .ok (.ifCond .ne 7, 3) := by decide +kernel
theorem dX4_put_17 : decode cX4_put 17 = .ok (.iconst 1, 1) := by decide +kernel
theorem dX4_put_18 : decode cX4_put 18 = .ok (.goto 47, 3) := by decide +kernel
theorem dX4_put_21 : decode cX4_put 21 = .ok (.iload_n 3, 1) := by decide +kernel
theorem dX4_put_22 : decode cX4_put 22 = .ok (.iconst 1, 1) := by decide +kernel
theorem dX4_put_23 : decode cX4_put 23 = .ok (.bipush 100, 2) := by decide +kernel
theorem dX4_put_25 : decode cX4_put 25 = .ok (.invokestatic 95, 3) := by decide +kernel
theorem dX4_put_28 : decode cX4_put 28 = .ok (.ifCond .ne 7, 3) := by decide +kernel
theorem dX4_put_31 : decode cX4_put 31 = .ok (.iconst 2, 1) := by decide +kernel
theorem dX4_put_32 : decode cX4_put 32 = .ok (.goto 33, 3) := by decide +kernel
theorem dX4_put_35 : decode cX4_put 35 = .ok (.aload_n 0, 1) := by decide +kernel
theorem dX4_put_36 : decode cX4_put 36 = .ok (.getfield 58, 3) := by decide +kernel
theorem dX4_put_39 : decode cX4_put 39 = .ok (.iload_n 1, 1) := by decide +kernel
theorem dX4_put_40 : decode cX4_put 40 = .ok (.iaload, 1) := by decide +kernel
theorem dX4_put_41 : decode cX4_put 41 = .ok (.iconst (-1), 1) := by decide +kernel
theorem dX4_put_42 : decode cX4_put 42 = .ok (.if_icmp .eq 7, 3) := by decide +kernel
theorem dX4_put_45 : decode cX4_put 45 = .ok (.iconst 3, 1) := by decide +kernel
theorem dX4_put_46 : decode cX4_put 46 = .ok (.goto 19, 3) := by decide +kernel
theorem dX4_put_49 : decode cX4_put 49 = .ok (.aload_n 0, 1) := by decide +kernel
theorem dX4_put_50 : decode cX4_put 50 = .ok (.getfield 49, 3) := by decide +kernel
theorem dX4_put_53 : decode cX4_put 53 = .ok (.iload_n 1, 1) := by decide +kernel
theorem dX4_put_54 : decode cX4_put 54 = .ok (.iaload, 1) := by decide +kernel
theorem dX4_put_55 : decode cX4_put 55 = .ok (.bipush 10, 2) := by decide +kernel
theorem dX4_put_57 : decode cX4_put 57 = .ok (.if_icmp .ne 7, 3) := by decide +kernel
theorem dX4_put_60 : decode cX4_put 60 = .ok (.iconst 4, 1) := by decide +kernel
theorem dX4_put_61 : decode cX4_put 61 = .ok (.goto 4, 3) := by decide +kernel
theorem dX4_put_64 : decode cX4_put 64 = .ok (.iconst 0, 1) := by decide +kernel
theorem dX4_put_65 : decode cX4_put 65 = .ok (.putfield 89, 3) := by decide +kernel
theorem dX4_put_68 : decode cX4_put 68 = .ok (.aload_n 0, 1) := by decide +kernel
theorem dX4_put_69 : decode cX4_put 69 = .ok (.getfield 89, 3) := by decide +kernel
theorem dX4_put_72 : decode cX4_put 72 = .ok (.ifCond .eq 5, 3) := by decide +kernel
theorem dX4_put_75 : decode cX4_put 75 = .ok (.iconst 0, 1) := by decide +kernel
theorem dX4_put_76 : decode cX4_put 76 = .ok (.ireturn, 1) := by decide +kernel
theorem dX4_put_77 : decode cX4_put 77 = .ok (.aload_n 0, 1) := by decide +kernel
theorem dX4_put_78 : decode cX4_put 78 = .ok (.iload_n 1, 1) := by decide +kernel
theorem dX4_put_79 : decode cX4_put 79 = .ok (.iload_n 2, 1) := by decide +kernel
theorem dX4_put_80 : decode cX4_put 80 = .ok (.iload_n 3, 1) := by decide +kernel
theorem dX4_put_81 : decode cX4_put 81 = .ok (.invokevirtual 177, 3) := by decide +kernel
theorem dX4_put_84 : decode cX4_put 84 = .ok (.istore 4, 2) := by decide +kernel
theorem dX4_put_86 : decode cX4_put 86 = .ok (.iload 4, 2) := by decide +kernel
theorem dX4_put_88 : decode cX4_put 88 = .ok (.ifCond .eq 6, 3) := by decide +kernel
theorem dX4_put_91 : decode cX4_put 91 = .ok (.iload 4, 2) := by decide +kernel
theorem dX4_put_93 : decode cX4_put 93 = .ok (.ireturn, 1) := by decide +kernel
theorem dX4_put_94 : decode cX4_put 94 = .ok (.aload_n 0, 1) := by decide +kernel
theorem dX4_put_95 : decode cX4_put 95 = .ok (.iload_n 1, 1) := by decide +kernel
theorem dX4_put_96 : decode cX4_put 96 = .ok (.iload_n 2, 1) := by decide +kernel
theorem dX4_put_97 : decode cX4_put 97 = .ok (.iload_n 3, 1) := by decide +kernel
theorem dX4_put_98 : decode cX4_put 98 = .ok (.invokevirtual 181, 3) := by decide +kernel
theorem dX4_put_101 : decode cX4_put 101 = .ok (.aload_n 0, 1) := by decide +kernel
theorem dX4_put_102 : decode cX4_put 102 = .ok (.getfield 49, 3) := by decide +kernel
theorem dX4_put_105 : decode cX4_put 105 = .ok (.iload_n 1, 1) := by decide +kernel
theorem dX4_put_106 : decode cX4_put 106 = .ok (.iaload, 1) := by decide +kernel
theorem dX4_put_107 : decode cX4_put 107 = .ok (.ireturn, 1) := by decide +kernel
set_option maxRecDepth 20000 in
theorem ggX4_fill_X4_isPallet : GoodIn wsX4_fill wsX4_isPallet := goodIn_r _ [9, 10, 11, 12, 8, 13, 56, 57, 58, 59, 60, 61, 62, 63, 64, 65, 66, 67, 68, 69, 70, 71, 72, 73, 74, 75, 76, 77, 78, 79, 80, 81, 82, 83, 84, 85, 86, 87, 88] (by decide +kernel) (by decide +kernel)
set_option maxRecDepth 20000 in
theorem gX4_fill_X4_isPallet : GoodIn wsX4_fill (wsV RX4 174 RX4 yX4_isPallet wsX4_isPallet) := goodIn_app (goodIn_of _ (by decide +kernel)) ggX4_fill_X4_isPallet
set_option maxRecDepth 20000 in
theorem ggX4_fill_X4_isKind : GoodIn wsX4_fill wsX4_isKind := goodIn_r _ [17, 18, 11, 12, 8, 13, 56, 57, 58, 59, 60, 61, 62, 63, 64, 65, 66, 67, 68, 69, 70, 71, 72, 73, 74, 75, 76, 77, 78, 79, 80, 81, 82, 83, 84, 85, 86, 87, 88] (by decide +kernel) (by decide +kernel)
set_option maxRecDepth 20000 in
theorem gX4_fill_X4_isKind : GoodIn wsX4_fill (wsV RX4 153 RX4 yX4_isKind wsX4_isKind) := goodIn_app (goodIn_of _ (by decide +kernel)) ggX4_fill_X4_isKind
set_option maxRecDepth 20000 in
theorem ggX4_fill_X4_within : GoodIn wsX4_fill wsX4_within := goodIn_r _ [13] (by decide +kernel) (by decide +kernel)
set_option maxRecDepth 20000 in
theorem gX4_fill_X4_within : GoodIn wsX4_fill (va_wsS RX4 95 yX4_within wsX4_within) := goodIn_app (goodIn_of _ (by decide +kernel)) ggX4_fill_X4_within
set_option maxRecDepth 20000 in
theorem ggX4_fill_X4_reason : GoodIn wsX4_fill wsX4_reason := goodIn_ca (goodIn_r _ [22, 3, 4, 23, 24, 25, 26, 27, 28, 29, 30, 8, 31, 32, 33, 34, 35, 36, 37, 38, 39, 40, 41, 42, 43, 44, 45, 46, 47, 48, 49, 50, 51, 56, 57, 58, 59, 60, 61, 62, 63, 64, 65, 66, 67, 68, 69, 70, 71, 72, 73, 74, 75, 76, 77, 78, 79, 80, 81, 82, 83, 84, 85, 86, 87, 88] (by decide +kernel) (by decide +kernel)) (goodIn_sub (fun _ h => List.mem_cons_of_mem _ (List.mem_append_right _ h)) (by decide +kernel))
set_option maxRecDepth 20000 in
theorem gX4_fill_X4_reason : GoodIn wsX4_fill (wsV RX4 177 RX4 yX4_reason wsX4_reason) := goodIn_app (goodIn_of _ (by decide +kernel)) ggX4_fill_X4_reason
set_option maxRecDepth 20000 in
theorem ggX4_fill_X4_add : GoodIn wsX4_fill wsX4_add := goodIn_ca (goodIn_r _ [55, 32, 4, 33, 56, 57, 58, 59, 60, 61, 62, 63, 64, 65, 66, 67, 68, 69, 70, 71, 72, 73, 74, 75, 76, 77, 78, 79, 80, 81, 82, 83, 84, 85, 86, 87, 88] (by decide +kernel) (by decide +kernel)) (goodIn_sub (fun _ h => List.mem_cons_of_mem _ (List.mem_append_right _ h)) (by decide +kernel))
set_option maxRecDepth 20000 in
theorem gX4_fill_X4_add : GoodIn wsX4_fill (wsV RX4 181 RX4 yX4_add wsX4_add) := goodIn_app (goodIn_of _ (by decide +kernel)) ggX4_fill_X4_add
theorem dX4_fill_0 : decode cX4_fill 0 = .ok (.aload_n 0, 1) := by decide +kernel
theorem dX4_fill_1 : decode cX4_fill 1 = .ok (.aload_n 0, 1) := by decide +kernel
theorem dX4_fill_2 : decode cX4_fill 2 = .ok (.iload_n 1, 1) := by decide +kernel
theorem dX4_fill_3 : decode cX4_fill 3 = .ok (.invokevirtual 174, 3) := by decide +kernel
theorem dX4_fill_6 : decode cX4_fill 6 = .ok (.ifCond .eq 11, 3) := by decide +kernel
theorem dX4_fill_9 : decode cX4_fill 9 = .ok (.aload_n 0, 1) := by decide +kernel
theorem dX4_fill_10 : decode cX4_fill 10 = .ok (.iload_n 2, 1) := by decide +kernel
theorem dX4_fill_11 : decode cX4_fill 11 = .ok (.invokevirtual 153, 3) := by decide +kernel
theorem dX4_fill_14 : decode cX4_fill 14 = .ok (.ifCond .ne 7, 3) := by decide +kernel
theorem dX4_fill_17 : decode cX4_fill 17 = .ok (.iconst 1, 1) := by decide +kernel
theorem dX4_fill_18 : decode cX4_fill 18 = .ok (.goto 33, 3) := by decide +kernel
theorem dX4_fill_21 : decode cX4_fill 21 = .ok (.iload_n 3, 1) := by decide +kernel
theorem dX4_fill_22 : decode cX4_fill 22 = .ok (.iconst 1, 1) := by decide +kernel
theorem dX4_fill_23 : decode cX4_fill 23 = .ok (.sipush 600, 3) := by decide +kernel
theorem dX4_fill_26 : decode cX4_fill 26 = .ok (.invokestatic 95, 3) := by decide +kernel
theorem dX4_fill_29 : decode cX4_fill 29 = .ok (.ifCond .ne 7, 3) := by decide +kernel
theorem dX4_fill_32 : decode cX4_fill 32 = .ok (.iconst 2, 1) := by decide +kernel
theorem dX4_fill_33 : decode cX4_fill 33 = .ok (.goto 18, 3) := by decide +kernel
theorem dX4_fill_36 : decode cX4_fill 36 = .ok (.aload_n 0, 1) := by decide +kernel
theorem dX4_fill_37 : decode cX4_fill 37 = .ok (.getfield 58, 3) := by decide +kernel
theorem dX4_fill_40 : decode cX4_fill 40 = .ok (.iload_n 1, 1) := by decide +kernel
theorem dX4_fill_41 : decode cX4_fill 41 = .ok (.iaload, 1) := by decide +kernel
theorem dX4_fill_42 : decode cX4_fill 42 = .ok (.iconst (-1), 1) := by decide +kernel
theorem dX4_fill_43 : decode cX4_fill 43 = .ok (.if_icmp .eq 7, 3) := by decide +kernel
theorem dX4_fill_46 : decode cX4_fill 46 = .ok (.iconst 3, 1) := by decide +kernel
theorem dX4_fill_47 : decode cX4_fill 47 = .ok (.goto 4, 3) := by decide +kernel
theorem dX4_fill_50 : decode cX4_fill 50 = .ok (.iconst 0, 1) := by decide +kernel
theorem dX4_fill_51 : decode cX4_fill 51 = .ok (.putfield 89, 3) := by decide +kernel
theorem dX4_fill_54 : decode cX4_fill 54 = .ok (.aload_n 0, 1) := by decide +kernel
theorem dX4_fill_55 : decode cX4_fill 55 = .ok (.getfield 89, 3) := by decide +kernel
theorem dX4_fill_58 : decode cX4_fill 58 = .ok (.ifCond .ne 12, 3) := by decide +kernel
theorem dX4_fill_61 : decode cX4_fill 61 = .ok (.aload_n 0, 1) := by decide +kernel
theorem dX4_fill_62 : decode cX4_fill 62 = .ok (.getfield 22, 3) := by decide +kernel
theorem dX4_fill_65 : decode cX4_fill 65 = .ok (.iload_n 2, 1) := by decide +kernel
theorem dX4_fill_66 : decode cX4_fill 66 = .ok (.iaload, 1) := by decide +kernel
theorem dX4_fill_67 : decode cX4_fill 67 = .ok (.ifCond .ne 5, 3) := by decide +kernel
theorem dX4_fill_70 : decode cX4_fill 70 = .ok (.iconst 0, 1) := by decide +kernel
theorem dX4_fill_71 : decode cX4_fill 71 = .ok (.ireturn, 1) := by decide +kernel
theorem dX4_fill_72 : decode cX4_fill 72 = .ok (.iload_n 3, 1) := by decide +kernel
theorem dX4_fill_73 : decode cX4_fill 73 = .ok (.istore 4, 2) := by decide +kernel
theorem dX4_fill_75 : decode cX4_fill 75 = .ok (.iconst 1, 1) := by decide +kernel
theorem dX4_fill_76 : decode cX4_fill 76 = .ok (.istore 5, 2) := by decide +kernel
theorem dX4_fill_78 : decode cX4_fill 78 = .ok (.iload 4, 2) := by decide +kernel
theorem dX4_fill_80 : decode cX4_fill 80 = .ok (.ifCond .le 84, 3) := by decide +kernel
theorem dX4_fill_83 : decode cX4_fill 83 = .ok (.iload 5, 2) := by decide +kernel
theorem dX4_fill_85 : decode cX4_fill 85 = .ok (.ifCond .eq 79, 3) := by decide +kernel
theorem dX4_fill_88 : decode cX4_fill 88 = .ok (.iload 4, 2) := by decide +kernel
theorem dX4_fill_90 : decode cX4_fill 90 = .ok (.aload_n 0, 1) := by decide +kernel
theorem dX4_fill_91 : decode cX4_fill 91 = .ok (.getfield 22, 3) := by decide +kernel
theorem dX4_fill_94 : decode cX4_fill 94 = .ok (.iload_n 2, 1) := by decide +kernel
theorem dX4_fill_95 : decode cX4_fill 95 = .ok (.iaload, 1) := by decide +kernel
theorem dX4_fill_96 : decode cX4_fill 96 = .ok (.if_icmp .ge 8, 3) := by decide +kernel
theorem dX4_fill_99 : decode cX4_fill 99 = .ok (.iload 4, 2) := by decide +kernel
theorem dX4_fill_101 : decode cX4_fill 101 = .ok (.goto 9, 3) := by decide +kernel
theorem dX4_fill_104 : decode cX4_fill 104 = .ok (.aload_n 0, 1) := by decide +kernel
theorem dX4_fill_105 : decode cX4_fill 105 = .ok (.getfield 22, 3) := by decide +kernel
theorem dX4_fill_108 : decode cX4_fill 108 = .ok (.iload_n 2, 1) := by decide +kernel
theorem dX4_fill_109 : decode cX4_fill 109 = .ok (.iaload, 1) := by decide +kernel
theorem dX4_fill_110 : decode cX4_fill 110 = .ok (.istore 6, 2) := by decide +kernel
theorem dX4_fill_112 : decode cX4_fill 112 = .ok (.aload_n 0, 1) := by decide +kernel
theorem dX4_fill_113 : decode cX4_fill 113 = .ok (.getfield 49, 3) := by decide +kernel
theorem dX4_fill_116 : decode cX4_fill 116 = .ok (.iload_n 1, 1) := by decide +kernel
theorem dX4_fill_117 : decode cX4_fill 117 = .ok (.iaload, 1) := by decide +kernel
theorem dX4_fill_118 : decode cX4_fill 118 = .ok (.bipush 10, 2) := by decide +kernel
theorem dX4_fill_120 : decode cX4_fill 120 = .ok (.if_icmp .ge 18, 3) := by decide +kernel
theorem dX4_fill_123 : decode cX4_fill 123 = .ok (.aload_n 0, 1) := by decide +kernel
theorem dX4_fill_124 : decode cX4_fill 124 = .ok (.iload_n 1, 1) := by decide +kernel
theorem dX4_fill_125 : decode cX4_fill 125 = .ok (.iload_n 2, 1) := by decide +kernel
theorem dX4_fill_126 : decode cX4_fill 126 = .ok (.iload 6, 2) := by decide +kernel
theorem dX4_fill_128 : decode cX4_fill 128 = .ok (.invokevirtual 177, 3) := by decide +kernel
theorem dX4_fill_131 : decode cX4_fill 131 = .ok (.ifCond .ne 7, 3) := by decide +kernel
theorem dX4_fill_134 : decode cX4_fill 134 = .ok (.iconst 1, 1) := by decide +kernel
theorem dX4_fill_135 : decode cX4_fill 135 = .ok (.goto 4, 3) := by decide +kernel
theorem dX4_fill_138 : decode cX4_fill 138 = .ok (.iconst 0, 1) := by decide +kernel
theorem dX4_fill_139 : decode cX4_fill 139 = .ok (.istore 5, 2) := by decide +kernel
theorem dX4_fill_141 : decode cX4_fill 141 = .ok (.iload 5, 2) := by decide +kernel
theorem dX4_fill_143 : decode cX4_fill 143 = .ok (.ifCond .eq 18, 3) := by decide +kernel
theorem dX4_fill_146 : decode cX4_fill 146 = .ok (.aload_n 0, 1) := by decide +kernel
theorem dX4_fill_147 : decode cX4_fill 147 = .ok (.iload_n 1, 1) := by decide +kernel
theorem dX4_fill_148 : decode cX4_fill 148 = .ok (.iload_n 2, 1) := by decide +kernel
theorem dX4_fill_149 : decode cX4_fill 149 = .ok (.iload 6, 2) := by decide +kernel
theorem dX4_fill_151 : decode cX4_fill 151 = .ok (.invokevirtual 181, 3) := by decide +kernel
theorem dX4_fill_154 : decode cX4_fill 154 = .ok (.iload 4, 2) := by decide +kernel
theorem dX4_fill_156 : decode cX4_fill 156 = .ok (.iload 6, 2) := by decide +kernel
theorem dX4_fill_158 : decode cX4_fill 158 = .ok (.isub, 1) := by decide +kernel
theorem dX4_fill_159 : decode cX4_fill 159 = .ok (.istore 4, 2) := by decide +kernel
theorem dX4_fill_161 : decode cX4_fill 161 = .ok (.goto (-83), 3) := by decide +kernel
theorem dX4_fill_164 : decode cX4_fill 164 = .ok (.iload_n 3, 1) := by decide +kernel
theorem dX4_fill_165 : decode cX4_fill 165 = .ok (.iload 4, 2) := by decide +kernel
theorem dX4_fill_167 : decode cX4_fill 167 = .ok (.isub, 1) := by decide +kernel
theorem dX4_fill_168 : decode cX4_fill 168 = .ok (.ireturn, 1) := by decide +kernel
set_option maxRecDepth 20000 in
theorem ggX4_take_X4_isPallet : GoodIn wsX4_take wsX4_isPallet := goodIn_r _ [9, 10, 11, 12, 8, 13, 14, 15, 16, 17, 18, 19, 20, 21, 22, 23, 24, 25, 26, 27, 28, 29, 30, 31, 32, 33, 34, 35, 36, 37, 38, 39, 40, 41, 42, 43, 44, 45, 46] (by decide +kernel) (by decide +kernel)
set_option maxRecDepth 20000 in
theorem gX4_take_X4_isPallet : GoodIn wsX4_take (wsV RX4 174 RX4 yX4_isPallet wsX4_isPallet) := goodIn_app (goodIn_of _ (by decide +kernel)) ggX4_take_X4_isPallet
theorem dX4_take_0 : decode cX4_take 0 = .ok (.aload_n 0, 1) := by decide +kernel
theorem dX4_take_1 : decode cX4_take 1 = .ok (.aload_n 0, 1) := by decide +kernel
theorem dX4_take_2 : decode cX4_take 2 = .ok (.iload_n 1, 1) := by decide +kernel
theorem dX4_take_3 : decode cX4_take 3 = .ok (.invokevirtual 174, 3) := by decide +kernel
theorem dX4_take_6 : decode cX4_take 6 = .ok (.ifCond .ne 7, 3) := by decide +kernel
theorem dX4_take_9 : decode cX4_take 9 = .ok (.iconst 1, 1) := by decide +kernel
theorem dX4_take_10 : decode cX4_take 10 = .ok (.goto 27, 3) := by decide +kernel
theorem dX4_take_13 : decode cX4_take 13 = .ok (.aload_n 0, 1) := by decide +kernel
theorem dX4_take_14 : decode cX4_take 14 = .ok (.getfield 58, 3) := by decide +kernel
theorem dX4_take_17 : decode cX4_take 17 = .ok (.iload_n 1, 1) := by decide +kernel
theorem dX4_take_18 : decode cX4_take 18 = .ok (.iaload, 1) := by decide +kernel
theorem dX4_take_19 : decode cX4_take 19 = .ok (.iconst (-1), 1) := by decide +kernel
theorem dX4_take_20 : decode cX4_take 20 = .ok (.if_icmp .ne 12, 3) := by decide +kernel
theorem dX4_take_23 : decode cX4_take 23 = .ok (.aload_n 0, 1) := by decide +kernel
theorem dX4_take_24 : decode cX4_take 24 = .ok (.getfield 49, 3) := by decide +kernel
theorem dX4_take_27 : decode cX4_take 27 = .ok (.iload_n 1, 1) := by decide +kernel
theorem dX4_take_28 : decode cX4_take 28 = .ok (.iaload, 1) := by decide +kernel
theorem dX4_take_29 : decode cX4_take 29 = .ok (.ifCond .ne 7, 3) := by decide +kernel
theorem dX4_take_32 : decode cX4_take 32 = .ok (.iconst 2, 1) := by decide +kernel
theorem dX4_take_33 : decode cX4_take 33 = .ok (.goto 4, 3) := by decide +kernel
theorem dX4_take_36 : decode cX4_take 36 = .ok (.iconst 0, 1) := by decide +kernel
theorem dX4_take_37 : decode cX4_take 37 = .ok (.putfield 89, 3) := by decide +kernel
theorem dX4_take_40 : decode cX4_take 40 = .ok (.aload_n 0, 1) := by decide +kernel
theorem dX4_take_41 : decode cX4_take 41 = .ok (.getfield 89, 3) := by decide +kernel
theorem dX4_take_44 : decode cX4_take 44 = .ok (.ifCond .eq 5, 3) := by decide +kernel
theorem dX4_take_47 : decode cX4_take 47 = .ok (.iconst 0, 1) := by decide +kernel
theorem dX4_take_48 : decode cX4_take 48 = .ok (.ireturn, 1) := by decide +kernel
theorem dX4_take_49 : decode cX4_take 49 = .ok (.aload_n 0, 1) := by decide +kernel
theorem dX4_take_50 : decode cX4_take 50 = .ok (.getfield 49, 3) := by decide +kernel
theorem dX4_take_53 : decode cX4_take 53 = .ok (.iload_n 1, 1) := by decide +kernel
theorem dX4_take_54 : decode cX4_take 54 = .ok (.dup2, 1) := by decide +kernel
theorem dX4_take_55 : decode cX4_take 55 = .ok (.iaload, 1) := by decide +kernel
theorem dX4_take_56 : decode cX4_take 56 = .ok (.iconst 1, 1) := by decide +kernel
theorem dX4_take_57 : decode cX4_take 57 = .ok (.isub, 1) := by decide +kernel
theorem dX4_take_58 : decode cX4_take 58 = .ok (.iastore, 1) := by decide +kernel
theorem dX4_take_59 : decode cX4_take 59 = .ok (.aload_n 0, 1) := by decide +kernel
theorem dX4_take_60 : decode cX4_take 60 = .ok (.getfield 55, 3) := by decide +kernel
theorem dX4_take_63 : decode cX4_take 63 = .ok (.bipush 10, 2) := by decide +kernel
theorem dX4_take_65 : decode cX4_take 65 = .ok (.iload_n 1, 1) := by decide +kernel
theorem dX4_take_66 : decode cX4_take 66 = .ok (.imul, 1) := by decide +kernel
theorem dX4_take_67 : decode cX4_take 67 = .ok (.aload_n 0, 1) := by decide +kernel
theorem dX4_take_68 : decode cX4_take 68 = .ok (.getfield 49, 3) := by decide +kernel
theorem dX4_take_71 : decode cX4_take 71 = .ok (.iload_n 1, 1) := by decide +kernel
theorem dX4_take_72 : decode cX4_take 72 = .ok (.iaload, 1) := by decide +kernel
theorem dX4_take_73 : decode cX4_take 73 = .ok (.iadd, 1) := by decide +kernel
theorem dX4_take_74 : decode cX4_take 74 = .ok (.iaload, 1) := by decide +kernel
theorem dX4_take_75 : decode cX4_take 75 = .ok (.ireturn, 1) := by decide +kernel
set_option maxRecDepth 20000 in
theorem ggX4_isLayer_X4_isPallet : GoodIn wsX4_isLayer wsX4_isPallet := goodIn_r _ [6, 7, 8, 9, 5, 10, 11, 12, 13, 14, 15, 16, 17, 18, 19, 20, 21, 22, 23, 24, 25, 26, 27, 28, 29, 30, 31, 32, 33, 34, 35, 36, 37, 38, 39, 40, 41, 42, 43] (by decide +kernel) (by decide +kernel)
set_option maxRecDepth 20000 in
theorem gX4_isLayer_X4_isPallet : GoodIn wsX4_isLayer (wsV RX4 174 RX4 yX4_isPallet wsX4_isPallet) := goodIn_app (goodIn_of _ (by decide +kernel)) ggX4_isLayer_X4_isPallet
set_option maxRecDepth 20000 in
theorem ggX4_isLayer_X4_within : GoodIn wsX4_isLayer wsX4_within := goodIn_r _ [10] (by decide +kernel) (by decide +kernel)
set_option maxRecDepth 20000 in
theorem gX4_isLayer_X4_within : GoodIn wsX4_isLayer (va_wsS RX4 95 yX4_within wsX4_within) := goodIn_app (goodIn_of _ (by decide +kernel)) ggX4_isLayer_X4_within
theorem dX4_isLayer_0 : decode cX4_isLayer 0 = .ok (.aload_n 0, 1) := by decide +kernel
theorem dX4_isLayer_1 : decode cX4_isLayer 1 = .ok (.iload_n 1, 1) := by decide +kernel
theorem dX4_isLayer_2 : decode cX4_isLayer 2 = .ok (.invokevirtual 174, 3) := by decide +kernel
theorem dX4_isLayer_5 : decode cX4_isLayer 5 = .ok (.ifCond .eq 23, 3) := by decide +kernel
theorem dX4_isLayer_8 : decode cX4_isLayer 8 = .ok (.iload_n 2, 1) := by decide +kernel
theorem dX4_isLayer_9 : decode cX4_isLayer 9 = .ok (.iconst 0, 1) := by decide +kernel
theorem dX4_isLayer_10 : decode cX4_isLayer 10 = .ok (.aload_n 0, 1) := by decide +kernel
theorem dX4_isLayer_11 : decode cX4_isLayer 11 = .ok (.getfield 49, 3) := by decide +kernel
theorem dX4_isLayer_14 : decode cX4_isLayer 14 = .ok (.iload_n 1, 1) := by decide +kernel
theorem dX4_isLayer_15 : decode cX4_isLayer 15 = .ok (.iaload, 1) := by decide +kernel
theorem dX4_isLayer_16 : decode cX4_isLayer 16 = .ok (.iconst 1, 1) := by decide +kernel
theorem dX4_isLayer_17 : decode cX4_isLayer 17 = .ok (.isub, 1) := by decide +kernel
theorem dX4_isLayer_18 : decode cX4_isLayer 18 = .ok (.invokestatic 95, 3) := by decide +kernel
theorem dX4_isLayer_21 : decode cX4_isLayer 21 = .ok (.ifCond .eq 7, 3) := by decide +kernel
theorem dX4_isLayer_24 : decode cX4_isLayer 24 = .ok (.iconst 1, 1) := by decide +kernel
theorem dX4_isLayer_25 : decode cX4_isLayer 25 = .ok (.goto 4, 3) := by decide +kernel
theorem dX4_isLayer_28 : decode cX4_isLayer 28 = .ok (.iconst 0, 1) := by decide +kernel
theorem dX4_isLayer_29 : decode cX4_isLayer 29 = .ok (.ireturn, 1) := by decide +kernel
set_option maxRecDepth 20000 in
theorem ggX4_support_X4_isLayer : GoodIn wsX4_support wsX4_isLayer := goodIn_ca (goodIn_r _ [8, 9, 10, 11, 12, 7, 13, 14, 15, 16, 17, 32, 33, 34, 35, 36, 37, 38, 39, 40, 41, 42, 43, 44, 45, 46, 47, 48, 49, 50, 51, 52, 53, 54, 55, 56, 57, 58, 59, 60, 61, 62, 63, 64] (by decide +kernel) (by decide +kernel)) (goodIn_sub (fun _ h => List.mem_cons_of_mem _ (List.mem_append_right _ h)) (by decide +kernel))
set_option maxRecDepth 20000 in
theorem gX4_support_X4_isLayer : GoodIn wsX4_support (wsV RX4 184 RX4 yX4_isLayer wsX4_isLayer) := goodIn_app (goodIn_of _ (by decide +kernel)) ggX4_support_X4_isLayer
set_option maxRecDepth 20000 in
theorem ggX4_support_X4_within : GoodIn wsX4_support wsX4_within := goodIn_r _ [17] (by decide +kernel) (by decide +kernel)
set_option maxRecDepth 20000 in
theorem gX4_support_X4_within : GoodIn wsX4_support (va_wsS RX4 95 yX4_within wsX4_within) := goodIn_app (goodIn_of _ (by decide +kernel)) ggX4_support_X4_within
set_option maxRecDepth 20000 in
theorem ggX4_support_X4_supportOf : GoodIn wsX4_support wsX4_supportOf := goodIn_ca (goodIn_r _ [21, 3, 1, 22, 23, 24, 25, 7, 26, 27, 28, 29, 30, 31, 32, 33, 34, 35, 36, 37, 38, 39, 40, 41, 42, 43, 44, 45, 46, 47, 48, 49, 50, 51, 52, 53, 54, 55, 56, 57, 58, 59, 60, 61, 62, 63, 64] (by decide +kernel) (by decide +kernel)) (goodIn_sub (fun _ h => List.mem_cons_of_mem _ (List.mem_append_right _ h)) (by decide +kernel))
set_option maxRecDepth 20000 in
theorem gX4_support_X4_supportOf : GoodIn wsX4_support (wsV RX4 163 RX4 yX4_supportOf wsX4_supportOf) := goodIn_app (goodIn_of _ (by decide +kernel)) ggX4_support_X4_supportOf
set_option maxRecDepth 20000 in
theorem ggX4_support_X4_areaOf : GoodIn wsX4_support wsX4_areaOf := goodIn_ca (goodIn_r _ [26, 27, 28, 32, 33, 34, 35, 36, 37, 38, 39, 40, 41, 42, 43, 44, 45, 46, 47, 48, 49, 50, 51, 52, 53, 54, 55, 56, 57, 58, 59, 60, 61, 62, 63, 64] (by decide +kernel) (by decide +kernel)) (goodIn_sub (fun _ h => List.mem_cons_of_mem _ (List.mem_append_right _ h)) (by decide +kernel))
set_option maxRecDepth 20000 in
theorem gX4_support_X4_areaOf : GoodIn wsX4_support (wsV RX4 119 RX4 yX4_areaOf wsX4_areaOf) := goodIn_app (goodIn_of _ (by decide +kernel)) ggX4_support_X4_areaOf
theorem dX4_support_0 : decode cX4_support 0 = .ok (.aload_n 0, 1) := by decide +kernel
theorem dX4_support_1 : decode cX4_support 1 = .ok (.aload_n 0, 1) := by decide +kernel
theorem dX4_support_2 : decode cX4_support 2 = .ok (.iload_n 1, 1) := by decide +kernel
theorem dX4_support_3 : decode cX4_support 3 = .ok (.iload_n 2, 1) := by decide +kernel
theorem dX4_support_4 : decode cX4_support 4 = .ok (.invokevirtual 184, 3) := by decide +kernel
theorem dX4_support_7 : decode cX4_support 7 = .ok (.ifCond .eq 28, 3) := by decide +kernel
theorem dX4_support_10 : decode cX4_support 10 = .ok (.iload_n 3, 1) := by decide +kernel
theorem dX4_support_11 : decode cX4_support 11 = .ok (.iconst 0, 1) := by decide +kernel
theorem dX4_support_12 : decode cX4_support 12 = .ok (.aload_n 0, 1) := by decide +kernel
theorem dX4_support_13 : decode cX4_support 13 = .ok (.getfield 55, 3) := by decide +kernel
theorem dX4_support_16 : decode cX4_support 16 = .ok (.bipush 10, 2) := by decide +kernel
theorem dX4_support_18 : decode cX4_support 18 = .ok (.iload_n 1, 1) := by decide +kernel
theorem dX4_support_19 : decode cX4_support 19 = .ok (.imul, 1) := by decide +kernel
theorem dX4_support_20 : decode cX4_support 20 = .ok (.iload_n 2, 1) := by decide +kernel
theorem dX4_support_21 : decode cX4_support 21 = .ok (.iadd, 1) := by decide +kernel
theorem dX4_support_22 : decode cX4_support 22 = .ok (.iaload, 1) := by decide +kernel
theorem dX4_support_23 : decode cX4_support 23 = .ok (.iconst 1, 1) := by decide +kernel
theorem dX4_support_24 : decode cX4_support 24 = .ok (.isub, 1) := by decide +kernel
theorem dX4_support_25 : decode cX4_support 25 = .ok (.invokestatic 95, 3) := by decide +kernel
theorem dX4_support_28 : decode cX4_support 28 = .ok (.ifCond .eq 7, 3) := by decide +kernel
theorem dX4_support_31 : decode cX4_support 31 = .ok (.iconst 0, 1) := by decide +kernel
theorem dX4_support_32 : decode cX4_support 32 = .ok (.goto 4, 3) := by decide +kernel
theorem dX4_support_35 : decode cX4_support 35 = .ok (.iconst 1, 1) := by decide +kernel
theorem dX4_support_36 : decode cX4_support 36 = .ok (.putfield 89, 3) := by decide +kernel
theorem dX4_support_39 : decode cX4_support 39 = .ok (.aload_n 0, 1) := by decide +kernel
theorem dX4_support_40 : decode cX4_support 40 = .ok (.getfield 89, 3) := by decide +kernel
theorem dX4_support_43 : decode cX4_support 43 = .ok (.ifCond .eq 5, 3) := by decide +kernel
theorem dX4_support_46 : decode cX4_support 46 = .ok (.iconst 0, 1) := by decide +kernel
theorem dX4_support_47 : decode cX4_support 47 = .ok (.ireturn, 1) := by decide +kernel
theorem dX4_support_48 : decode cX4_support 48 = .ok (.aload_n 0, 1) := by decide +kernel
theorem dX4_support_49 : decode cX4_support 49 = .ok (.getfield 52, 3) := by decide +kernel
theorem dX4_support_52 : decode cX4_support 52 = .ok (.bipush 10, 2) := by decide +kernel
theorem dX4_support_54 : decode cX4_support 54 = .ok (.iload_n 1, 1) := by decide +kernel
theorem dX4_support_55 : decode cX4_support 55 = .ok (.imul, 1) := by decide +kernel
theorem dX4_support_56 : decode cX4_support 56 = .ok (.iload_n 2, 1) := by decide +kernel
theorem dX4_support_57 : decode cX4_support 57 = .ok (.iadd, 1) := by decide +kernel
theorem dX4_support_58 : decode cX4_support 58 = .ok (.iaload, 1) := by decide +kernel
theorem dX4_support_59 : decode cX4_support 59 = .ok (.istore 4, 2) := by decide +kernel
theorem dX4_support_61 : decode cX4_support 61 = .ok (.bipush 100, 2) := by decide +kernel
theorem dX4_support_63 : decode cX4_support 63 = .ok (.aload_n 0, 1) := by decide +kernel
theorem dX4_support_64 : decode cX4_support 64 = .ok (.iload 4, 2) := by decide +kernel
theorem dX4_support_66 : decode cX4_support 66 = .ok (.iload_n 3, 1) := by decide +kernel
theorem dX4_support_67 : decode cX4_support 67 = .ok (.iload_n 1, 1) := by decide +kernel
theorem dX4_support_68 : decode cX4_support 68 = .ok (.iload_n 2, 1) := by decide +kernel
theorem dX4_support_69 : decode cX4_support 69 = .ok (.iconst 1, 1) := by decide +kernel
theorem dX4_support_70 : decode cX4_support 70 = .ok (.isub, 1) := by decide +kernel
theorem dX4_support_71 : decode cX4_support 71 = .ok (.invokevirtual 163, 3) := by decide +kernel
theorem dX4_support_74 : decode cX4_support 74 = .ok (.imul, 1) := by decide +kernel
theorem dX4_support_75 : decode cX4_support 75 = .ok (.aload_n 0, 1) := by decide +kernel
theorem dX4_support_76 : decode cX4_support 76 = .ok (.iload 4, 2) := by decide +kernel
theorem dX4_support_78 : decode cX4_support 78 = .ok (.invokevirtual 119, 3) := by decide +kernel
theorem dX4_support_81 : decode cX4_support 81 = .ok (.idiv, 1) := by decide +kernel
theorem dX4_support_82 : decode cX4_support 82 = .ok (.ireturn, 1) := by decide +kernel
set_option maxRecDepth 20000 in
theorem ggX4_told_X4_isPallet : GoodIn wsX4_told wsX4_isPallet := goodIn_r _ [9, 10, 11, 12, 8, 13, 29, 30, 31, 32, 33, 34, 35, 36, 37, 38, 39, 40, 41, 42, 43, 44, 45, 46, 47, 48, 49, 50, 51, 52, 53, 54, 55, 56, 57, 58, 59, 60, 61] (by decide +kernel) (by decide +kernel)
set_option maxRecDepth 20000 in
theorem gX4_told_X4_isPallet : GoodIn wsX4_told (wsV RX4 174 RX4 yX4_isPallet wsX4_isPallet) := goodIn_app (goodIn_of _ (by decide +kernel)) ggX4_told_X4_isPallet
set_option maxRecDepth 20000 in
theorem ggX4_told_X4_within : GoodIn wsX4_told wsX4_within := goodIn_r _ [13] (by decide +kernel) (by decide +kernel)
set_option maxRecDepth 20000 in
theorem gX4_told_X4_within : GoodIn wsX4_told (va_wsS RX4 95 yX4_within wsX4_within) := goodIn_app (goodIn_of _ (by decide +kernel)) ggX4_told_X4_within
set_option maxRecDepth 20000 in
theorem ggX4_told_X4_heightOf : GoodIn wsX4_told wsX4_heightOf := goodIn_ca (goodIn_r _ [17, 18, 4, 29, 30, 31, 32, 33, 34, 35, 36, 37, 38, 39, 40, 41, 42, 43, 44, 45, 46, 47, 48, 49, 50, 51, 52, 53, 54, 55, 56, 57, 58, 59, 60, 61] (by decide +kernel) (by decide +kernel)) (goodIn_sub (fun _ h => List.mem_cons_of_mem _ (List.mem_append_right _ h)) (by decide +kernel))
set_option maxRecDepth 20000 in
theorem gX4_told_X4_heightOf : GoodIn wsX4_told (wsV RX4 167 RX4 yX4_heightOf wsX4_heightOf) := goodIn_app (goodIn_of _ (by decide +kernel)) ggX4_told_X4_heightOf
set_option maxRecDepth 20000 in
theorem ggX4_told_X4_weightOf : GoodIn wsX4_told wsX4_weightOf := goodIn_ca (goodIn_r _ [22, 2, 23, 4, 24, 29, 30, 31, 32, 33, 34, 35, 36, 37, 38, 39, 40, 41, 42, 43, 44, 45, 46, 47, 48, 49, 50, 51, 52, 53, 54, 55, 56, 57, 58, 59, 60, 61] (by decide +kernel) (by decide +kernel)) (goodIn_sub (fun _ h => List.mem_cons_of_mem _ (List.mem_append_right _ h)) (by decide +kernel))
set_option maxRecDepth 20000 in
theorem gX4_told_X4_weightOf : GoodIn wsX4_told (wsV RX4 171 RX4 yX4_weightOf wsX4_weightOf) := goodIn_app (goodIn_of _ (by decide +kernel)) ggX4_told_X4_weightOf
set_option maxRecDepth 20000 in
theorem ggX4_told_X4_boxesOn : GoodIn wsX4_told wsX4_boxesOn := goodIn_ca (goodIn_r _ [28, 2, 24, 29, 30, 31, 32, 33, 34, 35, 36, 37, 38, 39, 40, 41, 42, 43, 44, 45, 46, 47, 48, 49, 50, 51, 52, 53, 54, 55, 56, 57, 58, 59, 60, 61] (by decide +kernel) (by decide +kernel)) (goodIn_sub (fun _ h => List.mem_cons_of_mem _ (List.mem_append_right _ h)) (by decide +kernel))
set_option maxRecDepth 20000 in
theorem gX4_told_X4_boxesOn : GoodIn wsX4_told (wsV RX4 188 RX4 yX4_boxesOn wsX4_boxesOn) := goodIn_app (goodIn_of _ (by decide +kernel)) ggX4_told_X4_boxesOn
theorem dX4_told_0 : decode cX4_told 0 = .ok (.aload_n 0, 1) := by decide +kernel
theorem dX4_told_1 : decode cX4_told 1 = .ok (.aload_n 0, 1) := by decide +kernel
theorem dX4_told_2 : decode cX4_told 2 = .ok (.iload_n 1, 1) := by decide +kernel
theorem dX4_told_3 : decode cX4_told 3 = .ok (.invokevirtual 174, 3) := by decide +kernel
theorem dX4_told_6 : decode cX4_told 6 = .ok (.ifCond .ne 7, 3) := by decide +kernel
theorem dX4_told_9 : decode cX4_told 9 = .ok (.iconst 1, 1) := by decide +kernel
theorem dX4_told_10 : decode cX4_told 10 = .ok (.goto 17, 3) := by decide +kernel
theorem dX4_told_13 : decode cX4_told 13 = .ok (.iload_n 2, 1) := by decide +kernel
theorem dX4_told_14 : decode cX4_told 14 = .ok (.iconst 0, 1) := by decide +kernel
theorem dX4_told_15 : decode cX4_told 15 = .ok (.iconst 5, 1) := by decide +kernel
theorem dX4_told_16 : decode cX4_told 16 = .ok (.invokestatic 95, 3) := by decide +kernel
theorem dX4_told_19 : decode cX4_told 19 = .ok (.ifCond .ne 7, 3) := by decide +kernel
theorem dX4_told_22 : decode cX4_told 22 = .ok (.iconst 2, 1) := by decide +kernel
theorem dX4_told_23 : decode cX4_told 23 = .ok (.goto 4, 3) := by decide +kernel
theorem dX4_told_26 : decode cX4_told 26 = .ok (.iconst 0, 1) := by decide +kernel
theorem dX4_told_27 : decode cX4_told 27 = .ok (.putfield 89, 3) := by decide +kernel
theorem dX4_told_30 : decode cX4_told 30 = .ok (.aload_n 0, 1) := by decide +kernel
theorem dX4_told_31 : decode cX4_told 31 = .ok (.getfield 89, 3) := by decide +kernel
theorem dX4_told_34 : decode cX4_told 34 = .ok (.ifCond .eq 5, 3) := by decide +kernel
theorem dX4_told_37 : decode cX4_told 37 = .ok (.iconst 0, 1) := by decide +kernel
theorem dX4_told_38 : decode cX4_told 38 = .ok (.ireturn, 1) := by decide +kernel
theorem dX4_told_39 : decode cX4_told 39 = .ok (.iload_n 2, 1) := by decide +kernel
theorem dX4_told_40 : decode cX4_told 40 = .ok (.tableswitch 74 0 4 #[36, 48, 54, 61, 67], 36) := by decide +kernel
theorem dX4_told_76 : decode cX4_told 76 = .ok (.aload_n 0, 1) := by decide +kernel
theorem dX4_told_77 : decode cX4_told 77 = .ok (.iload_n 1, 1) := by decide +kernel
theorem dX4_told_78 : decode cX4_told 78 = .ok (.aload_n 0, 1) := by decide +kernel
theorem dX4_told_79 : decode cX4_told 79 = .ok (.getfield 49, 3) := by decide +kernel
theorem dX4_told_82 : decode cX4_told 82 = .ok (.iload_n 1, 1) := by decide +kernel
theorem dX4_told_83 : decode cX4_told 83 = .ok (.iaload, 1) := by decide +kernel
theorem dX4_told_84 : decode cX4_told 84 = .ok (.invokevirtual 167, 3) := by decide +kernel
theorem dX4_told_87 : decode cX4_told 87 = .ok (.ireturn, 1) := by decide +kernel
theorem dX4_told_88 : decode cX4_told 88 = .ok (.aload_n 0, 1) := by decide +kernel
theorem dX4_told_89 : decode cX4_told 89 = .ok (.iload_n 1, 1) := by decide +kernel
theorem dX4_told_90 : decode cX4_told 90 = .ok (.invokevirtual 171, 3) := by decide +kernel
theorem dX4_told_93 : decode cX4_told 93 = .ok (.ireturn, 1) := by decide +kernel
theorem dX4_told_94 : decode cX4_told 94 = .ok (.aload_n 0, 1) := by decide +kernel
theorem dX4_told_95 : decode cX4_told 95 = .ok (.getfield 49, 3) := by decide +kernel
theorem dX4_told_98 : decode cX4_told 98 = .ok (.iload_n 1, 1) := by decide +kernel
theorem dX4_told_99 : decode cX4_told 99 = .ok (.iaload, 1) := by decide +kernel
theorem dX4_told_100 : decode cX4_told 100 = .ok (.ireturn, 1) := by decide +kernel
theorem dX4_told_101 : decode cX4_told 101 = .ok (.aload_n 0, 1) := by decide +kernel
theorem dX4_told_102 : decode cX4_told 102 = .ok (.iload_n 1, 1) := by decide +kernel
theorem dX4_told_103 : decode cX4_told 103 = .ok (.invokevirtual 188, 3) := by decide +kernel
theorem dX4_told_106 : decode cX4_told 106 = .ok (.ireturn, 1) := by decide +kernel
theorem dX4_told_107 : decode cX4_told 107 = .ok (.aload_n 0, 1) := by decide +kernel
theorem dX4_told_108 : decode cX4_told 108 = .ok (.getfield 58, 3) := by decide +kernel
theorem dX4_told_111 : decode cX4_told 111 = .ok (.iload_n 1, 1) := by decide +kernel
theorem dX4_told_112 : decode cX4_told 112 = .ok (.iaload, 1) := by decide +kernel
theorem dX4_told_113 : decode cX4_told 113 = .ok (.ireturn, 1) := by decide +kernel
theorem dX4_told_114 : decode cX4_told 114 = .ok (.iconst 0, 1) := by decide +kernel
theorem dX4_told_115 : decode cX4_told 115 = .ok (.istore_n 3, 1) := by decide +kernel
theorem dX4_told_116 : decode cX4_told 116 = .ok (.iconst 0, 1) := by decide +kernel
theorem dX4_told_117 : decode cX4_told 117 = .ok (.istore 4, 2) := by decide +kernel
theorem dX4_told_119 : decode cX4_told 119 = .ok (.iload 4, 2) := by decide +kernel
theorem dX4_told_121 : decode cX4_told 121 = .ok (.aload_n 0, 1) := by decide +kernel
theorem dX4_told_122 : decode cX4_told 122 = .ok (.getfield 49, 3) := by decide +kernel
theorem dX4_told_125 : decode cX4_told 125 = .ok (.iload_n 1, 1) := by decide +kernel
theorem dX4_told_126 : decode cX4_told 126 = .ok (.iaload, 1) := by decide +kernel
theorem dX4_told_127 : decode cX4_told 127 = .ok (.if_icmp .ge 26, 3) := by decide +kernel
theorem dX4_told_130 : decode cX4_told 130 = .ok (.iload_n 3, 1) := by decide +kernel
theorem dX4_told_131 : decode cX4_told 131 = .ok (.iconst 1, 1) := by decide +kernel
theorem dX4_told_132 : decode cX4_told 132 = .ok (.aload_n 0, 1) := by decide +kernel
theorem dX4_told_133 : decode cX4_told 133 = .ok (.getfield 52, 3) := by decide +kernel
theorem dX4_told_136 : decode cX4_told 136 = .ok (.bipush 10, 2) := by decide +kernel
theorem dX4_told_138 : decode cX4_told 138 = .ok (.iload_n 1, 1) := by decide +kernel
theorem dX4_told_139 : decode cX4_told 139 = .ok (.imul, 1) := by decide +kernel
theorem dX4_told_140 : decode cX4_told 140 = .ok (.iload 4, 2) := by decide +kernel
theorem dX4_told_142 : decode cX4_told 142 = .ok (.iadd, 1) := by decide +kernel
theorem dX4_told_143 : decode cX4_told 143 = .ok (.iaload, 1) := by decide +kernel
theorem dX4_told_144 : decode cX4_told 144 = .ok (.ishl, 1) := by decide +kernel
theorem dX4_told_145 : decode cX4_told 145 = .ok (.ior, 1) := by decide +kernel
theorem dX4_told_146 : decode cX4_told 146 = .ok (.istore_n 3, 1) := by decide +kernel
theorem dX4_told_147 : decode cX4_told 147 = .ok (.iinc 4 1, 3) := by decide +kernel
theorem dX4_told_150 : decode cX4_told 150 = .ok (.goto (-31), 3) := by decide +kernel
theorem dX4_told_153 : decode cX4_told 153 = .ok (.iload_n 3, 1) := by decide +kernel
theorem dX4_told_154 : decode cX4_told 154 = .ok (.ireturn, 1) := by decide +kernel
set_option maxRecDepth 20000 in
theorem ggX4_layer_X4_isLayer : GoodIn wsX4_layer wsX4_isLayer := goodIn_ca (goodIn_r _ [9, 10, 11, 12, 13, 8, 14, 15, 16, 17, 18, 24, 25, 26, 27, 28, 29, 30, 31, 32, 33, 34, 35, 36, 37, 38, 39, 40, 41, 42, 43, 44, 45, 46, 47, 48, 49, 50, 51, 52, 53, 54, 55, 56] (by decide +kernel) (by decide +kernel)) (goodIn_sub (fun _ h => List.mem_cons_of_mem _ (List.mem_append_right _ h)) (by decide +kernel))
set_option maxRecDepth 20000 in
theorem gX4_layer_X4_isLayer : GoodIn wsX4_layer (wsV RX4 184 RX4 yX4_isLayer wsX4_isLayer) := goodIn_app (goodIn_of _ (by decide +kernel)) ggX4_layer_X4_isLayer
set_option maxRecDepth 20000 in
theorem ggX4_layer_X4_within : GoodIn wsX4_layer wsX4_within := goodIn_r _ [18] (by decide +kernel) (by decide +kernel)
set_option maxRecDepth 20000 in
theorem gX4_layer_X4_within : GoodIn wsX4_layer (va_wsS RX4 95 yX4_within wsX4_within) := goodIn_app (goodIn_of _ (by decide +kernel)) ggX4_layer_X4_within
set_option maxRecDepth 20000 in
theorem ggX4_layer_X4_heightOf : GoodIn wsX4_layer wsX4_heightOf := goodIn_ca (goodIn_r _ [22, 23, 2, 24, 25, 26, 27, 28, 29, 30, 31, 32, 33, 34, 35, 36, 37, 38, 39, 40, 41, 42, 43, 44, 45, 46, 47, 48, 49, 50, 51, 52, 53, 54, 55, 56] (by decide +kernel) (by decide +kernel)) (goodIn_sub (fun _ h => List.mem_cons_of_mem _ (List.mem_append_right _ h)) (by decide +kernel))
set_option maxRecDepth 20000 in
theorem gX4_layer_X4_heightOf : GoodIn wsX4_layer (wsV RX4 167 RX4 yX4_heightOf wsX4_heightOf) := goodIn_app (goodIn_of _ (by decide +kernel)) ggX4_layer_X4_heightOf
theorem dX4_layer_0 : decode cX4_layer 0 = .ok (.aload_n 0, 1) := by decide +kernel
theorem dX4_layer_1 : decode cX4_layer 1 = .ok (.aload_n 0, 1) := by decide +kernel
theorem dX4_layer_2 : decode cX4_layer 2 = .ok (.iload_n 1, 1) := by decide +kernel
theorem dX4_layer_3 : decode cX4_layer 3 = .ok (.iload_n 2, 1) := by decide +kernel
theorem dX4_layer_4 : decode cX4_layer 4 = .ok (.invokevirtual 184, 3) := by decide +kernel
theorem dX4_layer_7 : decode cX4_layer 7 = .ok (.ifCond .ne 7, 3) := by decide +kernel
theorem dX4_layer_10 : decode cX4_layer 10 = .ok (.iconst 1, 1) := by decide +kernel
theorem dX4_layer_11 : decode cX4_layer 11 = .ok (.goto 17, 3) := by decide +kernel
theorem dX4_layer_14 : decode cX4_layer 14 = .ok (.iload_n 3, 1) := by decide +kernel
theorem dX4_layer_15 : decode cX4_layer 15 = .ok (.iconst 0, 1) := by decide +kernel
theorem dX4_layer_16 : decode cX4_layer 16 = .ok (.iconst 3, 1) := by decide +kernel
theorem dX4_layer_17 : decode cX4_layer 17 = .ok (.invokestatic 95, 3) := by decide +kernel
theorem dX4_layer_20 : decode cX4_layer 20 = .ok (.ifCond .ne 7, 3) := by decide +kernel
theorem dX4_layer_23 : decode cX4_layer 23 = .ok (.iconst 2, 1) := by decide +kernel
theorem dX4_layer_24 : decode cX4_layer 24 = .ok (.goto 4, 3) := by decide +kernel
theorem dX4_layer_27 : decode cX4_layer 27 = .ok (.iconst 0, 1) := by decide +kernel
theorem dX4_layer_28 : decode cX4_layer 28 = .ok (.putfield 89, 3) := by decide +kernel
theorem dX4_layer_31 : decode cX4_layer 31 = .ok (.aload_n 0, 1) := by decide +kernel
theorem dX4_layer_32 : decode cX4_layer 32 = .ok (.getfield 89, 3) := by decide +kernel
theorem dX4_layer_35 : decode cX4_layer 35 = .ok (.ifCond .eq 5, 3) := by decide +kernel
theorem dX4_layer_38 : decode cX4_layer 38 = .ok (.iconst 0, 1) := by decide +kernel
theorem dX4_layer_39 : decode cX4_layer 39 = .ok (.ireturn, 1) := by decide +kernel
theorem dX4_layer_40 : decode cX4_layer 40 = .ok (.aload_n 0, 1) := by decide +kernel
theorem dX4_layer_41 : decode cX4_layer 41 = .ok (.getfield 52, 3) := by decide +kernel
theorem dX4_layer_44 : decode cX4_layer 44 = .ok (.bipush 10, 2) := by decide +kernel
theorem dX4_layer_46 : decode cX4_layer 46 = .ok (.iload_n 1, 1) := by decide +kernel
theorem dX4_layer_47 : decode cX4_layer 47 = .ok (.imul, 1) := by decide +kernel
theorem dX4_layer_48 : decode cX4_layer 48 = .ok (.iload_n 2, 1) := by decide +kernel
theorem dX4_layer_49 : decode cX4_layer 49 = .ok (.iadd, 1) := by decide +kernel
theorem dX4_layer_50 : decode cX4_layer 50 = .ok (.iaload, 1) := by decide +kernel
theorem dX4_layer_51 : decode cX4_layer 51 = .ok (.istore 4, 2) := by decide +kernel
theorem dX4_layer_53 : decode cX4_layer 53 = .ok (.aload_n 0, 1) := by decide +kernel
theorem dX4_layer_54 : decode cX4_layer 54 = .ok (.getfield 55, 3) := by decide +kernel
theorem dX4_layer_57 : decode cX4_layer 57 = .ok (.bipush 10, 2) := by decide +kernel
theorem dX4_layer_59 : decode cX4_layer 59 = .ok (.iload_n 1, 1) := by decide +kernel
theorem dX4_layer_60 : decode cX4_layer 60 = .ok (.imul, 1) := by decide +kernel
theorem dX4_layer_61 : decode cX4_layer 61 = .ok (.iload_n 2, 1) := by decide +kernel
theorem dX4_layer_62 : decode cX4_layer 62 = .ok (.iadd, 1) := by decide +kernel
theorem dX4_layer_63 : decode cX4_layer 63 = .ok (.iaload, 1) := by decide +kernel
theorem dX4_layer_64 : decode cX4_layer 64 = .ok (.istore 5, 2) := by decide +kernel
theorem dX4_layer_66 : decode cX4_layer 66 = .ok (.iload_n 3, 1) := by decide +kernel
theorem dX4_layer_67 : decode cX4_layer 67 = .ok (.ifCond .ne 8, 3) := by decide +kernel
theorem dX4_layer_70 : decode cX4_layer 70 = .ok (.iload 4, 2) := by decide +kernel
theorem dX4_layer_72 : decode cX4_layer 72 = .ok (.goto 44, 3) := by decide +kernel
theorem dX4_layer_75 : decode cX4_layer 75 = .ok (.iload_n 3, 1) := by decide +kernel
theorem dX4_layer_76 : decode cX4_layer 76 = .ok (.iconst 1, 1) := by decide +kernel
theorem dX4_layer_77 : decode cX4_layer 77 = .ok (.if_icmp .ne 8, 3) := by decide +kernel
theorem dX4_layer_80 : decode cX4_layer 80 = .ok (.iload 5, 2) := by decide +kernel
theorem dX4_layer_82 : decode cX4_layer 82 = .ok (.goto 34, 3) := by decide +kernel
theorem dX4_layer_85 : decode cX4_layer 85 = .ok (.iload_n 3, 1) := by decide +kernel
theorem dX4_layer_86 : decode cX4_layer 86 = .ok (.iconst 2, 1) := by decide +kernel
theorem dX4_layer_87 : decode cX4_layer 87 = .ok (.if_icmp .ne 12, 3) := by decide +kernel
theorem dX4_layer_90 : decode cX4_layer 90 = .ok (.aload_n 0, 1) := by decide +kernel
theorem dX4_layer_91 : decode cX4_layer 91 = .ok (.iload_n 1, 1) := by decide +kernel
theorem dX4_layer_92 : decode cX4_layer 92 = .ok (.iload_n 2, 1) := by decide +kernel
theorem dX4_layer_93 : decode cX4_layer 93 = .ok (.invokevirtual 167, 3) := by decide +kernel
theorem dX4_layer_96 : decode cX4_layer 96 = .ok (.goto 20, 3) := by decide +kernel
theorem dX4_layer_99 : decode cX4_layer 99 = .ok (.iload 5, 2) := by decide +kernel
theorem dX4_layer_101 : decode cX4_layer 101 = .ok (.aload_n 0, 1) := by decide +kernel
theorem dX4_layer_102 : decode cX4_layer 102 = .ok (.getfield 22, 3) := by decide +kernel
theorem dX4_layer_105 : decode cX4_layer 105 = .ok (.iload 4, 2) := by decide +kernel
theorem dX4_layer_107 : decode cX4_layer 107 = .ok (.iaload, 1) := by decide +kernel
theorem dX4_layer_108 : decode cX4_layer 108 = .ok (.if_icmp .ne 7, 3) := by decide +kernel
theorem dX4_layer_111 : decode cX4_layer 111 = .ok (.iconst 1, 1) := by decide +kernel
theorem dX4_layer_112 : decode cX4_layer 112 = .ok (.goto 4, 3) := by decide +kernel
theorem dX4_layer_115 : decode cX4_layer 115 = .ok (.iconst 0, 1) := by decide +kernel
theorem dX4_layer_116 : decode cX4_layer 116 = .ok (.ireturn, 1) := by decide +kernel
set_option maxRecDepth 20000 in
theorem ggX4_truck_X4_isPallet : GoodIn wsX4_truck wsX4_isPallet := goodIn_r _ [10, 11, 12, 13, 9, 14, 15, 16, 17, 18, 19, 20, 21, 22, 23, 24, 25, 26, 27, 28, 29, 30, 31, 32, 33, 34, 35, 36, 37, 38, 39, 40, 41, 42, 43, 44, 45, 46, 47] (by decide +kernel) (by decide +kernel)
set_option maxRecDepth 20000 in
theorem gX4_truck_X4_isPallet : GoodIn wsX4_truck (wsV RX4 174 RX4 yX4_isPallet wsX4_isPallet) := goodIn_app (goodIn_of _ (by decide +kernel)) ggX4_truck_X4_isPallet
set_option maxRecDepth 20000 in
theorem ggX4_truck_X4_within : GoodIn wsX4_truck wsX4_within := goodIn_r _ [14] (by decide +kernel) (by decide +kernel)
set_option maxRecDepth 20000 in
theorem gX4_truck_X4_within : GoodIn wsX4_truck (va_wsS RX4 95 yX4_within wsX4_within) := goodIn_app (goodIn_of _ (by decide +kernel)) ggX4_truck_X4_within
theorem dX4_truck_0 : decode cX4_truck 0 = .ok (.aload_n 0, 1) := by decide +kernel
theorem dX4_truck_1 : decode cX4_truck 1 = .ok (.aload_n 0, 1) := by decide +kernel
theorem dX4_truck_2 : decode cX4_truck 2 = .ok (.iload_n 1, 1) := by decide +kernel
theorem dX4_truck_3 : decode cX4_truck 3 = .ok (.invokevirtual 174, 3) := by decide +kernel
theorem dX4_truck_6 : decode cX4_truck 6 = .ok (.ifCond .ne 7, 3) := by decide +kernel
theorem dX4_truck_9 : decode cX4_truck 9 = .ok (.iconst 1, 1) := by decide +kernel
theorem dX4_truck_10 : decode cX4_truck 10 = .ok (.goto 41, 3) := by decide +kernel
theorem dX4_truck_13 : decode cX4_truck 13 = .ok (.iload_n 2, 1) := by decide +kernel
theorem dX4_truck_14 : decode cX4_truck 14 = .ok (.iconst 0, 1) := by decide +kernel
theorem dX4_truck_15 : decode cX4_truck 15 = .ok (.bipush 9, 2) := by decide +kernel
theorem dX4_truck_17 : decode cX4_truck 17 = .ok (.invokestatic 95, 3) := by decide +kernel
theorem dX4_truck_20 : decode cX4_truck 20 = .ok (.ifCond .ne 7, 3) := by decide +kernel
theorem dX4_truck_23 : decode cX4_truck 23 = .ok (.iconst 2, 1) := by decide +kernel
theorem dX4_truck_24 : decode cX4_truck 24 = .ok (.goto 27, 3) := by decide +kernel
theorem dX4_truck_27 : decode cX4_truck 27 = .ok (.aload_n 0, 1) := by decide +kernel
theorem dX4_truck_28 : decode cX4_truck 28 = .ok (.getfield 58, 3) := by decide +kernel
theorem dX4_truck_31 : decode cX4_truck 31 = .ok (.iload_n 1, 1) := by decide +kernel
theorem dX4_truck_32 : decode cX4_truck 32 = .ok (.iaload, 1) := by decide +kernel
theorem dX4_truck_33 : decode cX4_truck 33 = .ok (.iconst (-1), 1) := by decide +kernel
theorem dX4_truck_34 : decode cX4_truck 34 = .ok (.if_icmp .ne 12, 3) := by decide +kernel
theorem dX4_truck_37 : decode cX4_truck 37 = .ok (.aload_n 0, 1) := by decide +kernel
theorem dX4_truck_38 : decode cX4_truck 38 = .ok (.getfield 49, 3) := by decide +kernel
theorem dX4_truck_41 : decode cX4_truck 41 = .ok (.iload_n 1, 1) := by decide +kernel
theorem dX4_truck_42 : decode cX4_truck 42 = .ok (.iaload, 1) := by decide +kernel
theorem dX4_truck_43 : decode cX4_truck 43 = .ok (.ifCond .ne 7, 3) := by decide +kernel
theorem dX4_truck_46 : decode cX4_truck 46 = .ok (.iconst 3, 1) := by decide +kernel
theorem dX4_truck_47 : decode cX4_truck 47 = .ok (.goto 4, 3) := by decide +kernel
theorem dX4_truck_50 : decode cX4_truck 50 = .ok (.iconst 0, 1) := by decide +kernel
theorem dX4_truck_51 : decode cX4_truck 51 = .ok (.putfield 89, 3) := by decide +kernel
theorem dX4_truck_54 : decode cX4_truck 54 = .ok (.iconst 0, 1) := by decide +kernel
theorem dX4_truck_55 : decode cX4_truck 55 = .ok (.istore_n 3, 1) := by decide +kernel
theorem dX4_truck_56 : decode cX4_truck 56 = .ok (.iload_n 3, 1) := by decide +kernel
theorem dX4_truck_57 : decode cX4_truck 57 = .ok (.aload_n 0, 1) := by decide +kernel
theorem dX4_truck_58 : decode cX4_truck 58 = .ok (.getfield 191, 3) := by decide +kernel
theorem dX4_truck_61 : decode cX4_truck 61 = .ok (.if_icmp .ge 36, 3) := by decide +kernel
theorem dX4_truck_64 : decode cX4_truck 64 = .ok (.aload_n 0, 1) := by decide +kernel
theorem dX4_truck_65 : decode cX4_truck 65 = .ok (.getfield 89, 3) := by decide +kernel
theorem dX4_truck_68 : decode cX4_truck 68 = .ok (.ifCond .ne 29, 3) := by decide +kernel
theorem dX4_truck_71 : decode cX4_truck 71 = .ok (.aload_n 0, 1) := by decide +kernel
theorem dX4_truck_72 : decode cX4_truck 72 = .ok (.getfield 58, 3) := by decide +kernel
theorem dX4_truck_75 : decode cX4_truck 75 = .ok (.aload_n 0, 1) := by decide +kernel
theorem dX4_truck_76 : decode cX4_truck 76 = .ok (.getfield 61, 3) := by decide +kernel
theorem dX4_truck_79 : decode cX4_truck 79 = .ok (.iload_n 3, 1) := by decide +kernel
theorem dX4_truck_80 : decode cX4_truck 80 = .ok (.iaload, 1) := by decide +kernel
theorem dX4_truck_81 : decode cX4_truck 81 = .ok (.iaload, 1) := by decide +kernel
theorem dX4_truck_82 : decode cX4_truck 82 = .ok (.iload_n 2, 1) := by decide +kernel
theorem dX4_truck_83 : decode cX4_truck 83 = .ok (.if_icmp .ge 8, 3) := by decide +kernel
theorem dX4_truck_86 : decode cX4_truck 86 = .ok (.aload_n 0, 1) := by decide +kernel
theorem dX4_truck_87 : decode cX4_truck 87 = .ok (.iconst 3, 1) := by decide +kernel
theorem dX4_truck_88 : decode cX4_truck 88 = .ok (.putfield 89, 3) := by decide +kernel
theorem dX4_truck_91 : decode cX4_truck 91 = .ok (.iinc 3 1, 3) := by decide +kernel
theorem dX4_truck_94 : decode cX4_truck 94 = .ok (.goto (-38), 3) := by decide +kernel
theorem dX4_truck_97 : decode cX4_truck 97 = .ok (.aload_n 0, 1) := by decide +kernel
theorem dX4_truck_98 : decode cX4_truck 98 = .ok (.getfield 89, 3) := by decide +kernel
theorem dX4_truck_101 : decode cX4_truck 101 = .ok (.ifCond .eq 5, 3) := by decide +kernel
theorem dX4_truck_104 : decode cX4_truck 104 = .ok (.iconst 0, 1) := by decide +kernel
theorem dX4_truck_105 : decode cX4_truck 105 = .ok (.ireturn, 1) := by decide +kernel
theorem dX4_truck_106 : decode cX4_truck 106 = .ok (.aload_n 0, 1) := by decide +kernel
theorem dX4_truck_107 : decode cX4_truck 107 = .ok (.getfield 58, 3) := by decide +kernel
theorem dX4_truck_110 : decode cX4_truck 110 = .ok (.iload_n 1, 1) := by decide +kernel
theorem dX4_truck_111 : decode cX4_truck 111 = .ok (.iload_n 2, 1) := by decide +kernel
theorem dX4_truck_112 : decode cX4_truck 112 = .ok (.iastore, 1) := by decide +kernel
theorem dX4_truck_113 : decode cX4_truck 113 = .ok (.aload_n 0, 1) := by decide +kernel
theorem dX4_truck_114 : decode cX4_truck 114 = .ok (.getfield 61, 3) := by decide +kernel
theorem dX4_truck_117 : decode cX4_truck 117 = .ok (.aload_n 0, 1) := by decide +kernel
theorem dX4_truck_118 : decode cX4_truck 118 = .ok (.getfield 191, 3) := by decide +kernel
theorem dX4_truck_121 : decode cX4_truck 121 = .ok (.iload_n 1, 1) := by decide +kernel
theorem dX4_truck_122 : decode cX4_truck 122 = .ok (.iastore, 1) := by decide +kernel
theorem dX4_truck_123 : decode cX4_truck 123 = .ok (.aload_n 0, 1) := by decide +kernel
theorem dX4_truck_124 : decode cX4_truck 124 = .ok (.dup, 1) := by decide +kernel
theorem dX4_truck_125 : decode cX4_truck 125 = .ok (.getfield 191, 3) := by decide +kernel
theorem dX4_truck_128 : decode cX4_truck 128 = .ok (.iconst 1, 1) := by decide +kernel
theorem dX4_truck_129 : decode cX4_truck 129 = .ok (.iadd, 1) := by decide +kernel
theorem dX4_truck_130 : decode cX4_truck 130 = .ok (.putfield 191, 3) := by decide +kernel
theorem dX4_truck_133 : decode cX4_truck 133 = .ok (.aload_n 0, 1) := by decide +kernel
theorem dX4_truck_134 : decode cX4_truck 134 = .ok (.getfield 191, 3) := by decide +kernel
theorem dX4_truck_137 : decode cX4_truck 137 = .ok (.ireturn, 1) := by decide +kernel
set_option maxRecDepth 20000 in
theorem ggX4_unload_X4_within : GoodIn wsX4_unload wsX4_within := goodIn_r _ [9] (by decide +kernel) (by decide +kernel)
set_option maxRecDepth 20000 in
theorem gX4_unload_X4_within : GoodIn wsX4_unload (va_wsS RX4 95 yX4_within wsX4_within) := goodIn_app (goodIn_of _ (by decide +kernel)) ggX4_unload_X4_within
theorem dX4_unload_0 : decode cX4_unload 0 = .ok (.aload_n 0, 1) := by decide +kernel
theorem dX4_unload_1 : decode cX4_unload 1 = .ok (.iload_n 1, 1) := by decide +kernel
theorem dX4_unload_2 : decode cX4_unload 2 = .ok (.iconst 0, 1) := by decide +kernel
theorem dX4_unload_3 : decode cX4_unload 3 = .ok (.bipush 9, 2) := by decide +kernel
theorem dX4_unload_5 : decode cX4_unload 5 = .ok (.invokestatic 95, 3) := by decide +kernel
theorem dX4_unload_8 : decode cX4_unload 8 = .ok (.ifCond .ne 7, 3) := by decide +kernel
theorem dX4_unload_11 : decode cX4_unload 11 = .ok (.iconst 1, 1) := by decide +kernel
theorem dX4_unload_12 : decode cX4_unload 12 = .ok (.goto 4, 3) := by decide +kernel
theorem dX4_unload_15 : decode cX4_unload 15 = .ok (.iconst 0, 1) := by decide +kernel
theorem dX4_unload_16 : decode cX4_unload 16 = .ok (.putfield 89, 3) := by decide +kernel
theorem dX4_unload_19 : decode cX4_unload 19 = .ok (.iconst 0, 1) := by decide +kernel
theorem dX4_unload_20 : decode cX4_unload 20 = .ok (.istore_n 2, 1) := by decide +kernel
theorem dX4_unload_21 : decode cX4_unload 21 = .ok (.iconst 0, 1) := by decide +kernel
theorem dX4_unload_22 : decode cX4_unload 22 = .ok (.istore_n 3, 1) := by decide +kernel
theorem dX4_unload_23 : decode cX4_unload 23 = .ok (.iload_n 3, 1) := by decide +kernel
theorem dX4_unload_24 : decode cX4_unload 24 = .ok (.aload_n 0, 1) := by decide +kernel
theorem dX4_unload_25 : decode cX4_unload 25 = .ok (.getfield 191, 3) := by decide +kernel
theorem dX4_unload_28 : decode cX4_unload 28 = .ok (.if_icmp .ge 67, 3) := by decide +kernel
theorem dX4_unload_31 : decode cX4_unload 31 = .ok (.aload_n 0, 1) := by decide +kernel
theorem dX4_unload_32 : decode cX4_unload 32 = .ok (.getfield 89, 3) := by decide +kernel
theorem dX4_unload_35 : decode cX4_unload 35 = .ok (.ifCond .ne 60, 3) := by decide +kernel
theorem dX4_unload_38 : decode cX4_unload 38 = .ok (.aload_n 0, 1) := by decide +kernel
theorem dX4_unload_39 : decode cX4_unload 39 = .ok (.getfield 58, 3) := by decide +kernel
theorem dX4_unload_42 : decode cX4_unload 42 = .ok (.aload_n 0, 1) := by decide +kernel
theorem dX4_unload_43 : decode cX4_unload 43 = .ok (.getfield 61, 3) := by decide +kernel
theorem dX4_unload_46 : decode cX4_unload 46 = .ok (.iload_n 3, 1) := by decide +kernel
theorem dX4_unload_47 : decode cX4_unload 47 = .ok (.iaload, 1) := by decide +kernel
theorem dX4_unload_48 : decode cX4_unload 48 = .ok (.iaload, 1) := by decide +kernel
theorem dX4_unload_49 : decode cX4_unload 49 = .ok (.iload_n 1, 1) := by decide +kernel
theorem dX4_unload_50 : decode cX4_unload 50 = .ok (.if_icmp .ne 7, 3) := by decide +kernel
theorem dX4_unload_53 : decode cX4_unload 53 = .ok (.iconst 1, 1) := by decide +kernel
theorem dX4_unload_54 : decode cX4_unload 54 = .ok (.goto 4, 3) := by decide +kernel
theorem dX4_unload_57 : decode cX4_unload 57 = .ok (.iconst 0, 1) := by decide +kernel
theorem dX4_unload_58 : decode cX4_unload 58 = .ok (.istore 4, 2) := by decide +kernel
theorem dX4_unload_60 : decode cX4_unload 60 = .ok (.iload_n 2, 1) := by decide +kernel
theorem dX4_unload_61 : decode cX4_unload 61 = .ok (.ifCond .eq 13, 3) := by decide +kernel
theorem dX4_unload_64 : decode cX4_unload 64 = .ok (.iload 4, 2) := by decide +kernel
theorem dX4_unload_66 : decode cX4_unload 66 = .ok (.ifCond .ne 8, 3) := by decide +kernel
theorem dX4_unload_69 : decode cX4_unload 69 = .ok (.aload_n 0, 1) := by decide +kernel
theorem dX4_unload_70 : decode cX4_unload 70 = .ok (.iconst 2, 1) := by decide +kernel
theorem dX4_unload_71 : decode cX4_unload 71 = .ok (.putfield 89, 3) := by decide +kernel
theorem dX4_unload_74 : decode cX4_unload 74 = .ok (.iload_n 2, 1) := by decide +kernel
theorem dX4_unload_75 : decode cX4_unload 75 = .ok (.ifCond .ne 8, 3) := by decide +kernel
theorem dX4_unload_78 : decode cX4_unload 78 = .ok (.iload 4, 2) := by decide +kernel
theorem dX4_unload_80 : decode cX4_unload 80 = .ok (.ifCond .eq 7, 3) := by decide +kernel
theorem dX4_unload_83 : decode cX4_unload 83 = .ok (.iconst 1, 1) := by decide +kernel
theorem dX4_unload_84 : decode cX4_unload 84 = .ok (.goto 4, 3) := by decide +kernel
theorem dX4_unload_87 : decode cX4_unload 87 = .ok (.iconst 0, 1) := by decide +kernel
theorem dX4_unload_88 : decode cX4_unload 88 = .ok (.istore_n 2, 1) := by decide +kernel
theorem dX4_unload_89 : decode cX4_unload 89 = .ok (.iinc 3 1, 3) := by decide +kernel
theorem dX4_unload_92 : decode cX4_unload 92 = .ok (.goto (-69), 3) := by decide +kernel
theorem dX4_unload_95 : decode cX4_unload 95 = .ok (.aload_n 0, 1) := by decide +kernel
theorem dX4_unload_96 : decode cX4_unload 96 = .ok (.getfield 89, 3) := by decide +kernel
theorem dX4_unload_99 : decode cX4_unload 99 = .ok (.ifCond .eq 5, 3) := by decide +kernel
theorem dX4_unload_102 : decode cX4_unload 102 = .ok (.iconst 0, 1) := by decide +kernel
theorem dX4_unload_103 : decode cX4_unload 103 = .ok (.ireturn, 1) := by decide +kernel
theorem dX4_unload_104 : decode cX4_unload 104 = .ok (.iconst 0, 1) := by decide +kernel
theorem dX4_unload_105 : decode cX4_unload 105 = .ok (.istore_n 3, 1) := by decide +kernel
theorem dX4_unload_106 : decode cX4_unload 106 = .ok (.aload_n 0, 1) := by decide +kernel
theorem dX4_unload_107 : decode cX4_unload 107 = .ok (.getfield 191, 3) := by decide +kernel
theorem dX4_unload_110 : decode cX4_unload 110 = .ok (.ifCond .le 69, 3) := by decide +kernel
theorem dX4_unload_113 : decode cX4_unload 113 = .ok (.aload_n 0, 1) := by decide +kernel
theorem dX4_unload_114 : decode cX4_unload 114 = .ok (.getfield 58, 3) := by decide +kernel
theorem dX4_unload_117 : decode cX4_unload 117 = .ok (.aload_n 0, 1) := by decide +kernel
theorem dX4_unload_118 : decode cX4_unload 118 = .ok (.getfield 61, 3) := by decide +kernel
theorem dX4_unload_121 : decode cX4_unload 121 = .ok (.aload_n 0, 1) := by decide +kernel
theorem dX4_unload_122 : decode cX4_unload 122 = .ok (.getfield 191, 3) := by decide +kernel
theorem dX4_unload_125 : decode cX4_unload 125 = .ok (.iconst 1, 1) := by decide +kernel
theorem dX4_unload_126 : decode cX4_unload 126 = .ok (.isub, 1) := by decide +kernel
theorem dX4_unload_127 : decode cX4_unload 127 = .ok (.iaload, 1) := by decide +kernel
theorem dX4_unload_128 : decode cX4_unload 128 = .ok (.iaload, 1) := by decide +kernel
theorem dX4_unload_129 : decode cX4_unload 129 = .ok (.iload_n 1, 1) := by decide +kernel
theorem dX4_unload_130 : decode cX4_unload 130 = .ok (.if_icmp .ne 49, 3) := by decide +kernel
theorem dX4_unload_133 : decode cX4_unload 133 = .ok (.aload_n 0, 1) := by decide +kernel
theorem dX4_unload_134 : decode cX4_unload 134 = .ok (.dup, 1) := by decide +kernel
theorem dX4_unload_135 : decode cX4_unload 135 = .ok (.getfield 191, 3) := by decide +kernel
theorem dX4_unload_138 : decode cX4_unload 138 = .ok (.iconst 1, 1) := by decide +kernel
theorem dX4_unload_139 : decode cX4_unload 139 = .ok (.isub, 1) := by decide +kernel
theorem dX4_unload_140 : decode cX4_unload 140 = .ok (.putfield 191, 3) := by decide +kernel
theorem dX4_unload_143 : decode cX4_unload 143 = .ok (.aload_n 0, 1) := by decide +kernel
theorem dX4_unload_144 : decode cX4_unload 144 = .ok (.getfield 58, 3) := by decide +kernel
theorem dX4_unload_147 : decode cX4_unload 147 = .ok (.aload_n 0, 1) := by decide +kernel
theorem dX4_unload_148 : decode cX4_unload 148 = .ok (.getfield 61, 3) := by decide +kernel
theorem dX4_unload_151 : decode cX4_unload 151 = .ok (.aload_n 0, 1) := by decide +kernel
theorem dX4_unload_152 : decode cX4_unload 152 = .ok (.getfield 191, 3) := by decide +kernel
theorem dX4_unload_155 : decode cX4_unload 155 = .ok (.iaload, 1) := by decide +kernel
theorem dX4_unload_156 : decode cX4_unload 156 = .ok (.iconst (-1), 1) := by decide +kernel
theorem dX4_unload_157 : decode cX4_unload 157 = .ok (.iastore, 1) := by decide +kernel
theorem dX4_unload_158 : decode cX4_unload 158 = .ok (.aload_n 0, 1) := by decide +kernel
theorem dX4_unload_159 : decode cX4_unload 159 = .ok (.getfield 49, 3) := by decide +kernel
theorem dX4_unload_162 : decode cX4_unload 162 = .ok (.aload_n 0, 1) := by decide +kernel
theorem dX4_unload_163 : decode cX4_unload 163 = .ok (.getfield 61, 3) := by decide +kernel
theorem dX4_unload_166 : decode cX4_unload 166 = .ok (.aload_n 0, 1) := by decide +kernel
theorem dX4_unload_167 : decode cX4_unload 167 = .ok (.getfield 191, 3) := by decide +kernel
theorem dX4_unload_170 : decode cX4_unload 170 = .ok (.iaload, 1) := by decide +kernel
theorem dX4_unload_171 : decode cX4_unload 171 = .ok (.iconst 0, 1) := by decide +kernel
theorem dX4_unload_172 : decode cX4_unload 172 = .ok (.iastore, 1) := by decide +kernel
theorem dX4_unload_173 : decode cX4_unload 173 = .ok (.iinc 3 1, 3) := by decide +kernel
theorem dX4_unload_176 : decode cX4_unload 176 = .ok (.goto (-70), 3) := by decide +kernel
theorem dX4_unload_179 : decode cX4_unload 179 = .ok (.iload_n 3, 1) := by decide +kernel
theorem dX4_unload_180 : decode cX4_unload 180 = .ok (.ireturn, 1) := by decide +kernel
set_option maxRecDepth 20000 in
theorem ggX4_order_X4_within : GoodIn wsX4_order wsX4_within := goodIn_r _ [7] (by decide +kernel) (by decide +kernel)
set_option maxRecDepth 20000 in
theorem gX4_order_X4_within : GoodIn wsX4_order (va_wsS RX4 95 yX4_within wsX4_within) := goodIn_app (goodIn_of _ (by decide +kernel)) ggX4_order_X4_within
theorem dX4_order_0 : decode cX4_order 0 = .ok (.aload_n 0, 1) := by decide +kernel
theorem dX4_order_1 : decode cX4_order 1 = .ok (.iload_n 1, 1) := by decide +kernel
theorem dX4_order_2 : decode cX4_order 2 = .ok (.iconst 0, 1) := by decide +kernel
theorem dX4_order_3 : decode cX4_order 3 = .ok (.aload_n 0, 1) := by decide +kernel
theorem dX4_order_4 : decode cX4_order 4 = .ok (.getfield 191, 3) := by decide +kernel
theorem dX4_order_7 : decode cX4_order 7 = .ok (.iconst 1, 1) := by decide +kernel
theorem dX4_order_8 : decode cX4_order 8 = .ok (.isub, 1) := by decide +kernel
theorem dX4_order_9 : decode cX4_order 9 = .ok (.invokestatic 95, 3) := by decide +kernel
theorem dX4_order_12 : decode cX4_order 12 = .ok (.ifCond .eq 7, 3) := by decide +kernel
theorem dX4_order_15 : decode cX4_order 15 = .ok (.iconst 0, 1) := by decide +kernel
theorem dX4_order_16 : decode cX4_order 16 = .ok (.goto 4, 3) := by decide +kernel
theorem dX4_order_19 : decode cX4_order 19 = .ok (.iconst 1, 1) := by decide +kernel
theorem dX4_order_20 : decode cX4_order 20 = .ok (.putfield 89, 3) := by decide +kernel
theorem dX4_order_23 : decode cX4_order 23 = .ok (.aload_n 0, 1) := by decide +kernel
theorem dX4_order_24 : decode cX4_order 24 = .ok (.getfield 89, 3) := by decide +kernel
theorem dX4_order_27 : decode cX4_order 27 = .ok (.ifCond .eq 7, 3) := by decide +kernel
theorem dX4_order_30 : decode cX4_order 30 = .ok (.iconst 0, 1) := by decide +kernel
theorem dX4_order_31 : decode cX4_order 31 = .ok (.goto 16, 3) := by decide +kernel
theorem dX4_order_34 : decode cX4_order 34 = .ok (.aload_n 0, 1) := by decide +kernel
theorem dX4_order_35 : decode cX4_order 35 = .ok (.getfield 61, 3) := by decide +kernel
theorem dX4_order_38 : decode cX4_order 38 = .ok (.aload_n 0, 1) := by decide +kernel
theorem dX4_order_39 : decode cX4_order 39 = .ok (.getfield 191, 3) := by decide +kernel
theorem dX4_order_42 : decode cX4_order 42 = .ok (.iconst 1, 1) := by decide +kernel
theorem dX4_order_43 : decode cX4_order 43 = .ok (.isub, 1) := by decide +kernel
theorem dX4_order_44 : decode cX4_order 44 = .ok (.iload_n 1, 1) := by decide +kernel
theorem dX4_order_45 : decode cX4_order 45 = .ok (.isub, 1) := by decide +kernel
theorem dX4_order_46 : decode cX4_order 46 = .ok (.iaload, 1) := by decide +kernel
theorem dX4_order_47 : decode cX4_order 47 = .ok (.ireturn, 1) := by decide +kernel
set_option maxRecDepth 20000 in
theorem ggX4_count__X4_boxesOn : GoodIn wsX4_count_ wsX4_boxesOn := goodIn_ca (goodIn_r _ [11, 12, 13, 14, 15, 16, 17, 18, 19, 20, 21, 22, 23, 24, 25, 26, 27, 28, 29, 30, 31, 32, 33, 34, 35, 36, 37, 38, 39, 40, 41, 42, 43, 44, 45, 46] (by decide +kernel) (by decide +kernel)) (goodIn_sub (fun _ h => List.mem_cons_of_mem _ (List.mem_append_right _ h)) (by decide +kernel))
set_option maxRecDepth 20000 in
theorem gX4_count__X4_boxesOn : GoodIn wsX4_count_ (wsV RX4 188 RX4 yX4_boxesOn wsX4_boxesOn) := goodIn_app (goodIn_of _ (by decide +kernel)) ggX4_count__X4_boxesOn
theorem dX4_count__0 : decode cX4_count_ 0 = .ok (.aload_n 0, 1) := by decide +kernel
theorem dX4_count__1 : decode cX4_count_ 1 = .ok (.iconst 0, 1) := by decide +kernel
theorem dX4_count__2 : decode cX4_count_ 2 = .ok (.putfield 89, 3) := by decide +kernel
theorem dX4_count__5 : decode cX4_count_ 5 = .ok (.iconst 0, 1) := by decide +kernel
theorem dX4_count__6 : decode cX4_count_ 6 = .ok (.istore_n 2, 1) := by decide +kernel
theorem dX4_count__7 : decode cX4_count_ 7 = .ok (.iload_n 1, 1) := by decide +kernel
theorem dX4_count__8 : decode cX4_count_ 8 = .ok (.tableswitch 122 0 5 #[40, 45, 50, 55, 81, 117], 40) := by decide +kernel
theorem dX4_count__48 : decode cX4_count_ 48 = .ok (.aload_n 0, 1) := by decide +kernel
theorem dX4_count__49 : decode cX4_count_ 49 = .ok (.getfield 92, 3) := by decide +kernel
theorem dX4_count__52 : decode cX4_count_ 52 = .ok (.ireturn, 1) := by decide +kernel
theorem dX4_count__53 : decode cX4_count_ 53 = .ok (.aload_n 0, 1) := by decide +kernel
theorem dX4_count__54 : decode cX4_count_ 54 = .ok (.getfield 99, 3) := by decide +kernel
theorem dX4_count__57 : decode cX4_count_ 57 = .ok (.ireturn, 1) := by decide +kernel
theorem dX4_count__58 : decode cX4_count_ 58 = .ok (.aload_n 0, 1) := by decide +kernel
theorem dX4_count__59 : decode cX4_count_ 59 = .ok (.getfield 191, 3) := by decide +kernel
theorem dX4_count__62 : decode cX4_count_ 62 = .ok (.ireturn, 1) := by decide +kernel
theorem dX4_count__63 : decode cX4_count_ 63 = .ok (.iconst 0, 1) := by decide +kernel
theorem dX4_count__64 : decode cX4_count_ 64 = .ok (.istore_n 3, 1) := by decide +kernel
theorem dX4_count__65 : decode cX4_count_ 65 = .ok (.iload_n 3, 1) := by decide +kernel
theorem dX4_count__66 : decode cX4_count_ 66 = .ok (.aload_n 0, 1) := by decide +kernel
theorem dX4_count__67 : decode cX4_count_ 67 = .ok (.getfield 99, 3) := by decide +kernel
theorem dX4_count__70 : decode cX4_count_ 70 = .ok (.if_icmp .ge 17, 3) := by decide +kernel
theorem dX4_count__73 : decode cX4_count_ 73 = .ok (.iload_n 2, 1) := by decide +kernel
theorem dX4_count__74 : decode cX4_count_ 74 = .ok (.aload_n 0, 1) := by decide +kernel
theorem dX4_count__75 : decode cX4_count_ 75 = .ok (.iload_n 3, 1) := by decide +kernel
theorem dX4_count__76 : decode cX4_count_ 76 = .ok (.invokevirtual 188, 3) := by decide +kernel
theorem dX4_count__79 : decode cX4_count_ 79 = .ok (.iadd, 1) := by decide +kernel
theorem dX4_count__80 : decode cX4_count_ 80 = .ok (.istore_n 2, 1) := by decide +kernel
theorem dX4_count__81 : decode cX4_count_ 81 = .ok (.iinc 3 1, 3) := by decide +kernel
theorem dX4_count__84 : decode cX4_count_ 84 = .ok (.goto (-19), 3) := by decide +kernel
theorem dX4_count__87 : decode cX4_count_ 87 = .ok (.iload_n 2, 1) := by decide +kernel
theorem dX4_count__88 : decode cX4_count_ 88 = .ok (.ireturn, 1) := by decide +kernel
theorem dX4_count__89 : decode cX4_count_ 89 = .ok (.iconst 0, 1) := by decide +kernel
theorem dX4_count__90 : decode cX4_count_ 90 = .ok (.istore_n 3, 1) := by decide +kernel
theorem dX4_count__91 : decode cX4_count_ 91 = .ok (.iload_n 3, 1) := by decide +kernel
theorem dX4_count__92 : decode cX4_count_ 92 = .ok (.aload_n 0, 1) := by decide +kernel
theorem dX4_count__93 : decode cX4_count_ 93 = .ok (.getfield 99, 3) := by decide +kernel
theorem dX4_count__96 : decode cX4_count_ 96 = .ok (.if_icmp .ge 27, 3) := by decide +kernel
theorem dX4_count__99 : decode cX4_count_ 99 = .ok (.aload_n 0, 1) := by decide +kernel
theorem dX4_count__100 : decode cX4_count_ 100 = .ok (.getfield 58, 3) := by decide +kernel
theorem dX4_count__103 : decode cX4_count_ 103 = .ok (.iload_n 3, 1) := by decide +kernel
theorem dX4_count__104 : decode cX4_count_ 104 = .ok (.iaload, 1) := by decide +kernel
theorem dX4_count__105 : decode cX4_count_ 105 = .ok (.iconst (-1), 1) := by decide +kernel
theorem dX4_count__106 : decode cX4_count_ 106 = .ok (.if_icmp .eq 11, 3) := by decide +kernel
theorem dX4_count__109 : decode cX4_count_ 109 = .ok (.iload_n 2, 1) := by decide +kernel
theorem dX4_count__110 : decode cX4_count_ 110 = .ok (.aload_n 0, 1) := by decide +kernel
theorem dX4_count__111 : decode cX4_count_ 111 = .ok (.iload_n 3, 1) := by decide +kernel
theorem dX4_count__112 : decode cX4_count_ 112 = .ok (.invokevirtual 188, 3) := by decide +kernel
theorem dX4_count__115 : decode cX4_count_ 115 = .ok (.iadd, 1) := by decide +kernel
theorem dX4_count__116 : decode cX4_count_ 116 = .ok (.istore_n 2, 1) := by decide +kernel
theorem dX4_count__117 : decode cX4_count_ 117 = .ok (.iinc 3 1, 3) := by decide +kernel
theorem dX4_count__120 : decode cX4_count_ 120 = .ok (.goto (-29), 3) := by decide +kernel
theorem dX4_count__123 : decode cX4_count_ 123 = .ok (.iload_n 2, 1) := by decide +kernel
theorem dX4_count__124 : decode cX4_count_ 124 = .ok (.ireturn, 1) := by decide +kernel
theorem dX4_count__125 : decode cX4_count_ 125 = .ok (.aload_n 0, 1) := by decide +kernel
theorem dX4_count__126 : decode cX4_count_ 126 = .ok (.getfield 128, 3) := by decide +kernel
theorem dX4_count__129 : decode cX4_count_ 129 = .ok (.ireturn, 1) := by decide +kernel
theorem dX4_count__130 : decode cX4_count_ 130 = .ok (.iconst (-1), 1) := by decide +kernel
theorem dX4_count__131 : decode cX4_count_ 131 = .ok (.ireturn, 1) := by decide +kernel
theorem dJx00060_init_a7421_0 : decode cJx00060_init_a7421 0 = .ok (.aload_n 0, 1) := by decide +kernel
theorem dJx00060_init_a7421_1 : decode cJx00060_init_a7421 1 = .ok (.aload_n 1, 1) := by decide +kernel
theorem dJx00060_init_a7421_2 : decode cJx00060_init_a7421 2 = .ok (.invokespecial 7, 3) := by decide +kernel
theorem dJx00060_init_a7421_5 : decode cJx00060_init_a7421 5 = .ok (.return_, 1) := by decide +kernel
theorem dJ13_bitCount_95d88_0 : decode cJ13_bitCount_95d88 0 = .ok (.lload_n 0, 1) := by decide +kernel
theorem dJ13_bitCount_95d88_1 : decode cJ13_bitCount_95d88 1 = .ok (.lload_n 0, 1) := by decide +kernel
theorem dJ13_bitCount_95d88_2 : decode cJ13_bitCount_95d88 2 = .ok (.iconst 1, 1) := by decide +kernel
theorem dJ13_bitCount_95d88_3 : decode cJ13_bitCount_95d88 3 = .ok (.lushr, 1) := by decide +kernel
theorem dJ13_bitCount_95d88_4 : decode cJ13_bitCount_95d88 4 = .ok (.ldc2_w 314, 3) := by decide +kernel
theorem dJ13_bitCount_95d88_7 : decode cJ13_bitCount_95d88 7 = .ok (.land, 1) := by decide +kernel
theorem dJ13_bitCount_95d88_8 : decode cJ13_bitCount_95d88 8 = .ok (.lsub, 1) := by decide +kernel
theorem dJ13_bitCount_95d88_9 : decode cJ13_bitCount_95d88 9 = .ok (.lstore_n 0, 1) := by decide +kernel
theorem dJ13_bitCount_95d88_10 : decode cJ13_bitCount_95d88 10 = .ok (.lload_n 0, 1) := by decide +kernel
theorem dJ13_bitCount_95d88_11 : decode cJ13_bitCount_95d88 11 = .ok (.ldc2_w 316, 3) := by decide +kernel
theorem dJ13_bitCount_95d88_14 : decode cJ13_bitCount_95d88 14 = .ok (.land, 1) := by decide +kernel
theorem dJ13_bitCount_95d88_15 : decode cJ13_bitCount_95d88 15 = .ok (.lload_n 0, 1) := by decide +kernel
theorem dJ13_bitCount_95d88_16 : decode cJ13_bitCount_95d88 16 = .ok (.iconst 2, 1) := by decide +kernel
theorem dJ13_bitCount_95d88_17 : decode cJ13_bitCount_95d88 17 = .ok (.lushr, 1) := by decide +kernel
theorem dJ13_bitCount_95d88_18 : decode cJ13_bitCount_95d88 18 = .ok (.ldc2_w 316, 3) := by decide +kernel
theorem dJ13_bitCount_95d88_21 : decode cJ13_bitCount_95d88 21 = .ok (.land, 1) := by decide +kernel
theorem dJ13_bitCount_95d88_22 : decode cJ13_bitCount_95d88 22 = .ok (.ladd, 1) := by decide +kernel
theorem dJ13_bitCount_95d88_23 : decode cJ13_bitCount_95d88 23 = .ok (.lstore_n 0, 1) := by decide +kernel
theorem dJ13_bitCount_95d88_24 : decode cJ13_bitCount_95d88 24 = .ok (.lload_n 0, 1) := by decide +kernel
theorem dJ13_bitCount_95d88_25 : decode cJ13_bitCount_95d88 25 = .ok (.lload_n 0, 1) := by decide +kernel
theorem dJ13_bitCount_95d88_26 : decode cJ13_bitCount_95d88 26 = .ok (.iconst 4, 1) := by decide +kernel
theorem dJ13_bitCount_95d88_27 : decode cJ13_bitCount_95d88 27 = .ok (.lushr, 1) := by decide +kernel
theorem dJ13_bitCount_95d88_28 : decode cJ13_bitCount_95d88 28 = .ok (.ladd, 1) := by decide +kernel
theorem dJ13_bitCount_95d88_29 : decode cJ13_bitCount_95d88 29 = .ok (.ldc2_w 318, 3) := by decide +kernel
theorem dJ13_bitCount_95d88_32 : decode cJ13_bitCount_95d88 32 = .ok (.land, 1) := by decide +kernel
theorem dJ13_bitCount_95d88_33 : decode cJ13_bitCount_95d88 33 = .ok (.lstore_n 0, 1) := by decide +kernel
theorem dJ13_bitCount_95d88_34 : decode cJ13_bitCount_95d88 34 = .ok (.lload_n 0, 1) := by decide +kernel
theorem dJ13_bitCount_95d88_35 : decode cJ13_bitCount_95d88 35 = .ok (.lload_n 0, 1) := by decide +kernel
theorem dJ13_bitCount_95d88_36 : decode cJ13_bitCount_95d88 36 = .ok (.bipush 8, 2) := by decide +kernel
theorem dJ13_bitCount_95d88_38 : decode cJ13_bitCount_95d88 38 = .ok (.lushr, 1) := by decide +kernel
theorem dJ13_bitCount_95d88_39 : decode cJ13_bitCount_95d88 39 = .ok (.ladd, 1) := by decide +kernel
theorem dJ13_bitCount_95d88_40 : decode cJ13_bitCount_95d88 40 = .ok (.lstore_n 0, 1) := by decide +kernel
theorem dJ13_bitCount_95d88_41 : decode cJ13_bitCount_95d88 41 = .ok (.lload_n 0, 1) := by decide +kernel
theorem dJ13_bitCount_95d88_42 : decode cJ13_bitCount_95d88 42 = .ok (.lload_n 0, 1) := by decide +kernel
theorem dJ13_bitCount_95d88_43 : decode cJ13_bitCount_95d88 43 = .ok (.bipush 16, 2) := by decide +kernel
theorem dJ13_bitCount_95d88_45 : decode cJ13_bitCount_95d88 45 = .ok (.lushr, 1) := by decide +kernel
theorem dJ13_bitCount_95d88_46 : decode cJ13_bitCount_95d88 46 = .ok (.ladd, 1) := by decide +kernel
theorem dJ13_bitCount_95d88_47 : decode cJ13_bitCount_95d88 47 = .ok (.lstore_n 0, 1) := by decide +kernel
theorem dJ13_bitCount_95d88_48 : decode cJ13_bitCount_95d88 48 = .ok (.lload_n 0, 1) := by decide +kernel
theorem dJ13_bitCount_95d88_49 : decode cJ13_bitCount_95d88 49 = .ok (.lload_n 0, 1) := by decide +kernel
theorem dJ13_bitCount_95d88_50 : decode cJ13_bitCount_95d88 50 = .ok (.bipush 32, 2) := by decide +kernel
theorem dJ13_bitCount_95d88_52 : decode cJ13_bitCount_95d88 52 = .ok (.lushr, 1) := by decide +kernel
theorem dJ13_bitCount_95d88_53 : decode cJ13_bitCount_95d88 53 = .ok (.ladd, 1) := by decide +kernel
theorem dJ13_bitCount_95d88_54 : decode cJ13_bitCount_95d88 54 = .ok (.lstore_n 0, 1) := by decide +kernel
theorem dJ13_bitCount_95d88_55 : decode cJ13_bitCount_95d88 55 = .ok (.lload_n 0, 1) := by decide +kernel
theorem dJ13_bitCount_95d88_56 : decode cJ13_bitCount_95d88 56 = .ok (.l2i, 1) := by decide +kernel
theorem dJ13_bitCount_95d88_57 : decode cJ13_bitCount_95d88 57 = .ok (.bipush 127, 2) := by decide +kernel
theorem dJ13_bitCount_95d88_59 : decode cJ13_bitCount_95d88 59 = .ok (.iand, 1) := by decide +kernel
theorem dJ13_bitCount_95d88_60 : decode cJ13_bitCount_95d88 60 = .ok (.ireturn, 1) := by decide +kernel
theorem dJ9_max_7cf53_0 : decode cJ9_max_7cf53 0 = .ok (.iload_n 0, 1) := by decide +kernel
theorem dJ9_max_7cf53_1 : decode cJ9_max_7cf53 1 = .ok (.iload_n 1, 1) := by decide +kernel
theorem dJ9_max_7cf53_2 : decode cJ9_max_7cf53 2 = .ok (.if_icmp .lt 7, 3) := by decide +kernel
theorem dJ9_max_7cf53_5 : decode cJ9_max_7cf53 5 = .ok (.iload_n 0, 1) := by decide +kernel
theorem dJ9_max_7cf53_6 : decode cJ9_max_7cf53 6 = .ok (.goto 4, 3) := by decide +kernel
theorem dJ9_max_7cf53_9 : decode cJ9_max_7cf53 9 = .ok (.iload_n 1, 1) := by decide +kernel
theorem dJ9_max_7cf53_10 : decode cJ9_max_7cf53 10 = .ok (.ireturn, 1) := by decide +kernel
theorem dJ9_min_7cf53_0 : decode cJ9_min_7cf53 0 = .ok (.iload_n 0, 1) := by decide +kernel
theorem dJ9_min_7cf53_1 : decode cJ9_min_7cf53 1 = .ok (.iload_n 1, 1) := by decide +kernel
theorem dJ9_min_7cf53_2 : decode cJ9_min_7cf53 2 = .ok (.if_icmp .gt 7, 3) := by decide +kernel
theorem dJ9_min_7cf53_5 : decode cJ9_min_7cf53 5 = .ok (.iload_n 0, 1) := by decide +kernel
theorem dJ9_min_7cf53_6 : decode cJ9_min_7cf53 6 = .ok (.goto 4, 3) := by decide +kernel
theorem dJ9_min_7cf53_9 : decode cJ9_min_7cf53 9 = .ok (.iload_n 1, 1) := by decide +kernel
theorem dJ9_min_7cf53_10 : decode cJ9_min_7cf53 10 = .ok (.ireturn, 1) := by decide +kernel
theorem dL_cell_0 : decode cL_cell 0 = .ok (.iload_n 1, 1) := by decide +kernel
theorem dL_cell_1 : decode cL_cell 1 = .ok (.aload_n 0, 1) := by decide +kernel
theorem dL_cell_2 : decode cL_cell 2 = .ok (.arraylength, 1) := by decide +kernel
theorem dL_cell_3 : decode cL_cell 3 = .ok (.if_icmp .ge 9, 3) := by decide +kernel
theorem dL_cell_6 : decode cL_cell 6 = .ok (.aload_n 0, 1) := by decide +kernel
theorem dL_cell_7 : decode cL_cell 7 = .ok (.iload_n 1, 1) := by decide +kernel
theorem dL_cell_8 : decode cL_cell 8 = .ok (.iaload, 1) := by decide +kernel
theorem dL_cell_9 : decode cL_cell 9 = .ok (.goto 4, 3) := by decide +kernel
theorem dL_cell_12 : decode cL_cell 12 = .ok (.iconst 0, 1) := by decide +kernel
theorem dL_cell_13 : decode cL_cell 13 = .ok (.ireturn, 1) := by decide +kernel
set_option maxRecDepth 20000 in
theorem ggL_kind_X3_kind : GoodIn wsL_kind wsX3_kind := goodIn_ca (goodIn_ca (goodIn_r _ [7, 8, 9, 10, 11, 12, 13, 14, 15, 16, 17, 18, 19, 6, 20, 21, 22, 23, 24, 25, 26, 27, 28, 29, 30, 31, 32, 33, 34, 35, 36, 37, 38, 39, 40, 41, 42, 43, 44, 45, 46, 47, 48, 49, 50, 51, 52, 53, 54, 55, 56, 57, 58, 59, 60, 61, 62, 63, 64] (by decide +kernel) (by decide +kernel)) (goodIn_sub (fun _ h => List.mem_cons_of_mem _ (List.mem_append_left _ (List.mem_append_right _ h))) (by decide +kernel))) (goodIn_sub (fun _ h => List.mem_cons_of_mem _ (List.mem_append_right _ h)) (by decide +kernel))
set_option maxRecDepth 20000 in
theorem gL_kind_X3_kind : GoodIn wsL_kind (wsV RL 7 RX3 yX3_kind wsX3_kind) := goodIn_app (goodIn_of _ (by decide +kernel)) ggL_kind_X3_kind
theorem dL_kind_0 : decode cL_kind 0 = .ok (.aload 5, 2) := by decide +kernel
theorem dL_kind_2 : decode cL_kind 2 = .ok (.iconst 0, 1) := by decide +kernel
theorem dL_kind_3 : decode cL_kind 3 = .ok (.aload_n 0, 1) := by decide +kernel
theorem dL_kind_4 : decode cL_kind 4 = .ok (.iload_n 1, 1) := by decide +kernel
theorem dL_kind_5 : decode cL_kind 5 = .ok (.iload_n 2, 1) := by decide +kernel
theorem dL_kind_6 : decode cL_kind 6 = .ok (.iload_n 3, 1) := by decide +kernel
theorem dL_kind_7 : decode cL_kind 7 = .ok (.iload 4, 2) := by decide +kernel
theorem dL_kind_9 : decode cL_kind 9 = .ok (.invokevirtual 7, 3) := by decide +kernel
theorem dL_kind_12 : decode cL_kind 12 = .ok (.i2l, 1) := by decide +kernel
theorem dL_kind_13 : decode cL_kind 13 = .ok (.lastore, 1) := by decide +kernel
theorem dL_kind_14 : decode cL_kind 14 = .ok (.goto 11, 3) := by decide +kernel
theorem dL_kind_17 : decode cL_kind 17 = .ok (.astore 6, 2) := by decide +kernel
theorem dL_kind_19 : decode cL_kind 19 = .ok (.iconst 1, 1) := by decide +kernel
theorem dL_kind_20 : decode cL_kind 20 = .ok (.ireturn, 1) := by decide +kernel
theorem dL_kind_21 : decode cL_kind 21 = .ok (.astore 6, 2) := by decide +kernel
theorem dL_kind_23 : decode cL_kind 23 = .ok (.iconst 2, 1) := by decide +kernel
theorem dL_kind_24 : decode cL_kind 24 = .ok (.ireturn, 1) := by decide +kernel
theorem dL_kind_25 : decode cL_kind 25 = .ok (.iconst 0, 1) := by decide +kernel
theorem dL_kind_26 : decode cL_kind 26 = .ok (.ireturn, 1) := by decide +kernel
set_option maxRecDepth 20000 in
theorem ggL_search_X3_search : GoodIn wsL_search wsX3_search := goodIn_ca (goodIn_ca (goodIn_ca (goodIn_ca (goodIn_r _ [8, 9, 10, 11, 12, 13, 14, 15, 16, 17, 7, 18, 19, 20, 21, 22, 23, 24, 25, 26, 27, 28, 29, 30, 31, 32, 33, 34, 35, 36, 37, 38, 39, 40, 41, 42, 43, 44, 45, 46, 47, 48, 49, 50, 51, 52, 53, 54, 55, 56, 57, 58, 59, 60, 61, 62, 63, 64, 65, 66, 67, 68, 69, 70, 71, 72, 73, 74, 75, 76, 77, 78, 79, 80, 81, 82, 83, 84, 85, 86, 87, 88, 89, 90, 91, 92, 93, 94, 95, 96, 97, 98, 99, 100, 101, 102, 103, 104, 105, 106, 107, 108, 109, 110, 111, 112, 113, 114, 115, 116, 117, 118, 119, 120, 121, 122, 123, 124, 125, 126, 127, 128, 129, 130, 131, 132, 133, 134, 135, 136, 137, 138, 139, 140, 141, 142, 143, 144, 145, 146, 147, 148, 149, 150, 151, 152, 153, 154, 155] (by decide +kernel) (by decide +kernel)) (goodIn_sub (fun _ h => List.mem_cons_of_mem _ (List.mem_append_left _ (List.mem_append_left _ (List.mem_append_right _ h)))) (by decide +kernel))) (goodIn_sub (fun _ h => List.mem_cons_of_mem _ (List.mem_append_left _ (List.mem_append_right _ h))) (by decide +kernel))) (goodIn_sub (fun _ h => List.mem_cons_of_mem _ (List.mem_append_right _ h)) (by decide +kernel))) (goodIn_sub (fun _ h => List.mem_cons_of_mem _ (List.mem_append_left _ (List.mem_append_left _ (List.mem_append_left _ (List.mem_append_right _ h))))) (by decide +kernel))
set_option maxRecDepth 20000 in
theorem gL_search_X3_search : GoodIn wsL_search (wsV RL 17 RX3 yX3_search wsX3_search) := goodIn_app (goodIn_of _ (by decide +kernel)) ggL_search_X3_search
theorem dL_search_0 : decode cL_search 0 = .ok (.aload_n 3, 1) := by decide +kernel
theorem dL_search_1 : decode cL_search 1 = .ok (.iconst 0, 1) := by decide +kernel
theorem dL_search_2 : decode cL_search 2 = .ok (.aload_n 0, 1) := by decide +kernel
theorem dL_search_3 : decode cL_search 3 = .ok (.iload_n 1, 1) := by decide +kernel
theorem dL_search_4 : decode cL_search 4 = .ok (.iload_n 2, 1) := by decide +kernel
theorem dL_search_5 : decode cL_search 5 = .ok (.invokevirtual 17, 3) := by decide +kernel
theorem dL_search_8 : decode cL_search 8 = .ok (.i2l, 1) := by decide +kernel
theorem dL_search_9 : decode cL_search 9 = .ok (.lastore, 1) := by decide +kernel
theorem dL_search_10 : decode cL_search 10 = .ok (.goto 15, 3) := by decide +kernel
theorem dL_search_13 : decode cL_search 13 = .ok (.astore 4, 2) := by decide +kernel
theorem dL_search_15 : decode cL_search 15 = .ok (.iconst 1, 1) := by decide +kernel
theorem dL_search_16 : decode cL_search 16 = .ok (.ireturn, 1) := by decide +kernel
theorem dL_search_17 : decode cL_search 17 = .ok (.astore 4, 2) := by decide +kernel
theorem dL_search_19 : decode cL_search 19 = .ok (.iconst 2, 1) := by decide +kernel
theorem dL_search_20 : decode cL_search 20 = .ok (.ireturn, 1) := by decide +kernel
theorem dL_search_21 : decode cL_search 21 = .ok (.astore 4, 2) := by decide +kernel
theorem dL_search_23 : decode cL_search 23 = .ok (.iconst 3, 1) := by decide +kernel
theorem dL_search_24 : decode cL_search 24 = .ok (.ireturn, 1) := by decide +kernel
theorem dL_search_25 : decode cL_search 25 = .ok (.iconst 0, 1) := by decide +kernel
theorem dL_search_26 : decode cL_search 26 = .ok (.ireturn, 1) := by decide +kernel
set_option maxRecDepth 20000 in
theorem ggL_pattern_X3_pattern : GoodIn wsL_pattern wsX3_pattern := goodIn_ca (goodIn_ca (goodIn_ca (goodIn_r _ [8, 9, 10, 11, 12, 13, 14, 15, 16, 17, 18, 19, 20, 7, 21, 22, 23, 24, 25, 26, 27, 28, 29, 30, 31, 32, 33, 34, 35, 36, 37, 38, 39, 40, 41, 42, 43, 44, 45, 46, 47, 48, 49, 50, 51, 52, 53, 54, 55, 56] (by decide +kernel) (by decide +kernel)) (goodIn_sub (fun _ h => List.mem_cons_of_mem _ (List.mem_append_left _ (List.mem_append_right _ h))) (by decide +kernel))) (goodIn_sub (fun _ h => List.mem_cons_of_mem _ (List.mem_append_left _ (List.mem_append_left _ (List.mem_append_right _ h)))) (by decide +kernel))) (goodIn_sub (fun _ h => List.mem_cons_of_mem _ (List.mem_append_right _ h)) (by decide +kernel))
set_option maxRecDepth 20000 in
theorem gL_pattern_X3_pattern : GoodIn wsL_pattern (wsV RL 25 RX3 yX3_pattern wsX3_pattern) := goodIn_app (goodIn_of _ (by decide +kernel)) ggL_pattern_X3_pattern
theorem dL_pattern_0 : decode cL_pattern 0 = .ok (.aload 4, 2) := by decide +kernel
theorem dL_pattern_2 : decode cL_pattern 2 = .ok (.iconst 0, 1) := by decide +kernel
theorem dL_pattern_3 : decode cL_pattern 3 = .ok (.aload_n 0, 1) := by decide +kernel
theorem dL_pattern_4 : decode cL_pattern 4 = .ok (.iload_n 1, 1) := by decide +kernel
theorem dL_pattern_5 : decode cL_pattern 5 = .ok (.iload_n 2, 1) := by decide +kernel
theorem dL_pattern_6 : decode cL_pattern 6 = .ok (.iload_n 3, 1) := by decide +kernel
theorem dL_pattern_7 : decode cL_pattern 7 = .ok (.invokevirtual 25, 3) := by decide +kernel
theorem dL_pattern_10 : decode cL_pattern 10 = .ok (.i2l, 1) := by decide +kernel
theorem dL_pattern_11 : decode cL_pattern 11 = .ok (.lastore, 1) := by decide +kernel
theorem dL_pattern_12 : decode cL_pattern 12 = .ok (.goto 15, 3) := by decide +kernel
theorem dL_pattern_15 : decode cL_pattern 15 = .ok (.astore 5, 2) := by decide +kernel
theorem dL_pattern_17 : decode cL_pattern 17 = .ok (.iconst 1, 1) := by decide +kernel
theorem dL_pattern_18 : decode cL_pattern 18 = .ok (.ireturn, 1) := by decide +kernel
theorem dL_pattern_19 : decode cL_pattern 19 = .ok (.astore 5, 2) := by decide +kernel
theorem dL_pattern_21 : decode cL_pattern 21 = .ok (.iconst 2, 1) := by decide +kernel
theorem dL_pattern_22 : decode cL_pattern 22 = .ok (.ireturn, 1) := by decide +kernel
theorem dL_pattern_23 : decode cL_pattern 23 = .ok (.astore 5, 2) := by decide +kernel
theorem dL_pattern_25 : decode cL_pattern 25 = .ok (.iconst 3, 1) := by decide +kernel
theorem dL_pattern_26 : decode cL_pattern 26 = .ok (.ireturn, 1) := by decide +kernel
theorem dL_pattern_27 : decode cL_pattern 27 = .ok (.iconst 0, 1) := by decide +kernel
theorem dL_pattern_28 : decode cL_pattern 28 = .ok (.ireturn, 1) := by decide +kernel
set_option maxRecDepth 20000 in
theorem ggL_exact_X3_exact : GoodIn wsL_exact wsX3_exact := goodIn_ca (goodIn_r _ [6, 7, 8, 9, 10, 5, 11, 12, 13, 14, 15, 16, 17, 18, 19, 20, 21, 22, 23, 24, 25, 26, 27, 28, 29, 30, 31, 32, 33, 34, 35, 36, 37, 38, 39, 40] (by decide +kernel) (by decide +kernel)) (goodIn_sub (fun _ h => List.mem_cons_of_mem _ (List.mem_append_right _ h)) (by decide +kernel))
set_option maxRecDepth 20000 in
theorem gL_exact_X3_exact : GoodIn wsL_exact (wsV RL 31 RX3 yX3_exact wsX3_exact) := goodIn_app (goodIn_of _ (by decide +kernel)) ggL_exact_X3_exact
theorem dL_exact_0 : decode cL_exact 0 = .ok (.aload_n 2, 1) := by decide +kernel
theorem dL_exact_1 : decode cL_exact 1 = .ok (.iconst 0, 1) := by decide +kernel
theorem dL_exact_2 : decode cL_exact 2 = .ok (.aload_n 0, 1) := by decide +kernel
theorem dL_exact_3 : decode cL_exact 3 = .ok (.iload_n 1, 1) := by decide +kernel
theorem dL_exact_4 : decode cL_exact 4 = .ok (.invokevirtual 31, 3) := by decide +kernel
theorem dL_exact_7 : decode cL_exact 7 = .ok (.ifCond .eq 7, 3) := by decide +kernel
theorem dL_exact_10 : decode cL_exact 10 = .ok (.lconst 1, 1) := by decide +kernel
theorem dL_exact_11 : decode cL_exact 11 = .ok (.goto 4, 3) := by decide +kernel
theorem dL_exact_14 : decode cL_exact 14 = .ok (.lconst 0, 1) := by decide +kernel
theorem dL_exact_15 : decode cL_exact 15 = .ok (.lastore, 1) := by decide +kernel
theorem dL_exact_16 : decode cL_exact 16 = .ok (.goto 6, 3) := by decide +kernel
theorem dL_exact_19 : decode cL_exact 19 = .ok (.astore_n 3, 1) := by decide +kernel
theorem dL_exact_20 : decode cL_exact 20 = .ok (.iconst 1, 1) := by decide +kernel
theorem dL_exact_21 : decode cL_exact 21 = .ok (.ireturn, 1) := by decide +kernel
theorem dL_exact_22 : decode cL_exact 22 = .ok (.iconst 0, 1) := by decide +kernel
theorem dL_exact_23 : decode cL_exact 23 = .ok (.ireturn, 1) := by decide +kernel
set_option maxRecDepth 20000 in
theorem ggL_bound_X3_bound : GoodIn wsL_bound wsX3_bound := goodIn_ca (goodIn_r _ [6, 7, 8, 9, 10, 11, 12, 5, 13, 14, 15, 16, 17, 18, 19, 20, 21, 22, 23, 24, 25, 26, 27, 28, 29, 30, 31, 32, 33, 34, 35, 36, 37, 38, 39, 40, 41, 42] (by decide +kernel) (by decide +kernel)) (goodIn_sub (fun _ h => List.mem_cons_of_mem _ (List.mem_append_right _ h)) (by decide +kernel))
set_option maxRecDepth 20000 in
theorem gL_bound_X3_bound : GoodIn wsL_bound (wsV RL 35 RX3 yX3_bound wsX3_bound) := goodIn_app (goodIn_of _ (by decide +kernel)) ggL_bound_X3_bound
theorem dL_bound_0 : decode cL_bound 0 = .ok (.aload_n 2, 1) := by decide +kernel
theorem dL_bound_1 : decode cL_bound 1 = .ok (.iconst 0, 1) := by decide +kernel
theorem dL_bound_2 : decode cL_bound 2 = .ok (.aload_n 0, 1) := by decide +kernel
theorem dL_bound_3 : decode cL_bound 3 = .ok (.iload_n 1, 1) := by decide +kernel
theorem dL_bound_4 : decode cL_bound 4 = .ok (.invokevirtual 35, 3) := by decide +kernel
theorem dL_bound_7 : decode cL_bound 7 = .ok (.i2l, 1) := by decide +kernel
theorem dL_bound_8 : decode cL_bound 8 = .ok (.lastore, 1) := by decide +kernel
theorem dL_bound_9 : decode cL_bound 9 = .ok (.goto 6, 3) := by decide +kernel
theorem dL_bound_12 : decode cL_bound 12 = .ok (.astore_n 3, 1) := by decide +kernel
theorem dL_bound_13 : decode cL_bound 13 = .ok (.iconst 1, 1) := by decide +kernel
theorem dL_bound_14 : decode cL_bound 14 = .ok (.ireturn, 1) := by decide +kernel
theorem dL_bound_15 : decode cL_bound 15 = .ok (.iconst 0, 1) := by decide +kernel
theorem dL_bound_16 : decode cL_bound 16 = .ok (.ireturn, 1) := by decide +kernel
set_option maxRecDepth 20000 in
theorem ggL_rules_X3_rules : GoodIn wsL_rules wsX3_rules := goodIn_ca (goodIn_r _ [6, 7, 8, 9, 10, 11, 12, 13, 5, 14, 15, 16, 17, 18, 19, 20, 21, 22, 23, 24, 25, 26] (by decide +kernel) (by decide +kernel)) (goodIn_sub (fun _ h => List.mem_cons_of_mem _ (List.mem_append_right _ h)) (by decide +kernel))
set_option maxRecDepth 20000 in
theorem gL_rules_X3_rules : GoodIn wsL_rules (wsV RL 39 RX3 yX3_rules wsX3_rules) := goodIn_app (goodIn_of _ (by decide +kernel)) ggL_rules_X3_rules
theorem dL_rules_0 : decode cL_rules 0 = .ok (.aload_n 0, 1) := by decide +kernel
theorem dL_rules_1 : decode cL_rules 1 = .ok (.iload_n 1, 1) := by decide +kernel
theorem dL_rules_2 : decode cL_rules 2 = .ok (.iload_n 2, 1) := by decide +kernel
theorem dL_rules_3 : decode cL_rules 3 = .ok (.iload_n 3, 1) := by decide +kernel
theorem dL_rules_4 : decode cL_rules 4 = .ok (.invokevirtual 39, 3) := by decide +kernel
theorem dL_rules_7 : decode cL_rules 7 = .ok (.goto 7, 3) := by decide +kernel
theorem dL_rules_10 : decode cL_rules 10 = .ok (.astore 4, 2) := by decide +kernel
theorem dL_rules_12 : decode cL_rules 12 = .ok (.iconst 1, 1) := by decide +kernel
theorem dL_rules_13 : decode cL_rules 13 = .ok (.ireturn, 1) := by decide +kernel
theorem dL_rules_14 : decode cL_rules 14 = .ok (.iconst 0, 1) := by decide +kernel
theorem dL_rules_15 : decode cL_rules 15 = .ok (.ireturn, 1) := by decide +kernel
set_option maxRecDepth 20000 in
theorem ggL_pallet_X3_pallet : GoodIn wsL_pallet wsX3_pallet := goodIn_ca (goodIn_r _ [6, 7, 8, 9, 10, 11, 12, 13, 14, 15, 16, 17, 18, 19, 20, 21, 22, 23, 24, 25, 26, 27, 28, 29, 30, 31, 32, 33, 34, 35, 36, 37, 38, 39, 40, 41, 42, 43, 44, 45, 46, 47, 48, 49, 50, 51, 52] (by decide +kernel) (by decide +kernel)) (goodIn_sub (fun _ h => List.mem_cons_of_mem _ (List.mem_append_right _ h)) (by decide +kernel))
set_option maxRecDepth 20000 in
theorem gL_pallet_X3_pallet : GoodIn wsL_pallet (wsV RL 43 RX3 yX3_pallet wsX3_pallet) := goodIn_app (goodIn_of _ (by decide +kernel)) ggL_pallet_X3_pallet
theorem dL_pallet_0 : decode cL_pallet 0 = .ok (.aload_n 1, 1) := by decide +kernel
theorem dL_pallet_1 : decode cL_pallet 1 = .ok (.iconst 0, 1) := by decide +kernel
theorem dL_pallet_2 : decode cL_pallet 2 = .ok (.aload_n 0, 1) := by decide +kernel
theorem dL_pallet_3 : decode cL_pallet 3 = .ok (.invokevirtual 43, 3) := by decide +kernel
theorem dL_pallet_6 : decode cL_pallet 6 = .ok (.i2l, 1) := by decide +kernel
theorem dL_pallet_7 : decode cL_pallet 7 = .ok (.lastore, 1) := by decide +kernel
theorem dL_pallet_8 : decode cL_pallet 8 = .ok (.goto 6, 3) := by decide +kernel
theorem dL_pallet_11 : decode cL_pallet 11 = .ok (.astore_n 2, 1) := by decide +kernel
theorem dL_pallet_12 : decode cL_pallet 12 = .ok (.iconst 1, 1) := by decide +kernel
theorem dL_pallet_13 : decode cL_pallet 13 = .ok (.ireturn, 1) := by decide +kernel
theorem dL_pallet_14 : decode cL_pallet 14 = .ok (.iconst 0, 1) := by decide +kernel
theorem dL_pallet_15 : decode cL_pallet 15 = .ok (.ireturn, 1) := by decide +kernel
set_option maxRecDepth 20000 in
theorem ggL_put_X3_put : GoodIn wsL_put wsX3_put := goodIn_ca (goodIn_ca (goodIn_ca (goodIn_ca (goodIn_ca (goodIn_r _ [9, 10, 11, 12, 13, 14, 15, 16, 17, 8, 18, 19, 20, 21, 22, 23, 24, 25, 26, 27, 28, 29, 30, 31, 32, 33, 34, 35, 36, 37, 38, 39, 40, 41, 42, 43, 44, 45, 46, 47, 48, 49, 50, 51, 52, 53, 54, 55, 56, 57, 58, 59, 60, 61, 62, 63, 64, 65, 66, 67, 68, 69, 70, 71, 72, 73, 74, 75, 76, 77, 78, 79, 80, 81, 82, 83, 84, 85, 86, 87, 88, 89, 90, 91, 92, 93, 94, 95, 96, 97, 98, 99, 100, 101, 102, 103, 104, 105, 106, 107, 108, 109, 110, 111, 112, 113, 114, 115, 116, 117, 118, 119, 120, 121, 122, 123, 124, 125, 126, 127, 128, 129, 130] (by decide +kernel) (by decide +kernel)) (goodIn_sub (fun _ h => List.mem_cons_of_mem _ (List.mem_append_left _ (List.mem_append_left _ (List.mem_append_left _ (List.mem_append_right _ h))))) (by decide +kernel))) (goodIn_sub (fun _ h => List.mem_cons_of_mem _ (List.mem_append_left _ (List.mem_append_left _ (List.mem_append_right _ h)))) (by decide +kernel))) (goodIn_sub (fun _ h => List.mem_cons_of_mem _ (List.mem_append_left _ (List.mem_append_right _ h))) (by decide +kernel))) (goodIn_sub (fun _ h => List.mem_cons_of_mem _ (List.mem_append_right _ h)) (by decide +kernel))) (goodIn_sub (fun _ h => List.mem_cons_of_mem _ (List.mem_append_left _ (List.mem_append_left _ (List.mem_append_left _ (List.mem_append_left _ (List.mem_append_right _ h)))))) (by decide +kernel))
set_option maxRecDepth 20000 in
theorem gL_put_X3_put : GoodIn wsL_put (wsV RL 47 RX3 yX3_put wsX3_put) := goodIn_app (goodIn_of _ (by decide +kernel)) ggL_put_X3_put
theorem dL_put_0 : decode cL_put 0 = .ok (.aload 4, 2) := by decide +kernel
theorem dL_put_2 : decode cL_put 2 = .ok (.iconst 0, 1) := by decide +kernel
theorem dL_put_3 : decode cL_put 3 = .ok (.aload_n 0, 1) := by decide +kernel
theorem dL_put_4 : decode cL_put 4 = .ok (.iload_n 1, 1) := by decide +kernel
theorem dL_put_5 : decode cL_put 5 = .ok (.iload_n 2, 1) := by decide +kernel
theorem dL_put_6 : decode cL_put 6 = .ok (.iload_n 3, 1) := by decide +kernel
theorem dL_put_7 : decode cL_put 7 = .ok (.invokevirtual 47, 3) := by decide +kernel
theorem dL_put_10 : decode cL_put 10 = .ok (.i2l, 1) := by decide +kernel
theorem dL_put_11 : decode cL_put 11 = .ok (.lastore, 1) := by decide +kernel
theorem dL_put_12 : decode cL_put 12 = .ok (.goto 19, 3) := by decide +kernel
theorem dL_put_15 : decode cL_put 15 = .ok (.astore 5, 2) := by decide +kernel
theorem dL_put_17 : decode cL_put 17 = .ok (.iconst 1, 1) := by decide +kernel
theorem dL_put_18 : decode cL_put 18 = .ok (.ireturn, 1) := by decide +kernel
theorem dL_put_19 : decode cL_put 19 = .ok (.astore 5, 2) := by decide +kernel
theorem dL_put_21 : decode cL_put 21 = .ok (.iconst 2, 1) := by decide +kernel
theorem dL_put_22 : decode cL_put 22 = .ok (.ireturn, 1) := by decide +kernel
theorem dL_put_23 : decode cL_put 23 = .ok (.astore 5, 2) := by decide +kernel
theorem dL_put_25 : decode cL_put 25 = .ok (.iconst 3, 1) := by decide +kernel
theorem dL_put_26 : decode cL_put 26 = .ok (.ireturn, 1) := by decide +kernel
theorem dL_put_27 : decode cL_put 27 = .ok (.astore 5, 2) := by decide +kernel
theorem dL_put_29 : decode cL_put 29 = .ok (.iconst 4, 1) := by decide +kernel
theorem dL_put_30 : decode cL_put 30 = .ok (.ireturn, 1) := by decide +kernel
theorem dL_put_31 : decode cL_put 31 = .ok (.iconst 0, 1) := by decide +kernel
theorem dL_put_32 : decode cL_put 32 = .ok (.ireturn, 1) := by decide +kernel
set_option maxRecDepth 20000 in
theorem ggL_fill_X3_fill : GoodIn wsL_fill wsX3_fill := goodIn_ca (goodIn_ca (goodIn_ca (goodIn_ca (goodIn_r _ [8, 9, 10, 11, 12, 13, 14, 15, 16, 17, 18, 19, 7, 20, 21, 22, 23, 24, 25, 26, 27, 28, 29, 30, 31, 32, 33, 34, 35, 36, 37, 38, 39, 40, 41, 42, 43, 44, 45, 46, 47, 48, 49, 50, 51, 52, 53, 54, 55, 56, 57, 58, 59, 60, 61, 62, 63, 64, 65, 66, 67, 68, 69, 70, 71, 72, 73, 74, 75, 76, 77, 78, 79, 80, 81, 82, 83, 84, 85, 86, 87, 88, 89, 90, 91, 92, 93, 94, 95, 96, 97, 98, 99, 100, 101, 102, 103, 104, 105, 106, 107, 108, 109, 110, 111, 112, 113, 114, 115, 116, 117, 118, 119, 120, 121, 122, 123, 124, 125, 126, 127, 128, 129, 130, 131] (by decide +kernel) (by decide +kernel)) (goodIn_sub (fun _ h => List.mem_cons_of_mem _ (List.mem_append_left _ (List.mem_append_left _ (List.mem_append_right _ h)))) (by decide +kernel))) (goodIn_sub (fun _ h => List.mem_cons_of_mem _ (List.mem_append_left _ (List.mem_append_right _ h))) (by decide +kernel))) (goodIn_sub (fun _ h => List.mem_cons_of_mem _ (List.mem_append_right _ h)) (by decide +kernel))) (goodIn_sub (fun _ h => List.mem_cons_of_mem _ (List.mem_append_left _ (List.mem_append_left _ (List.mem_append_left _ (List.mem_append_right _ h))))) (by decide +kernel))
set_option maxRecDepth 20000 in
theorem gL_fill_X3_fill : GoodIn wsL_fill (wsV RL 50 RX3 yX3_fill wsX3_fill) := goodIn_app (goodIn_of _ (by decide +kernel)) ggL_fill_X3_fill
theorem dL_fill_0 : decode cL_fill 0 = .ok (.aload 4, 2) := by decide +kernel
theorem dL_fill_2 : decode cL_fill 2 = .ok (.iconst 0, 1) := by decide +kernel
theorem dL_fill_3 : decode cL_fill 3 = .ok (.aload_n 0, 1) := by decide +kernel
theorem dL_fill_4 : decode cL_fill 4 = .ok (.iload_n 1, 1) := by decide +kernel
theorem dL_fill_5 : decode cL_fill 5 = .ok (.iload_n 2, 1) := by decide +kernel
theorem dL_fill_6 : decode cL_fill 6 = .ok (.iload_n 3, 1) := by decide +kernel
theorem dL_fill_7 : decode cL_fill 7 = .ok (.invokevirtual 50, 3) := by decide +kernel
theorem dL_fill_10 : decode cL_fill 10 = .ok (.i2l, 1) := by decide +kernel
theorem dL_fill_11 : decode cL_fill 11 = .ok (.lastore, 1) := by decide +kernel
theorem dL_fill_12 : decode cL_fill 12 = .ok (.goto 15, 3) := by decide +kernel
theorem dL_fill_15 : decode cL_fill 15 = .ok (.astore 5, 2) := by decide +kernel
theorem dL_fill_17 : decode cL_fill 17 = .ok (.iconst 1, 1) := by decide +kernel
theorem dL_fill_18 : decode cL_fill 18 = .ok (.ireturn, 1) := by decide +kernel
theorem dL_fill_19 : decode cL_fill 19 = .ok (.astore 5, 2) := by decide +kernel
theorem dL_fill_21 : decode cL_fill 21 = .ok (.iconst 2, 1) := by decide +kernel
theorem dL_fill_22 : decode cL_fill 22 = .ok (.ireturn, 1) := by decide +kernel
theorem dL_fill_23 : decode cL_fill 23 = .ok (.astore 5, 2) := by decide +kernel
theorem dL_fill_25 : decode cL_fill 25 = .ok (.iconst 3, 1) := by decide +kernel
theorem dL_fill_26 : decode cL_fill 26 = .ok (.ireturn, 1) := by decide +kernel
theorem dL_fill_27 : decode cL_fill 27 = .ok (.iconst 0, 1) := by decide +kernel
theorem dL_fill_28 : decode cL_fill 28 = .ok (.ireturn, 1) := by decide +kernel
set_option maxRecDepth 20000 in
theorem ggL_take_X3_take : GoodIn wsL_take wsX3_take := goodIn_ca (goodIn_ca (goodIn_ca (goodIn_r _ [7, 8, 9, 10, 6, 11, 12, 13, 14, 15, 16, 17, 18, 19, 20, 21, 22, 23, 24, 25, 26, 27, 28, 29, 30, 31, 32, 33, 34, 35, 36, 37, 38, 39, 40, 41, 42, 43, 44, 45, 46, 47, 48, 49, 50, 51, 52, 53, 54, 55, 56, 57, 58, 59, 60, 61] (by decide +kernel) (by decide +kernel)) (goodIn_sub (fun _ h => List.mem_cons_of_mem _ (List.mem_append_left _ (List.mem_append_right _ h))) (by decide +kernel))) (goodIn_sub (fun _ h => List.mem_cons_of_mem _ (List.mem_append_right _ h)) (by decide +kernel))) (goodIn_sub (fun _ h => List.mem_cons_of_mem _ (List.mem_append_left _ (List.mem_append_left _ (List.mem_append_right _ h)))) (by decide +kernel))
set_option maxRecDepth 20000 in
theorem gL_take_X3_take : GoodIn wsL_take (wsV RL 53 RX3 yX3_take wsX3_take) := goodIn_app (goodIn_of _ (by decide +kernel)) ggL_take_X3_take
theorem dL_take_0 : decode cL_take 0 = .ok (.aload_n 2, 1) := by decide +kernel
theorem dL_take_1 : decode cL_take 1 = .ok (.iconst 0, 1) := by decide +kernel
theorem dL_take_2 : decode cL_take 2 = .ok (.aload_n 0, 1) := by decide +kernel
theorem dL_take_3 : decode cL_take 3 = .ok (.iload_n 1, 1) := by decide +kernel
theorem dL_take_4 : decode cL_take 4 = .ok (.invokevirtual 53, 3) := by decide +kernel
theorem dL_take_7 : decode cL_take 7 = .ok (.i2l, 1) := by decide +kernel
theorem dL_take_8 : decode cL_take 8 = .ok (.lastore, 1) := by decide +kernel
theorem dL_take_9 : decode cL_take 9 = .ok (.goto 9, 3) := by decide +kernel
theorem dL_take_12 : decode cL_take 12 = .ok (.astore_n 3, 1) := by decide +kernel
theorem dL_take_13 : decode cL_take 13 = .ok (.iconst 1, 1) := by decide +kernel
theorem dL_take_14 : decode cL_take 14 = .ok (.ireturn, 1) := by decide +kernel
theorem dL_take_15 : decode cL_take 15 = .ok (.astore_n 3, 1) := by decide +kernel
theorem dL_take_16 : decode cL_take 16 = .ok (.iconst 2, 1) := by decide +kernel
theorem dL_take_17 : decode cL_take 17 = .ok (.ireturn, 1) := by decide +kernel
theorem dL_take_18 : decode cL_take 18 = .ok (.iconst 0, 1) := by decide +kernel
theorem dL_take_19 : decode cL_take 19 = .ok (.ireturn, 1) := by decide +kernel
set_option maxRecDepth 20000 in
theorem ggL_support_X3_support : GoodIn wsL_support wsX3_support := goodIn_ca (goodIn_ca (goodIn_r _ [6, 7, 8, 9, 10, 11, 12, 13, 14, 5, 15, 16, 17, 18, 19, 20, 21, 22, 23, 24, 25, 26, 27, 28, 29, 30, 31, 32, 33, 34, 35, 36, 37, 38, 39, 40, 41, 42, 43, 44, 45, 46, 47, 48, 49, 50, 51, 52, 53, 54, 55, 56, 57, 58, 59, 60, 61, 62, 63, 64, 65, 66, 67, 68, 69, 70, 71, 72, 73, 74, 75, 76, 77, 78, 79, 80, 81, 82, 83, 84, 85, 86, 87, 88, 89, 90, 91, 92, 93] (by decide +kernel) (by decide +kernel)) (goodIn_sub (fun _ h => List.mem_cons_of_mem _ (List.mem_append_left _ (List.mem_append_right _ h))) (by decide +kernel))) (goodIn_sub (fun _ h => List.mem_cons_of_mem _ (List.mem_append_right _ h)) (by decide +kernel))
set_option maxRecDepth 20000 in
theorem gL_support_X3_support : GoodIn wsL_support (wsV RL 56 RX3 yX3_support wsX3_support) := goodIn_app (goodIn_of _ (by decide +kernel)) ggL_support_X3_support
theorem dL_support_0 : decode cL_support 0 = .ok (.aload 4, 2) := by decide +kernel
theorem dL_support_2 : decode cL_support 2 = .ok (.iconst 0, 1) := by decide +kernel
theorem dL_support_3 : decode cL_support 3 = .ok (.aload_n 0, 1) := by decide +kernel
theorem dL_support_4 : decode cL_support 4 = .ok (.iload_n 1, 1) := by decide +kernel
theorem dL_support_5 : decode cL_support 5 = .ok (.iload_n 2, 1) := by decide +kernel
theorem dL_support_6 : decode cL_support 6 = .ok (.iload_n 3, 1) := by decide +kernel
theorem dL_support_7 : decode cL_support 7 = .ok (.invokevirtual 56, 3) := by decide +kernel
theorem dL_support_10 : decode cL_support 10 = .ok (.i2l, 1) := by decide +kernel
theorem dL_support_11 : decode cL_support 11 = .ok (.lastore, 1) := by decide +kernel
theorem dL_support_12 : decode cL_support 12 = .ok (.goto 7, 3) := by decide +kernel
theorem dL_support_15 : decode cL_support 15 = .ok (.astore 5, 2) := by decide +kernel
theorem dL_support_17 : decode cL_support 17 = .ok (.iconst 1, 1) := by decide +kernel
theorem dL_support_18 : decode cL_support 18 = .ok (.ireturn, 1) := by decide +kernel
theorem dL_support_19 : decode cL_support 19 = .ok (.iconst 0, 1) := by decide +kernel
theorem dL_support_20 : decode cL_support 20 = .ok (.ireturn, 1) := by decide +kernel
set_option maxRecDepth 20000 in
theorem ggL_told_X3_told : GoodIn wsL_told wsX3_told := goodIn_ca (goodIn_ca (goodIn_ca (goodIn_r _ [7, 8, 9, 10, 11, 12, 13, 14, 15, 16, 17, 6, 18, 19, 20, 21, 22, 23, 24, 25, 26, 27, 28, 29, 30, 31, 32, 33, 34, 35, 36, 37, 38, 39, 40, 41, 42, 43, 44, 45, 46, 47, 48, 49, 50, 51, 52, 53] (by decide +kernel) (by decide +kernel)) (goodIn_sub (fun _ h => List.mem_cons_of_mem _ (List.mem_append_left _ (List.mem_append_right _ h))) (by decide +kernel))) (goodIn_sub (fun _ h => List.mem_cons_of_mem _ (List.mem_append_right _ h)) (by decide +kernel))) (goodIn_sub (fun _ h => List.mem_cons_of_mem _ (List.mem_append_left _ (List.mem_append_left _ (List.mem_append_right _ h)))) (by decide +kernel))
set_option maxRecDepth 20000 in
theorem gL_told_X3_told : GoodIn wsL_told (wsV RL 59 RX3 yX3_told wsX3_told) := goodIn_app (goodIn_of _ (by decide +kernel)) ggL_told_X3_told
theorem dL_told_0 : decode cL_told 0 = .ok (.aload_n 3, 1) := by decide +kernel
theorem dL_told_1 : decode cL_told 1 = .ok (.iconst 0, 1) := by decide +kernel
theorem dL_told_2 : decode cL_told 2 = .ok (.aload_n 0, 1) := by decide +kernel
theorem dL_told_3 : decode cL_told 3 = .ok (.iload_n 1, 1) := by decide +kernel
theorem dL_told_4 : decode cL_told 4 = .ok (.iload_n 2, 1) := by decide +kernel
theorem dL_told_5 : decode cL_told 5 = .ok (.invokevirtual 59, 3) := by decide +kernel
theorem dL_told_8 : decode cL_told 8 = .ok (.i2l, 1) := by decide +kernel
theorem dL_told_9 : decode cL_told 9 = .ok (.lastore, 1) := by decide +kernel
theorem dL_told_10 : decode cL_told 10 = .ok (.goto 11, 3) := by decide +kernel
theorem dL_told_13 : decode cL_told 13 = .ok (.astore 4, 2) := by decide +kernel
theorem dL_told_15 : decode cL_told 15 = .ok (.iconst 1, 1) := by decide +kernel
theorem dL_told_16 : decode cL_told 16 = .ok (.ireturn, 1) := by decide +kernel
theorem dL_told_17 : decode cL_told 17 = .ok (.astore 4, 2) := by decide +kernel
theorem dL_told_19 : decode cL_told 19 = .ok (.iconst 2, 1) := by decide +kernel
theorem dL_told_20 : decode cL_told 20 = .ok (.ireturn, 1) := by decide +kernel
theorem dL_told_21 : decode cL_told 21 = .ok (.iconst 0, 1) := by decide +kernel
theorem dL_told_22 : decode cL_told 22 = .ok (.ireturn, 1) := by decide +kernel
set_option maxRecDepth 20000 in
theorem ggL_layer_X3_layer : GoodIn wsL_layer wsX3_layer := goodIn_ca (goodIn_ca (goodIn_ca (goodIn_r _ [7, 8, 9, 10, 11, 12, 13, 14, 15, 16, 6, 17, 18, 19, 20, 21, 22, 23, 24, 25, 26, 27, 28, 29, 30, 31, 32, 33, 34, 35, 36, 37, 38, 39, 40, 41, 42, 43, 44, 45, 46, 47, 48, 49, 50, 51, 52, 53, 54, 55, 56, 57, 58, 59, 60, 61, 62, 63, 64, 65, 66] (by decide +kernel) (by decide +kernel)) (goodIn_sub (fun _ h => List.mem_cons_of_mem _ (List.mem_append_left _ (List.mem_append_left _ (List.mem_append_right _ h)))) (by decide +kernel))) (goodIn_sub (fun _ h => List.mem_cons_of_mem _ (List.mem_append_left _ (List.mem_append_right _ h))) (by decide +kernel))) (goodIn_sub (fun _ h => List.mem_cons_of_mem _ (List.mem_append_right _ h)) (by decide +kernel))
set_option maxRecDepth 20000 in
theorem gL_layer_X3_layer : GoodIn wsL_layer (wsV RL 62 RX3 yX3_layer wsX3_layer) := goodIn_app (goodIn_of _ (by decide +kernel)) ggL_layer_X3_layer
theorem dL_layer_0 : decode cL_layer 0 = .ok (.aload 4, 2) := by decide +kernel
theorem dL_layer_2 : decode cL_layer 2 = .ok (.iconst 0, 1) := by decide +kernel
theorem dL_layer_3 : decode cL_layer 3 = .ok (.aload_n 0, 1) := by decide +kernel
theorem dL_layer_4 : decode cL_layer 4 = .ok (.iload_n 1, 1) := by decide +kernel
theorem dL_layer_5 : decode cL_layer 5 = .ok (.iload_n 2, 1) := by decide +kernel
theorem dL_layer_6 : decode cL_layer 6 = .ok (.iload_n 3, 1) := by decide +kernel
theorem dL_layer_7 : decode cL_layer 7 = .ok (.invokevirtual 62, 3) := by decide +kernel
theorem dL_layer_10 : decode cL_layer 10 = .ok (.i2l, 1) := by decide +kernel
theorem dL_layer_11 : decode cL_layer 11 = .ok (.lastore, 1) := by decide +kernel
theorem dL_layer_12 : decode cL_layer 12 = .ok (.goto 11, 3) := by decide +kernel
theorem dL_layer_15 : decode cL_layer 15 = .ok (.astore 5, 2) := by decide +kernel
theorem dL_layer_17 : decode cL_layer 17 = .ok (.iconst 1, 1) := by decide +kernel
theorem dL_layer_18 : decode cL_layer 18 = .ok (.ireturn, 1) := by decide +kernel
theorem dL_layer_19 : decode cL_layer 19 = .ok (.astore 5, 2) := by decide +kernel
theorem dL_layer_21 : decode cL_layer 21 = .ok (.iconst 2, 1) := by decide +kernel
theorem dL_layer_22 : decode cL_layer 22 = .ok (.ireturn, 1) := by decide +kernel
theorem dL_layer_23 : decode cL_layer 23 = .ok (.iconst 0, 1) := by decide +kernel
theorem dL_layer_24 : decode cL_layer 24 = .ok (.ireturn, 1) := by decide +kernel
set_option maxRecDepth 20000 in
theorem ggL_truck_X3_truck : GoodIn wsL_truck wsX3_truck := goodIn_ca (goodIn_ca (goodIn_ca (goodIn_ca (goodIn_r _ [8, 9, 10, 11, 12, 13, 14, 15, 16, 17, 18, 7, 19, 20, 21, 22, 23, 24, 25, 26, 27, 28, 29, 30, 31, 32, 33, 34, 35, 36, 37, 38, 39, 40, 41, 42, 43, 44, 45, 46, 47, 48, 49, 50, 51, 52, 53, 54, 55, 56, 57, 58] (by decide +kernel) (by decide +kernel)) (goodIn_sub (fun _ h => List.mem_cons_of_mem _ (List.mem_append_left _ (List.mem_append_left _ (List.mem_append_right _ h)))) (by decide +kernel))) (goodIn_sub (fun _ h => List.mem_cons_of_mem _ (List.mem_append_left _ (List.mem_append_right _ h))) (by decide +kernel))) (goodIn_sub (fun _ h => List.mem_cons_of_mem _ (List.mem_append_left _ (List.mem_append_left _ (List.mem_append_left _ (List.mem_append_right _ h))))) (by decide +kernel))) (goodIn_sub (fun _ h => List.mem_cons_of_mem _ (List.mem_append_right _ h)) (by decide +kernel))
set_option maxRecDepth 20000 in
theorem gL_truck_X3_truck : GoodIn wsL_truck (wsV RL 65 RX3 yX3_truck wsX3_truck) := goodIn_app (goodIn_of _ (by decide +kernel)) ggL_truck_X3_truck
theorem dL_truck_0 : decode cL_truck 0 = .ok (.aload_n 3, 1) := by decide +kernel
theorem dL_truck_1 : decode cL_truck 1 = .ok (.iconst 0, 1) := by decide +kernel
theorem dL_truck_2 : decode cL_truck 2 = .ok (.aload_n 0, 1) := by decide +kernel
theorem dL_truck_3 : decode cL_truck 3 = .ok (.iload_n 1, 1) := by decide +kernel
theorem dL_truck_4 : decode cL_truck 4 = .ok (.iload_n 2, 1) := by decide +kernel
theorem dL_truck_5 : decode cL_truck 5 = .ok (.invokevirtual 65, 3) := by decide +kernel
theorem dL_truck_8 : decode cL_truck 8 = .ok (.i2l, 1) := by decide +kernel
theorem dL_truck_9 : decode cL_truck 9 = .ok (.lastore, 1) := by decide +kernel
theorem dL_truck_10 : decode cL_truck 10 = .ok (.goto 15, 3) := by decide +kernel
theorem dL_truck_13 : decode cL_truck 13 = .ok (.astore 4, 2) := by decide +kernel
theorem dL_truck_15 : decode cL_truck 15 = .ok (.iconst 1, 1) := by decide +kernel
theorem dL_truck_16 : decode cL_truck 16 = .ok (.ireturn, 1) := by decide +kernel
theorem dL_truck_17 : decode cL_truck 17 = .ok (.astore 4, 2) := by decide +kernel
theorem dL_truck_19 : decode cL_truck 19 = .ok (.iconst 2, 1) := by decide +kernel
theorem dL_truck_20 : decode cL_truck 20 = .ok (.ireturn, 1) := by decide +kernel
theorem dL_truck_21 : decode cL_truck 21 = .ok (.astore 4, 2) := by decide +kernel
theorem dL_truck_23 : decode cL_truck 23 = .ok (.iconst 3, 1) := by decide +kernel
theorem dL_truck_24 : decode cL_truck 24 = .ok (.ireturn, 1) := by decide +kernel
theorem dL_truck_25 : decode cL_truck 25 = .ok (.iconst 0, 1) := by decide +kernel
theorem dL_truck_26 : decode cL_truck 26 = .ok (.ireturn, 1) := by decide +kernel
set_option maxRecDepth 20000 in
theorem ggL_unload_X3_unload : GoodIn wsL_unload wsX3_unload := goodIn_ca (goodIn_ca (goodIn_ca (goodIn_ca (goodIn_r _ [7, 8, 9, 10, 11, 12, 13, 14, 15, 16, 6, 17, 18, 19, 20, 21, 22, 23, 24, 25, 26, 27, 28, 29, 30, 31, 32, 33, 34, 35, 36, 37, 38, 39, 40, 41, 42, 43, 44, 45, 46, 47, 48, 49, 50, 51, 52, 53, 54, 55, 56, 57, 58, 59, 60] (by decide +kernel) (by decide +kernel)) (goodIn_sub (fun _ h => List.mem_cons_of_mem _ (List.mem_append_left _ (List.mem_append_left _ (List.mem_append_right _ h)))) (by decide +kernel))) (goodIn_sub (fun _ h => List.mem_cons_of_mem _ (List.mem_append_left _ (List.mem_append_right _ h))) (by decide +kernel))) (goodIn_sub (fun _ h => List.mem_cons_of_mem _ (List.mem_append_left _ (List.mem_append_left _ (List.mem_append_left _ (List.mem_append_right _ h))))) (by decide +kernel))) (goodIn_sub (fun _ h => List.mem_cons_of_mem _ (List.mem_append_right _ h)) (by decide +kernel))
set_option maxRecDepth 20000 in
theorem gL_unload_X3_unload : GoodIn wsL_unload (wsV RL 68 RX3 yX3_unload wsX3_unload) := goodIn_app (goodIn_of _ (by decide +kernel)) ggL_unload_X3_unload
theorem dL_unload_0 : decode cL_unload 0 = .ok (.aload_n 2, 1) := by decide +kernel
theorem dL_unload_1 : decode cL_unload 1 = .ok (.iconst 0, 1) := by decide +kernel
theorem dL_unload_2 : decode cL_unload 2 = .ok (.aload_n 0, 1) := by decide +kernel
theorem dL_unload_3 : decode cL_unload 3 = .ok (.iload_n 1, 1) := by decide +kernel
theorem dL_unload_4 : decode cL_unload 4 = .ok (.invokevirtual 68, 3) := by decide +kernel
theorem dL_unload_7 : decode cL_unload 7 = .ok (.i2l, 1) := by decide +kernel
theorem dL_unload_8 : decode cL_unload 8 = .ok (.lastore, 1) := by decide +kernel
theorem dL_unload_9 : decode cL_unload 9 = .ok (.goto 9, 3) := by decide +kernel
theorem dL_unload_12 : decode cL_unload 12 = .ok (.astore_n 3, 1) := by decide +kernel
theorem dL_unload_13 : decode cL_unload 13 = .ok (.iconst 1, 1) := by decide +kernel
theorem dL_unload_14 : decode cL_unload 14 = .ok (.ireturn, 1) := by decide +kernel
theorem dL_unload_15 : decode cL_unload 15 = .ok (.astore_n 3, 1) := by decide +kernel
theorem dL_unload_16 : decode cL_unload 16 = .ok (.iconst 2, 1) := by decide +kernel
theorem dL_unload_17 : decode cL_unload 17 = .ok (.ireturn, 1) := by decide +kernel
theorem dL_unload_18 : decode cL_unload 18 = .ok (.iconst 0, 1) := by decide +kernel
theorem dL_unload_19 : decode cL_unload 19 = .ok (.ireturn, 1) := by decide +kernel
set_option maxRecDepth 20000 in
theorem ggL_order_X3_order : GoodIn wsL_order wsX3_order := goodIn_ca (goodIn_ca (goodIn_r _ [6, 7, 8, 9, 10, 11, 12, 5, 13, 14, 15, 16, 17, 18, 19, 20, 21, 22, 23, 24, 25] (by decide +kernel) (by decide +kernel)) (goodIn_sub (fun _ h => List.mem_cons_of_mem _ (List.mem_append_right _ h)) (by decide +kernel))) (goodIn_sub (fun _ h => List.mem_cons_of_mem _ (List.mem_append_left _ (List.mem_append_right _ h))) (by decide +kernel))
set_option maxRecDepth 20000 in
theorem gL_order_X3_order : GoodIn wsL_order (wsV RL 71 RX3 yX3_order wsX3_order) := goodIn_app (goodIn_of _ (by decide +kernel)) ggL_order_X3_order
theorem dL_order_0 : decode cL_order 0 = .ok (.aload_n 2, 1) := by decide +kernel
theorem dL_order_1 : decode cL_order 1 = .ok (.iconst 0, 1) := by decide +kernel
theorem dL_order_2 : decode cL_order 2 = .ok (.aload_n 0, 1) := by decide +kernel
theorem dL_order_3 : decode cL_order 3 = .ok (.iload_n 1, 1) := by decide +kernel
theorem dL_order_4 : decode cL_order 4 = .ok (.invokevirtual 71, 3) := by decide +kernel
theorem dL_order_7 : decode cL_order 7 = .ok (.i2l, 1) := by decide +kernel
theorem dL_order_8 : decode cL_order 8 = .ok (.lastore, 1) := by decide +kernel
theorem dL_order_9 : decode cL_order 9 = .ok (.goto 6, 3) := by decide +kernel
theorem dL_order_12 : decode cL_order 12 = .ok (.astore_n 3, 1) := by decide +kernel
theorem dL_order_13 : decode cL_order 13 = .ok (.iconst 1, 1) := by decide +kernel
theorem dL_order_14 : decode cL_order 14 = .ok (.ireturn, 1) := by decide +kernel
theorem dL_order_15 : decode cL_order 15 = .ok (.iconst 0, 1) := by decide +kernel
theorem dL_order_16 : decode cL_order 16 = .ok (.ireturn, 1) := by decide +kernel
set_option maxRecDepth 20000 in
theorem ggL_law_L_cell : GoodIn wsL_law wsL_cell := goodIn_ca (goodIn_r _ [10] (by decide +kernel) (by decide +kernel)) (goodIn_sub (fun _ h => List.mem_append_left _ (List.mem_append_left _ (List.mem_append_left _ (List.mem_append_left _ (List.mem_append_right _ h))))) (by decide +kernel))
set_option maxRecDepth 20000 in
theorem gL_law_L_cell : GoodIn wsL_law (va_wsS RL 74 yL_cell wsL_cell) := goodIn_app (goodIn_of _ (by decide +kernel)) ggL_law_L_cell
set_option maxRecDepth 20000 in
theorem ggL_law_X3_init : GoodIn wsL_law wsX3_init := goodIn_r _ [13, 14, 15, 16, 17, 18, 19, 20, 21, 22, 23, 24, 25, 26, 27, 28, 29, 30, 31, 32, 33, 34, 35, 36, 37, 38, 39, 40, 41, 42, 43, 44, 45, 46, 47, 48, 49, 50, 51, 52, 53, 54, 567, 568, 569, 570, 571, 572, 573, 574, 575, 576, 577, 578, 612, 613, 614, 615, 616, 617, 618, 619, 620] (by decide +kernel) (by decide +kernel)
set_option maxRecDepth 20000 in
theorem gL_law_X3_init : GoodIn wsL_law (wsX3_init) := ggL_law_X3_init
set_option maxRecDepth 20000 in
theorem ggL_law_X4_init : GoodIn wsL_law wsX4_init := goodIn_r _ [57, 58, 15, 16, 21, 59, 60, 61, 62, 63, 64, 65, 6, 66, 67, 68, 69, 70, 71, 72, 73, 74, 75, 76, 77, 78, 79, 80, 81, 82, 83, 84, 85, 5, 86, 579, 580, 581, 582, 583, 584, 585, 586, 587, 588, 589, 590, 591, 592, 593, 594, 595, 596, 597, 598, 599, 600, 601, 602, 603, 604, 605, 606, 607, 608, 609, 610, 611] (by decide +kernel) (by decide +kernel)
set_option maxRecDepth 20000 in
theorem gL_law_X4_init : GoodIn wsL_law (wsX4_init) := ggL_law_X4_init
set_option maxRecDepth 20000 in
theorem ggL_law_L_kind : GoodIn wsL_law wsL_kind := goodIn_ca (goodIn_ca (goodIn_ca (goodIn_r _ [89, 90, 91, 92, 93, 94, 2, 95, 96, 97, 98, 99, 23, 18, 17, 100, 101, 36, 102, 103, 104, 105, 106, 107, 108, 15, 16, 21, 109, 110, 111, 112, 113, 114, 115, 116, 117, 118, 119, 120, 121, 122, 567, 568, 569, 570, 571, 572, 573, 574, 575, 576, 577, 578, 621, 622, 623, 624, 625, 626, 627, 628, 629, 630, 631] (by decide +kernel) (by decide +kernel)) (goodIn_sub (fun _ h => List.mem_append_left _ (List.mem_append_left _ (List.mem_append_left _ (List.mem_append_left _ (List.mem_append_right _ h))))) (by decide +kernel))) (goodIn_sub (fun _ h => List.mem_append_left _ (List.mem_append_left _ (List.mem_append_left _ (List.mem_append_right _ h)))) (by decide +kernel))) (goodIn_sub (fun _ h => List.mem_append_left _ (List.mem_append_left _ (List.mem_append_right _ h))) (by decide +kernel))
set_option maxRecDepth 20000 in
theorem gL_law_L_kind : GoodIn wsL_law (va_wsS RL 86 yL_kind wsL_kind) := goodIn_app (goodIn_of _ (by decide +kernel)) ggL_law_L_kind
set_option maxRecDepth 20000 in
theorem ggL_law_X4_kind : GoodIn wsL_law wsX4_kind := goodIn_ca (goodIn_r _ [126, 127, 128, 59, 60, 61, 62, 129, 130, 5, 131, 579, 580, 581, 582, 583, 584, 585, 586, 587, 588, 589, 590, 591, 592, 593, 594, 595, 596, 597, 598, 599, 600, 601, 602, 603, 604, 605, 606, 607, 608, 609, 610, 611] (by decide +kernel) (by decide +kernel)) (goodIn_sub (fun _ h => List.mem_append_left _ (List.mem_append_left _ (List.mem_append_left _ (List.mem_append_left _ (List.mem_append_right _ h))))) (by decide +kernel))
set_option maxRecDepth 20000 in
theorem gL_law_X4_kind : GoodIn wsL_law (wsV RL 89 RX4 yX4_kind wsX4_kind) := goodIn_app (goodIn_of _ (by decide +kernel)) ggL_law_X4_kind
set_option maxRecDepth 20000 in
theorem ggL_law_X4_thrown : GoodIn wsL_law wsX4_thrown := goodIn_r _ [135, 128, 579, 580, 581, 582, 583, 584, 585, 586, 587, 588, 589, 590, 591, 592, 593, 594, 595, 596, 597, 598, 599, 600, 601, 602, 603, 604, 605, 606, 607, 608, 609, 610, 611] (by decide +kernel) (by decide +kernel)
set_option maxRecDepth 20000 in
theorem gL_law_X4_thrown : GoodIn wsL_law (wsV RL 90 RX4 yX4_thrown wsX4_thrown) := goodIn_app (goodIn_of _ (by decide +kernel)) ggL_law_X4_thrown
set_option maxRecDepth 20000 in
theorem ggL_law_L_search : GoodIn wsL_law wsL_search := goodIn_ca (goodIn_ca (goodIn_ca (goodIn_ca (goodIn_r _ [138, 139, 90, 140, 141, 142, 143, 2, 144, 96, 97, 145, 146, 41, 147, 148, 149, 150, 151, 152, 153, 18, 102, 103, 104, 154, 155, 156, 157, 20, 158, 159, 160, 161, 162, 163, 164, 165, 166, 167, 40, 168, 48, 49, 50, 51, 46, 47, 169, 170, 171, 172, 101, 173, 174, 30, 31, 32, 111, 109, 110, 175, 176, 177, 178, 54, 179, 180, 181, 182, 183, 184, 185, 186, 187, 188, 189, 190, 191, 192, 193, 194, 195, 196, 197, 198, 199, 200, 201, 202, 203, 204, 205, 206, 207, 208, 52, 53, 209, 210, 211, 212, 118, 119, 213, 214, 215, 216, 113, 114, 217, 218, 219, 220, 567, 568, 569, 570, 571, 572, 573, 574, 575, 576, 577, 578, 621, 622, 623, 624, 625, 626, 627, 628, 629, 630, 631, 632, 633, 634, 635, 636, 637, 638, 639, 640, 641, 612, 613, 614, 615, 616, 617, 618, 619, 620] (by decide +kernel) (by decide +kernel)) (goodIn_sub (fun _ h => List.mem_append_left _ (List.mem_append_left _ (List.mem_append_left _ (List.mem_append_left _ (List.mem_append_right _ h))))) (by decide +kernel))) (goodIn_sub (fun _ h => List.mem_append_left _ (List.mem_append_left _ (List.mem_append_left _ (List.mem_append_right _ h)))) (by decide +kernel))) (goodIn_sub (fun _ h => List.mem_append_left _ (List.mem_append_right _ h)) (by decide +kernel))) (goodIn_sub (fun _ h => List.mem_append_right _ h) (by decide +kernel))
set_option maxRecDepth 20000 in
theorem gL_law_L_search : GoodIn wsL_law (va_wsS RL 93 yL_search wsL_search) := goodIn_app (goodIn_of _ (by decide +kernel)) ggL_law_L_search
set_option maxRecDepth 20000 in
theorem ggL_law_X4_search : GoodIn wsL_law wsX4_search := goodIn_ca (goodIn_r _ [224, 128, 63, 225, 226, 227, 5, 228, 127, 129, 130, 131, 229, 230, 231, 232, 233, 72, 73, 234, 235, 236, 237, 238, 239, 240, 241, 242, 65, 77, 78, 83, 243, 244, 245, 246, 247, 248, 249, 250, 251, 59, 60, 81, 82, 252, 253, 254, 255, 67, 79, 68, 80, 66, 256, 257, 258, 259, 260, 261, 262, 263, 264, 265, 266, 267, 268, 269, 270, 271, 272, 273, 274, 275, 276, 277, 278, 579, 580, 581, 582, 583, 584, 585, 586, 587, 588, 589, 590, 591, 592, 593, 594, 595, 596, 597, 598, 599, 600, 601, 602, 603, 604, 605, 606, 607, 608, 609, 610, 611] (by decide +kernel) (by decide +kernel)) (goodIn_sub (fun _ h => List.mem_append_left _ (List.mem_append_left _ (List.mem_append_left _ (List.mem_append_left _ (List.mem_append_right _ h))))) (by decide +kernel))
set_option maxRecDepth 20000 in
theorem gL_law_X4_search : GoodIn wsL_law (wsV RL 96 RX4 yX4_search wsX4_search) := goodIn_app (goodIn_of _ (by decide +kernel)) ggL_law_X4_search
set_option maxRecDepth 20000 in
theorem ggL_law_L_pattern : GoodIn wsL_law wsL_pattern := goodIn_ca (goodIn_ca (goodIn_ca (goodIn_r _ [281, 139, 90, 282, 283, 284, 285, 2, 286, 96, 97, 147, 287, 288, 289, 290, 36, 291, 148, 149, 150, 151, 152, 153, 18, 102, 103, 104, 621, 622, 623, 624, 625, 626, 627, 628, 629, 630, 631, 642, 643, 644, 645, 646, 647, 567, 568, 569, 570, 571, 572, 573, 574, 575, 576, 577, 578] (by decide +kernel) (by decide +kernel)) (goodIn_sub (fun _ h => List.mem_append_left _ (List.mem_append_left _ (List.mem_append_left _ (List.mem_append_left _ (List.mem_append_right _ h))))) (by decide +kernel))) (goodIn_sub (fun _ h => List.mem_append_left _ (List.mem_append_left _ (List.mem_append_left _ (List.mem_append_right _ h)))) (by decide +kernel))) (goodIn_sub (fun _ h => List.mem_append_right _ h) (by decide +kernel))
set_option maxRecDepth 20000 in
theorem gL_law_L_pattern : GoodIn wsL_law (va_wsS RL 97 yL_pattern wsL_pattern) := goodIn_app (goodIn_of _ (by decide +kernel)) ggL_law_L_pattern
set_option maxRecDepth 20000 in
theorem ggL_law_X4_pattern : GoodIn wsL_law wsX4_pattern := goodIn_ca (goodIn_r _ [295, 63, 128, 67, 81, 68, 225, 226, 227, 5, 228, 127, 129, 130, 131, 579, 580, 581, 582, 583, 584, 585, 586, 587, 588, 589, 590, 591, 592, 593, 594, 595, 596, 597, 598, 599, 600, 601, 602, 603, 604, 605, 606, 607, 608, 609, 610, 611] (by decide +kernel) (by decide +kernel)) (goodIn_sub (fun _ h => List.mem_append_left _ (List.mem_append_left _ (List.mem_append_left _ (List.mem_append_left _ (List.mem_append_right _ h))))) (by decide +kernel))
set_option maxRecDepth 20000 in
theorem gL_law_X4_pattern : GoodIn wsL_law (wsV RL 100 RX4 yX4_pattern wsX4_pattern) := goodIn_app (goodIn_of _ (by decide +kernel)) ggL_law_X4_pattern
set_option maxRecDepth 20000 in
theorem ggL_law_L_exact : GoodIn wsL_law wsL_exact := goodIn_ca (goodIn_ca (goodIn_r _ [298, 139, 299, 300, 301, 2, 302, 303, 148, 149, 150, 151, 152, 153, 18, 102, 103, 104, 621, 622, 623, 624, 625, 626, 627, 628, 629, 630, 631, 567, 568, 569, 570, 571, 572, 573, 574, 575, 576, 577, 578] (by decide +kernel) (by decide +kernel)) (goodIn_sub (fun _ h => List.mem_append_left _ (List.mem_append_left _ (List.mem_append_left _ (List.mem_append_left _ (List.mem_append_right _ h))))) (by decide +kernel))) (goodIn_sub (fun _ h => List.mem_append_right _ h) (by decide +kernel))
set_option maxRecDepth 20000 in
theorem gL_law_L_exact : GoodIn wsL_law (va_wsS RL 101 yL_exact wsL_exact) := goodIn_app (goodIn_of _ (by decide +kernel)) ggL_law_L_exact
set_option maxRecDepth 20000 in
theorem ggL_law_X4_exact : GoodIn wsL_law wsX4_exact := goodIn_ca (goodIn_r _ [307, 128, 65, 225, 226, 227, 5, 228, 127, 129, 130, 131, 579, 580, 581, 582, 583, 584, 585, 586, 587, 588, 589, 590, 591, 592, 593, 594, 595, 596, 597, 598, 599, 600, 601, 602, 603, 604, 605, 606, 607, 608, 609, 610, 611] (by decide +kernel) (by decide +kernel)) (goodIn_sub (fun _ h => List.mem_append_left _ (List.mem_append_left _ (List.mem_append_left _ (List.mem_append_left _ (List.mem_append_right _ h))))) (by decide +kernel))
set_option maxRecDepth 20000 in
theorem gL_law_X4_exact : GoodIn wsL_law (wsV RL 104 RX4 yX4_exact wsX4_exact) := goodIn_app (goodIn_of _ (by decide +kernel)) ggL_law_X4_exact
set_option maxRecDepth 20000 in
theorem ggL_law_L_bound : GoodIn wsL_law wsL_bound := goodIn_ca (goodIn_ca (goodIn_r _ [310, 139, 311, 312, 313, 2, 314, 36, 37, 315, 148, 149, 150, 151, 152, 153, 18, 102, 103, 104, 567, 568, 569, 570, 571, 572, 573, 574, 575, 576, 577, 578, 621, 622, 623, 624, 625, 626, 627, 628, 629, 630, 631] (by decide +kernel) (by decide +kernel)) (goodIn_sub (fun _ h => List.mem_append_left _ (List.mem_append_left _ (List.mem_append_left _ (List.mem_append_left _ (List.mem_append_right _ h))))) (by decide +kernel))) (goodIn_sub (fun _ h => List.mem_append_right _ h) (by decide +kernel))
set_option maxRecDepth 20000 in
theorem gL_law_L_bound : GoodIn wsL_law (va_wsS RL 105 yL_bound wsL_bound) := goodIn_app (goodIn_of _ (by decide +kernel)) ggL_law_L_bound
set_option maxRecDepth 20000 in
theorem ggL_law_X4_bound : GoodIn wsL_law wsX4_bound := goodIn_ca (goodIn_r _ [319, 128, 83, 225, 226, 227, 5, 228, 127, 129, 130, 131, 263, 264, 265, 266, 59, 60, 579, 580, 581, 582, 583, 584, 585, 586, 587, 588, 589, 590, 591, 592, 593, 594, 595, 596, 597, 598, 599, 600, 601, 602, 603, 604, 605, 606, 607, 608, 609, 610, 611] (by decide +kernel) (by decide +kernel)) (goodIn_sub (fun _ h => List.mem_append_left _ (List.mem_append_left _ (List.mem_append_left _ (List.mem_append_left _ (List.mem_append_right _ h))))) (by decide +kernel))
set_option maxRecDepth 20000 in
theorem gL_law_X4_bound : GoodIn wsL_law (wsV RL 107 RX4 yX4_bound wsX4_bound) := goodIn_app (goodIn_of _ (by decide +kernel)) ggL_law_X4_bound
set_option maxRecDepth 20000 in
theorem ggL_law_L_rules : GoodIn wsL_law wsL_rules := goodIn_ca (goodIn_r _ [322, 90, 323, 324, 325, 2, 326, 96, 97, 26, 27, 28, 102, 103, 104, 567, 568, 569, 570, 571, 572, 573, 574, 575, 576, 577, 578] (by decide +kernel) (by decide +kernel)) (goodIn_sub (fun _ h => List.mem_append_left _ (List.mem_append_left _ (List.mem_append_left _ (List.mem_append_right _ h)))) (by decide +kernel))
set_option maxRecDepth 20000 in
theorem gL_law_L_rules : GoodIn wsL_law (va_wsS RL 108 yL_rules wsL_rules) := goodIn_app (goodIn_of _ (by decide +kernel)) ggL_law_L_rules
set_option maxRecDepth 20000 in
theorem ggL_law_X4_rules : GoodIn wsL_law wsX4_rules := goodIn_r _ [330, 128, 69, 70, 71, 129, 130, 5, 131, 579, 580, 581, 582, 583, 584, 585, 586, 587, 588, 589, 590, 591, 592, 593, 594, 595, 596, 597, 598, 599, 600, 601, 602, 603, 604, 605, 606, 607, 608, 609, 610, 611] (by decide +kernel) (by decide +kernel)
set_option maxRecDepth 20000 in
theorem gL_law_X4_rules : GoodIn wsL_law (wsV RL 111 RX4 yX4_rules wsX4_rules) := goodIn_app (goodIn_of _ (by decide +kernel)) ggL_law_X4_rules
set_option maxRecDepth 20000 in
theorem ggL_law_L_pallet : GoodIn wsL_law wsL_pallet := goodIn_ca (goodIn_ca (goodIn_r _ [333, 91, 334, 335, 336, 2, 337, 98, 99, 24, 20, 19, 338, 161, 339, 340, 341, 15, 16, 21, 164, 342, 343, 344, 6, 345, 163, 346, 347, 348, 349, 567, 568, 569, 570, 571, 572, 573, 574, 575, 576, 577, 578, 632, 633, 634, 635, 636, 637, 638, 639, 640, 641] (by decide +kernel) (by decide +kernel)) (goodIn_sub (fun _ h => List.mem_append_left _ (List.mem_append_left _ (List.mem_append_left _ (List.mem_append_left _ (List.mem_append_right _ h))))) (by decide +kernel))) (goodIn_sub (fun _ h => List.mem_append_left _ (List.mem_append_left _ (List.mem_append_right _ h))) (by decide +kernel))
set_option maxRecDepth 20000 in
theorem gL_law_L_pallet : GoodIn wsL_law (va_wsS RL 112 yL_pallet wsL_pallet) := goodIn_app (goodIn_of _ (by decide +kernel)) ggL_law_L_pallet
set_option maxRecDepth 20000 in
theorem ggL_law_X4_pallet : GoodIn wsL_law wsX4_pallet := goodIn_ca (goodIn_r _ [353, 233, 128, 72, 75, 579, 580, 581, 582, 583, 584, 585, 586, 587, 588, 589, 590, 591, 592, 593, 594, 595, 596, 597, 598, 599, 600, 601, 602, 603, 604, 605, 606, 607, 608, 609, 610, 611] (by decide +kernel) (by decide +kernel)) (goodIn_sub (fun _ h => List.mem_append_left _ (List.mem_append_left _ (List.mem_append_left _ (List.mem_append_left _ (List.mem_append_right _ h))))) (by decide +kernel))
set_option maxRecDepth 20000 in
theorem gL_law_X4_pallet : GoodIn wsL_law (wsV RL 115 RX4 yX4_pallet wsX4_pallet) := goodIn_app (goodIn_of _ (by decide +kernel)) ggL_law_X4_pallet
set_option maxRecDepth 20000 in
theorem ggL_law_L_put : GoodIn wsL_law wsL_put := goodIn_ca (goodIn_ca (goodIn_ca (goodIn_ca (goodIn_ca (goodIn_r _ [356, 139, 90, 140, 91, 357, 358, 359, 2, 360, 96, 97, 98, 99, 361, 362, 363, 364, 365, 152, 153, 20, 102, 103, 104, 148, 149, 150, 151, 18, 366, 367, 368, 145, 146, 369, 370, 371, 372, 373, 147, 26, 315, 374, 375, 27, 376, 377, 28, 378, 379, 380, 101, 381, 111, 109, 110, 382, 210, 211, 212, 118, 119, 383, 384, 385, 386, 387, 388, 161, 389, 163, 345, 390, 195, 196, 197, 198, 199, 200, 391, 392, 393, 394, 164, 342, 343, 346, 344, 395, 396, 347, 348, 397, 398, 399, 400, 401, 632, 633, 634, 635, 636, 637, 638, 639, 640, 641, 567, 568, 569, 570, 571, 572, 573, 574, 575, 576, 577, 578, 621, 622, 623, 624, 625, 626, 627, 628, 629, 630, 631] (by decide +kernel) (by decide +kernel)) (goodIn_sub (fun _ h => List.mem_append_left _ (List.mem_append_left _ (List.mem_append_left _ (List.mem_append_left _ (List.mem_append_right _ h))))) (by decide +kernel))) (goodIn_sub (fun _ h => List.mem_append_left _ (List.mem_append_left _ (List.mem_append_left _ (List.mem_append_right _ h)))) (by decide +kernel))) (goodIn_sub (fun _ h => List.mem_append_left _ (List.mem_append_left _ (List.mem_append_right _ h))) (by decide +kernel))) (goodIn_sub (fun _ h => List.mem_append_right _ h) (by decide +kernel))) (goodIn_sub (fun _ h => List.mem_append_left _ (List.mem_append_right _ h)) (by decide +kernel))
set_option maxRecDepth 20000 in
theorem gL_law_L_put : GoodIn wsL_law (va_wsS RL 116 yL_put wsL_put) := goodIn_app (goodIn_of _ (by decide +kernel)) ggL_law_L_put
set_option maxRecDepth 20000 in
theorem ggL_law_X4_put : GoodIn wsL_law wsX4_put := goodIn_ca (goodIn_r _ [405, 75, 72, 128, 406, 407, 408, 5, 409, 233, 129, 130, 131, 225, 226, 227, 228, 127, 410, 411, 412, 413, 63, 69, 61, 70, 62, 71, 414, 415, 416, 417, 73, 74, 66, 263, 264, 265, 266, 59, 60, 260, 261, 262, 418, 419, 420, 421, 422, 423, 424, 425, 426, 427, 428, 429, 579, 580, 581, 582, 583, 584, 585, 586, 587, 588, 589, 590, 591, 592, 593, 594, 595, 596, 597, 598, 599, 600, 601, 602, 603, 604, 605, 606, 607, 608, 609, 610, 611] (by decide +kernel) (by decide +kernel)) (goodIn_sub (fun _ h => List.mem_append_left _ (List.mem_append_left _ (List.mem_append_left _ (List.mem_append_left _ (List.mem_append_right _ h))))) (by decide +kernel))
set_option maxRecDepth 20000 in
theorem gL_law_X4_put : GoodIn wsL_law (wsV RL 118 RX4 yX4_put wsX4_put) := goodIn_app (goodIn_of _ (by decide +kernel)) ggL_law_X4_put
set_option maxRecDepth 20000 in
theorem ggL_law_L_fill : GoodIn wsL_law wsL_fill := goodIn_ca (goodIn_ca (goodIn_ca (goodIn_ca (goodIn_r _ [432, 139, 90, 140, 433, 434, 435, 2, 436, 96, 97, 147, 361, 29, 30, 31, 32, 362, 363, 364, 365, 152, 153, 20, 102, 103, 104, 148, 149, 150, 151, 18, 366, 367, 368, 145, 146, 369, 370, 371, 372, 373, 26, 315, 374, 375, 27, 376, 377, 28, 378, 379, 380, 101, 381, 111, 109, 110, 382, 210, 211, 212, 118, 119, 383, 384, 385, 386, 387, 388, 161, 389, 163, 345, 390, 195, 196, 197, 198, 199, 200, 391, 392, 393, 394, 164, 342, 343, 346, 344, 395, 396, 347, 348, 397, 398, 399, 400, 401, 621, 622, 623, 624, 625, 626, 627, 628, 629, 630, 631, 632, 633, 634, 635, 636, 637, 638, 639, 640, 641, 567, 568, 569, 570, 571, 572, 573, 574, 575, 576, 577, 578] (by decide +kernel) (by decide +kernel)) (goodIn_sub (fun _ h => List.mem_append_left _ (List.mem_append_left _ (List.mem_append_left _ (List.mem_append_left _ (List.mem_append_right _ h))))) (by decide +kernel))) (goodIn_sub (fun _ h => List.mem_append_left _ (List.mem_append_left _ (List.mem_append_left _ (List.mem_append_right _ h)))) (by decide +kernel))) (goodIn_sub (fun _ h => List.mem_append_right _ h) (by decide +kernel))) (goodIn_sub (fun _ h => List.mem_append_left _ (List.mem_append_right _ h)) (by decide +kernel))
set_option maxRecDepth 20000 in
theorem gL_law_L_fill : GoodIn wsL_law (va_wsS RL 119 yL_fill wsL_fill) := goodIn_app (goodIn_of _ (by decide +kernel)) ggL_law_L_fill
set_option maxRecDepth 20000 in
theorem ggL_law_X4_fill : GoodIn wsL_law wsX4_fill := goodIn_ca (goodIn_r _ [440, 75, 128, 63, 72, 406, 407, 408, 5, 409, 233, 129, 130, 131, 225, 226, 227, 228, 127, 410, 411, 412, 413, 69, 61, 70, 62, 71, 414, 415, 416, 417, 73, 74, 66, 263, 264, 265, 266, 59, 60, 260, 261, 262, 418, 419, 420, 421, 422, 423, 424, 425, 426, 427, 428, 429, 579, 580, 581, 582, 583, 584, 585, 586, 587, 588, 589, 590, 591, 592, 593, 594, 595, 596, 597, 598, 599, 600, 601, 602, 603, 604, 605, 606, 607, 608, 609, 610, 611] (by decide +kernel) (by decide +kernel)) (goodIn_sub (fun _ h => List.mem_append_left _ (List.mem_append_left _ (List.mem_append_left _ (List.mem_append_left _ (List.mem_append_right _ h))))) (by decide +kernel))
set_option maxRecDepth 20000 in
theorem gL_law_X4_fill : GoodIn wsL_law (wsV RL 121 RX4 yX4_fill wsX4_fill) := goodIn_app (goodIn_of _ (by decide +kernel)) ggL_law_X4_fill
set_option maxRecDepth 20000 in
theorem ggL_law_L_take : GoodIn wsL_law wsL_take := goodIn_ca (goodIn_ca (goodIn_ca (goodIn_r _ [443, 139, 140, 444, 445, 446, 2, 447, 362, 363, 364, 365, 152, 153, 20, 102, 103, 104, 366, 367, 368, 145, 146, 369, 448, 449, 450, 361, 451, 452, 453, 161, 454, 163, 343, 346, 347, 344, 348, 342, 567, 568, 569, 570, 571, 572, 573, 574, 575, 576, 577, 578, 632, 633, 634, 635, 636, 637, 638, 639, 640, 641] (by decide +kernel) (by decide +kernel)) (goodIn_sub (fun _ h => List.mem_append_left _ (List.mem_append_left _ (List.mem_append_left _ (List.mem_append_left _ (List.mem_append_right _ h))))) (by decide +kernel))) (goodIn_sub (fun _ h => List.mem_append_right _ h) (by decide +kernel))) (goodIn_sub (fun _ h => List.mem_append_left _ (List.mem_append_right _ h)) (by decide +kernel))
set_option maxRecDepth 20000 in
theorem gL_law_L_take : GoodIn wsL_law (va_wsS RL 122 yL_take wsL_take) := goodIn_app (goodIn_of _ (by decide +kernel)) ggL_law_L_take
set_option maxRecDepth 20000 in
theorem ggL_law_X4_take : GoodIn wsL_law wsX4_take := goodIn_ca (goodIn_r _ [458, 75, 72, 128, 74, 406, 407, 408, 5, 409, 233, 129, 130, 131, 579, 580, 581, 582, 583, 584, 585, 586, 587, 588, 589, 590, 591, 592, 593, 594, 595, 596, 597, 598, 599, 600, 601, 602, 603, 604, 605, 606, 607, 608, 609, 610, 611] (by decide +kernel) (by decide +kernel)) (goodIn_sub (fun _ h => List.mem_append_left _ (List.mem_append_left _ (List.mem_append_left _ (List.mem_append_left _ (List.mem_append_right _ h))))) (by decide +kernel))
set_option maxRecDepth 20000 in
theorem gL_law_X4_take : GoodIn wsL_law (wsV RL 124 RX4 yX4_take wsX4_take) := goodIn_app (goodIn_of _ (by decide +kernel)) ggL_law_X4_take
set_option maxRecDepth 20000 in
theorem ggL_law_L_support : GoodIn wsL_law wsL_support := goodIn_ca (goodIn_ca (goodIn_r _ [461, 139, 462, 463, 464, 2, 465, 152, 153, 466, 467, 315, 468, 469, 470, 471, 361, 362, 363, 364, 365, 20, 102, 103, 104, 148, 149, 150, 151, 18, 378, 379, 380, 101, 381, 111, 109, 110, 382, 210, 211, 212, 118, 119, 383, 384, 385, 386, 387, 388, 161, 389, 163, 345, 390, 195, 196, 197, 198, 199, 200, 632, 633, 634, 635, 636, 637, 638, 639, 640, 641, 621, 622, 623, 624, 625, 626, 627, 628, 629, 630, 631, 567, 568, 569, 570, 571, 572, 573, 574, 575, 576, 577, 578] (by decide +kernel) (by decide +kernel)) (goodIn_sub (fun _ h => List.mem_append_left _ (List.mem_append_left _ (List.mem_append_left _ (List.mem_append_left _ (List.mem_append_right _ h))))) (by decide +kernel))) (goodIn_sub (fun _ h => List.mem_append_right _ h) (by decide +kernel))
set_option maxRecDepth 20000 in
theorem gL_law_L_support : GoodIn wsL_law (va_wsS RL 125 yL_support wsL_support) := goodIn_app (goodIn_of _ (by decide +kernel)) ggL_law_L_support
set_option maxRecDepth 20000 in
theorem ggL_law_X4_support : GoodIn wsL_law wsX4_support := goodIn_ca (goodIn_r _ [475, 74, 128, 73, 476, 477, 478, 5, 479, 72, 406, 407, 408, 409, 233, 129, 130, 131, 414, 415, 416, 417, 66, 263, 264, 265, 266, 59, 60, 260, 261, 262, 579, 580, 581, 582, 583, 584, 585, 586, 587, 588, 589, 590, 591, 592, 593, 594, 595, 596, 597, 598, 599, 600, 601, 602, 603, 604, 605, 606, 607, 608, 609, 610, 611] (by decide +kernel) (by decide +kernel)) (goodIn_sub (fun _ h => List.mem_append_left _ (List.mem_append_left _ (List.mem_append_left _ (List.mem_append_left _ (List.mem_append_right _ h))))) (by decide +kernel))
set_option maxRecDepth 20000 in
theorem gL_law_X4_support : GoodIn wsL_law (wsV RL 127 RX4 yX4_support wsX4_support) := goodIn_app (goodIn_of _ (by decide +kernel)) ggL_law_X4_support
set_option maxRecDepth 20000 in
theorem ggL_law_L_told : GoodIn wsL_law wsL_told := goodIn_ca (goodIn_ca (goodIn_ca (goodIn_r _ [482, 139, 90, 483, 484, 485, 2, 486, 96, 97, 374, 376, 361, 487, 369, 362, 363, 364, 365, 152, 153, 20, 102, 103, 104, 158, 159, 160, 161, 162, 163, 164, 632, 633, 634, 635, 636, 637, 638, 639, 640, 641, 567, 568, 569, 570, 571, 572, 573, 574, 575, 576, 577, 578] (by decide +kernel) (by decide +kernel)) (goodIn_sub (fun _ h => List.mem_append_left _ (List.mem_append_left _ (List.mem_append_left _ (List.mem_append_left _ (List.mem_append_right _ h))))) (by decide +kernel))) (goodIn_sub (fun _ h => List.mem_append_left _ (List.mem_append_left _ (List.mem_append_left _ (List.mem_append_right _ h)))) (by decide +kernel))) (goodIn_sub (fun _ h => List.mem_append_right _ h) (by decide +kernel))
set_option maxRecDepth 20000 in
theorem gL_law_L_told : GoodIn wsL_law (va_wsS RL 128 yL_told wsL_told) := goodIn_app (goodIn_of _ (by decide +kernel)) ggL_law_L_told
set_option maxRecDepth 20000 in
theorem ggL_law_X4_told : GoodIn wsL_law wsX4_told := goodIn_ca (goodIn_r _ [491, 128, 72, 75, 73, 406, 407, 408, 5, 409, 233, 129, 130, 131, 418, 419, 420, 421, 61, 422, 423, 424, 425, 62, 74, 492, 493, 494, 495, 579, 580, 581, 582, 583, 584, 585, 586, 587, 588, 589, 590, 591, 592, 593, 594, 595, 596, 597, 598, 599, 600, 601, 602, 603, 604, 605, 606, 607, 608, 609, 610, 611] (by decide +kernel) (by decide +kernel)) (goodIn_sub (fun _ h => List.mem_append_left _ (List.mem_append_left _ (List.mem_append_left _ (List.mem_append_left _ (List.mem_append_right _ h))))) (by decide +kernel))
set_option maxRecDepth 20000 in
theorem gL_law_X4_told : GoodIn wsL_law (wsV RL 130 RX4 yX4_told wsX4_told) := goodIn_app (goodIn_of _ (by decide +kernel)) ggL_law_X4_told
set_option maxRecDepth 20000 in
theorem ggL_law_L_layer : GoodIn wsL_law wsL_layer := goodIn_ca (goodIn_ca (goodIn_ca (goodIn_r _ [498, 139, 90, 499, 500, 501, 2, 502, 96, 97, 466, 467, 503, 147, 468, 469, 470, 471, 152, 153, 361, 362, 363, 364, 365, 20, 102, 103, 104, 148, 149, 150, 151, 18, 632, 633, 634, 635, 636, 637, 638, 639, 640, 641, 621, 622, 623, 624, 625, 626, 627, 628, 629, 630, 631, 567, 568, 569, 570, 571, 572, 573, 574, 575, 576, 577, 578] (by decide +kernel) (by decide +kernel)) (goodIn_sub (fun _ h => List.mem_append_left _ (List.mem_append_left _ (List.mem_append_left _ (List.mem_append_left _ (List.mem_append_right _ h))))) (by decide +kernel))) (goodIn_sub (fun _ h => List.mem_append_left _ (List.mem_append_left _ (List.mem_append_left _ (List.mem_append_right _ h)))) (by decide +kernel))) (goodIn_sub (fun _ h => List.mem_append_right _ h) (by decide +kernel))
set_option maxRecDepth 20000 in
theorem gL_law_L_layer : GoodIn wsL_law (va_wsS RL 131 yL_layer wsL_layer) := goodIn_app (goodIn_of _ (by decide +kernel)) ggL_law_L_layer
set_option maxRecDepth 20000 in
theorem ggL_law_X4_layer : GoodIn wsL_law wsX4_layer := goodIn_ca (goodIn_r _ [507, 128, 73, 74, 63, 476, 477, 478, 5, 479, 72, 406, 407, 408, 409, 233, 129, 130, 131, 418, 419, 420, 421, 61, 579, 580, 581, 582, 583, 584, 585, 586, 587, 588, 589, 590, 591, 592, 593, 594, 595, 596, 597, 598, 599, 600, 601, 602, 603, 604, 605, 606, 607, 608, 609, 610, 611] (by decide +kernel) (by decide +kernel)) (goodIn_sub (fun _ h => List.mem_append_left _ (List.mem_append_left _ (List.mem_append_left _ (List.mem_append_left _ (List.mem_append_right _ h))))) (by decide +kernel))
set_option maxRecDepth 20000 in
theorem gL_law_X4_layer : GoodIn wsL_law (wsV RL 133 RX4 yX4_layer wsX4_layer) := goodIn_app (goodIn_of _ (by decide +kernel)) ggL_law_X4_layer
set_option maxRecDepth 20000 in
theorem ggL_law_L_truck : GoodIn wsL_law wsL_truck := goodIn_ca (goodIn_ca (goodIn_ca (goodIn_ca (goodIn_r _ [510, 139, 90, 140, 511, 512, 513, 2, 514, 96, 97, 145, 146, 25, 22, 369, 362, 363, 364, 365, 152, 153, 20, 102, 103, 104, 366, 367, 368, 448, 449, 450, 361, 515, 516, 517, 518, 567, 568, 569, 570, 571, 572, 573, 574, 575, 576, 577, 578, 632, 633, 634, 635, 636, 637, 638, 639, 640, 641] (by decide +kernel) (by decide +kernel)) (goodIn_sub (fun _ h => List.mem_append_left _ (List.mem_append_left _ (List.mem_append_left _ (List.mem_append_left _ (List.mem_append_right _ h))))) (by decide +kernel))) (goodIn_sub (fun _ h => List.mem_append_left _ (List.mem_append_left _ (List.mem_append_left _ (List.mem_append_right _ h)))) (by decide +kernel))) (goodIn_sub (fun _ h => List.mem_append_left _ (List.mem_append_right _ h)) (by decide +kernel))) (goodIn_sub (fun _ h => List.mem_append_right _ h) (by decide +kernel))
set_option maxRecDepth 20000 in
theorem gL_law_L_truck : GoodIn wsL_law (va_wsS RL 134 yL_truck wsL_truck) := goodIn_app (goodIn_of _ (by decide +kernel)) ggL_law_L_truck
set_option maxRecDepth 20000 in
theorem ggL_law_X4_truck : GoodIn wsL_law wsX4_truck := goodIn_ca (goodIn_r _ [522, 75, 72, 128, 523, 76, 406, 407, 408, 5, 409, 233, 129, 130, 131, 579, 580, 581, 582, 583, 584, 585, 586, 587, 588, 589, 590, 591, 592, 593, 594, 595, 596, 597, 598, 599, 600, 601, 602, 603, 604, 605, 606, 607, 608, 609, 610, 611] (by decide +kernel) (by decide +kernel)) (goodIn_sub (fun _ h => List.mem_append_left _ (List.mem_append_left _ (List.mem_append_left _ (List.mem_append_left _ (List.mem_append_right _ h))))) (by decide +kernel))
set_option maxRecDepth 20000 in
theorem gL_law_X4_truck : GoodIn wsL_law (wsV RL 136 RX4 yX4_truck wsX4_truck) := goodIn_app (goodIn_of _ (by decide +kernel)) ggL_law_X4_truck
set_option maxRecDepth 20000 in
theorem ggL_law_L_unload : GoodIn wsL_law wsL_unload := goodIn_ca (goodIn_ca (goodIn_ca (goodIn_ca (goodIn_r _ [526, 90, 140, 527, 528, 529, 2, 530, 96, 97, 145, 146, 25, 22, 369, 102, 103, 104, 531, 532, 533, 534, 362, 363, 364, 365, 152, 153, 20, 535, 536, 537, 161, 538, 163, 346, 347, 348, 349, 567, 568, 569, 570, 571, 572, 573, 574, 575, 576, 577, 578, 632, 633, 634, 635, 636, 637, 638, 639, 640, 641] (by decide +kernel) (by decide +kernel)) (goodIn_sub (fun _ h => List.mem_append_left _ (List.mem_append_left _ (List.mem_append_left _ (List.mem_append_left _ (List.mem_append_right _ h))))) (by decide +kernel))) (goodIn_sub (fun _ h => List.mem_append_left _ (List.mem_append_left _ (List.mem_append_left _ (List.mem_append_right _ h)))) (by decide +kernel))) (goodIn_sub (fun _ h => List.mem_append_left _ (List.mem_append_right _ h)) (by decide +kernel))) (goodIn_sub (fun _ h => List.mem_append_right _ h) (by decide +kernel))
set_option maxRecDepth 20000 in
theorem gL_law_L_unload : GoodIn wsL_law (va_wsS RL 137 yL_unload wsL_unload) := goodIn_app (goodIn_of _ (by decide +kernel)) ggL_law_L_unload
set_option maxRecDepth 20000 in
theorem ggL_law_X4_unload : GoodIn wsL_law wsX4_unload := goodIn_ca (goodIn_r _ [542, 128, 523, 75, 76, 72, 129, 130, 5, 131, 579, 580, 581, 582, 583, 584, 585, 586, 587, 588, 589, 590, 591, 592, 593, 594, 595, 596, 597, 598, 599, 600, 601, 602, 603, 604, 605, 606, 607, 608, 609, 610, 611] (by decide +kernel) (by decide +kernel)) (goodIn_sub (fun _ h => List.mem_append_left _ (List.mem_append_left _ (List.mem_append_left _ (List.mem_append_left _ (List.mem_append_right _ h))))) (by decide +kernel))
set_option maxRecDepth 20000 in
theorem gL_law_X4_unload : GoodIn wsL_law (wsV RL 139 RX4 yX4_unload wsX4_unload) := goodIn_app (goodIn_of _ (by decide +kernel)) ggL_law_X4_unload
set_option maxRecDepth 20000 in
theorem ggL_law_L_order : GoodIn wsL_law wsL_order := goodIn_ca (goodIn_ca (goodIn_r _ [545, 139, 546, 547, 548, 2, 549, 152, 153, 25, 22, 102, 103, 104, 567, 568, 569, 570, 571, 572, 573, 574, 575, 576, 577, 578] (by decide +kernel) (by decide +kernel)) (goodIn_sub (fun _ h => List.mem_append_left _ (List.mem_append_left _ (List.mem_append_left _ (List.mem_append_left _ (List.mem_append_right _ h))))) (by decide +kernel))) (goodIn_sub (fun _ h => List.mem_append_right _ h) (by decide +kernel))
set_option maxRecDepth 20000 in
theorem gL_law_L_order : GoodIn wsL_law (va_wsS RL 140 yL_order wsL_order) := goodIn_app (goodIn_of _ (by decide +kernel)) ggL_law_L_order
set_option maxRecDepth 20000 in
theorem ggL_law_X4_order : GoodIn wsL_law wsX4_order := goodIn_ca (goodIn_r _ [553, 523, 128, 76, 129, 130, 5, 131, 579, 580, 581, 582, 583, 584, 585, 586, 587, 588, 589, 590, 591, 592, 593, 594, 595, 596, 597, 598, 599, 600, 601, 602, 603, 604, 605, 606, 607, 608, 609, 610, 611] (by decide +kernel) (by decide +kernel)) (goodIn_sub (fun _ h => List.mem_append_left _ (List.mem_append_left _ (List.mem_append_left _ (List.mem_append_left _ (List.mem_append_right _ h))))) (by decide +kernel))
set_option maxRecDepth 20000 in
theorem gL_law_X4_order : GoodIn wsL_law (wsV RL 142 RX4 yX4_order wsX4_order) := goodIn_app (goodIn_of _ (by decide +kernel)) ggL_law_X4_order
set_option maxRecDepth 20000 in
theorem ggL_law_X3_count : GoodIn wsL_law wsX3_count := goodIn_r _ [557, 23, 24, 25, 41, 558, 559, 560, 561, 2, 562, 20, 369, 487, 567, 568, 569, 570, 571, 572, 573, 574, 575, 576, 577, 578, 612, 613, 614, 615, 616, 617, 618, 619, 620, 632, 633, 634, 635, 636, 637, 638, 639, 640, 641] (by decide +kernel) (by decide +kernel)
set_option maxRecDepth 20000 in
theorem gL_law_X3_count : GoodIn wsL_law (wsV RL 143 RX3 yX3_count wsX3_count) := goodIn_app (goodIn_of _ (by decide +kernel)) ggL_law_X3_count
set_option maxRecDepth 20000 in
theorem ggL_law_X4_count_ : GoodIn wsL_law wsX4_count_ := goodIn_ca (goodIn_r _ [566, 128, 127, 233, 523, 75, 242, 492, 493, 494, 5, 495, 72, 74, 579, 580, 581, 582, 583, 584, 585, 586, 587, 588, 589, 590, 591, 592, 593, 594, 595, 596, 597, 598, 599, 600, 601, 602, 603, 604, 605, 606, 607, 608, 609, 610, 611] (by decide +kernel) (by decide +kernel)) (goodIn_sub (fun _ h => List.mem_append_left _ (List.mem_append_left _ (List.mem_append_left _ (List.mem_append_left _ (List.mem_append_right _ h))))) (by decide +kernel))
set_option maxRecDepth 20000 in
theorem gL_law_X4_count_ : GoodIn wsL_law (wsV RL 146 RX4 yX4_count_ wsX4_count_) := goodIn_app (goodIn_of _ (by decide +kernel)) ggL_law_X4_count_
theorem dL_law_0 : decode cL_law 0 = .ok (.new 8, 3) := by decide +kernel
theorem dL_law_3 : decode cL_law 3 = .ok (.dup, 1) := by decide +kernel
theorem dL_law_4 : decode cL_law 4 = .ok (.aload_n 0, 1) := by decide +kernel
theorem dL_law_5 : decode cL_law 5 = .ok (.iconst 0, 1) := by decide +kernel
theorem dL_law_6 : decode cL_law 6 = .ok (.invokestatic 74, 3) := by decide +kernel
theorem dL_law_9 : decode cL_law 9 = .ok (.aload_n 0, 1) := by decide +kernel
theorem dL_law_10 : decode cL_law 10 = .ok (.iconst 1, 1) := by decide +kernel
theorem dL_law_11 : decode cL_law 11 = .ok (.invokestatic 74, 3) := by decide +kernel
theorem dL_law_14 : decode cL_law 14 = .ok (.invokespecial 80, 3) := by decide +kernel
theorem dL_law_17 : decode cL_law 17 = .ok (.astore_n 1, 1) := by decide +kernel
theorem dL_law_18 : decode cL_law 18 = .ok (.new 83, 3) := by decide +kernel
theorem dL_law_21 : decode cL_law 21 = .ok (.dup, 1) := by decide +kernel
theorem dL_law_22 : decode cL_law 22 = .ok (.aload_n 0, 1) := by decide +kernel
theorem dL_law_23 : decode cL_law 23 = .ok (.iconst 0, 1) := by decide +kernel
theorem dL_law_24 : decode cL_law 24 = .ok (.invokestatic 74, 3) := by decide +kernel
theorem dL_law_27 : decode cL_law 27 = .ok (.aload_n 0, 1) := by decide +kernel
theorem dL_law_28 : decode cL_law 28 = .ok (.iconst 1, 1) := by decide +kernel
theorem dL_law_29 : decode cL_law 29 = .ok (.invokestatic 74, 3) := by decide +kernel
theorem dL_law_32 : decode cL_law 32 = .ok (.invokespecial 85, 3) := by decide +kernel
theorem dL_law_35 : decode cL_law 35 = .ok (.astore_n 2, 1) := by decide +kernel
theorem dL_law_36 : decode cL_law 36 = .ok (.iconst 1, 1) := by decide +kernel
theorem dL_law_37 : decode cL_law 37 = .ok (.newarray .long, 2) := by decide +kernel
theorem dL_law_39 : decode cL_law 39 = .ok (.astore_n 3, 1) := by decide +kernel
theorem dL_law_40 : decode cL_law 40 = .ok (.iconst 2, 1) := by decide +kernel
theorem dL_law_41 : decode cL_law 41 = .ok (.istore 4, 2) := by decide +kernel
theorem dL_law_43 : decode cL_law 43 = .ok (.iload 4, 2) := by decide +kernel
theorem dL_law_45 : decode cL_law 45 = .ok (.aload_n 0, 1) := by decide +kernel
theorem dL_law_46 : decode cL_law 46 = .ok (.arraylength, 1) := by decide +kernel
theorem dL_law_47 : decode cL_law 47 = .ok (.iconst 5, 1) := by decide +kernel
theorem dL_law_48 : decode cL_law 48 = .ok (.isub, 1) := by decide +kernel
theorem dL_law_49 : decode cL_law 49 = .ok (.if_icmp .gt 1209, 3) := by decide +kernel
theorem dL_law_52 : decode cL_law 52 = .ok (.aload_n 0, 1) := by decide +kernel
theorem dL_law_53 : decode cL_law 53 = .ok (.iload 4, 2) := by decide +kernel
theorem dL_law_55 : decode cL_law 55 = .ok (.iaload, 1) := by decide +kernel
theorem dL_law_56 : decode cL_law 56 = .ok (.bipush 31, 2) := by decide +kernel
theorem dL_law_58 : decode cL_law 58 = .ok (.iand, 1) := by decide +kernel
theorem dL_law_59 : decode cL_law 59 = .ok (.tableswitch 1193 0 16 #[81, 173, 241, 321, 384, 440, 500, 544, 624, 704, 760, 840, 908, 988, 1056, 1112, 1168], 81) := by decide +kernel
theorem dL_law_140 : decode cL_law 140 = .ok (.aload_n 1, 1) := by decide +kernel
theorem dL_law_141 : decode cL_law 141 = .ok (.aload_n 0, 1) := by decide +kernel
theorem dL_law_142 : decode cL_law 142 = .ok (.iload 4, 2) := by decide +kernel
theorem dL_law_144 : decode cL_law 144 = .ok (.iconst 1, 1) := by decide +kernel
theorem dL_law_145 : decode cL_law 145 = .ok (.iadd, 1) := by decide +kernel
theorem dL_law_146 : decode cL_law 146 = .ok (.iaload, 1) := by decide +kernel
theorem dL_law_147 : decode cL_law 147 = .ok (.aload_n 0, 1) := by decide +kernel
theorem dL_law_148 : decode cL_law 148 = .ok (.iload 4, 2) := by decide +kernel
theorem dL_law_150 : decode cL_law 150 = .ok (.iconst 2, 1) := by decide +kernel
theorem dL_law_151 : decode cL_law 151 = .ok (.iadd, 1) := by decide +kernel
theorem dL_law_152 : decode cL_law 152 = .ok (.iaload, 1) := by decide +kernel
theorem dL_law_153 : decode cL_law 153 = .ok (.aload_n 0, 1) := by decide +kernel
theorem dL_law_154 : decode cL_law 154 = .ok (.iload 4, 2) := by decide +kernel
theorem dL_law_156 : decode cL_law 156 = .ok (.iconst 3, 1) := by decide +kernel
theorem dL_law_157 : decode cL_law 157 = .ok (.iadd, 1) := by decide +kernel
theorem dL_law_158 : decode cL_law 158 = .ok (.iaload, 1) := by decide +kernel
theorem dL_law_159 : decode cL_law 159 = .ok (.aload_n 0, 1) := by decide +kernel
theorem dL_law_160 : decode cL_law 160 = .ok (.iload 4, 2) := by decide +kernel
theorem dL_law_162 : decode cL_law 162 = .ok (.iconst 4, 1) := by decide +kernel
theorem dL_law_163 : decode cL_law 163 = .ok (.iadd, 1) := by decide +kernel
theorem dL_law_164 : decode cL_law 164 = .ok (.iaload, 1) := by decide +kernel
theorem dL_law_165 : decode cL_law 165 = .ok (.aload_n 3, 1) := by decide +kernel
theorem dL_law_166 : decode cL_law 166 = .ok (.invokestatic 86, 3) := by decide +kernel
theorem dL_law_169 : decode cL_law 169 = .ok (.istore 5, 2) := by decide +kernel
theorem dL_law_171 : decode cL_law 171 = .ok (.aload_n 2, 1) := by decide +kernel
theorem dL_law_172 : decode cL_law 172 = .ok (.aload_n 0, 1) := by decide +kernel
theorem dL_law_173 : decode cL_law 173 = .ok (.iload 4, 2) := by decide +kernel
theorem dL_law_175 : decode cL_law 175 = .ok (.iconst 1, 1) := by decide +kernel
theorem dL_law_176 : decode cL_law 176 = .ok (.iadd, 1) := by decide +kernel
theorem dL_law_177 : decode cL_law 177 = .ok (.iaload, 1) := by decide +kernel
theorem dL_law_178 : decode cL_law 178 = .ok (.aload_n 0, 1) := by decide +kernel
theorem dL_law_179 : decode cL_law 179 = .ok (.iload 4, 2) := by decide +kernel
theorem dL_law_181 : decode cL_law 181 = .ok (.iconst 2, 1) := by decide +kernel
theorem dL_law_182 : decode cL_law 182 = .ok (.iadd, 1) := by decide +kernel
theorem dL_law_183 : decode cL_law 183 = .ok (.iaload, 1) := by decide +kernel
theorem dL_law_184 : decode cL_law 184 = .ok (.aload_n 0, 1) := by decide +kernel
theorem dL_law_185 : decode cL_law 185 = .ok (.iload 4, 2) := by decide +kernel
theorem dL_law_187 : decode cL_law 187 = .ok (.iconst 3, 1) := by decide +kernel
theorem dL_law_188 : decode cL_law 188 = .ok (.iadd, 1) := by decide +kernel
theorem dL_law_189 : decode cL_law 189 = .ok (.iaload, 1) := by decide +kernel
theorem dL_law_190 : decode cL_law 190 = .ok (.aload_n 0, 1) := by decide +kernel
theorem dL_law_191 : decode cL_law 191 = .ok (.iload 4, 2) := by decide +kernel
theorem dL_law_193 : decode cL_law 193 = .ok (.iconst 4, 1) := by decide +kernel
theorem dL_law_194 : decode cL_law 194 = .ok (.iadd, 1) := by decide +kernel
theorem dL_law_195 : decode cL_law 195 = .ok (.iaload, 1) := by decide +kernel
theorem dL_law_196 : decode cL_law 196 = .ok (.invokevirtual 89, 3) := by decide +kernel
theorem dL_law_199 : decode cL_law 199 = .ok (.istore 6, 2) := by decide +kernel
theorem dL_law_201 : decode cL_law 201 = .ok (.aload_n 2, 1) := by decide +kernel
theorem dL_law_202 : decode cL_law 202 = .ok (.invokevirtual 90, 3) := by decide +kernel
theorem dL_law_205 : decode cL_law 205 = .ok (.iload 5, 2) := by decide +kernel
theorem dL_law_207 : decode cL_law 207 = .ok (.if_icmp .eq 5, 3) := by decide +kernel
theorem dL_law_210 : decode cL_law 210 = .ok (.iconst 0, 1) := by decide +kernel
theorem dL_law_211 : decode cL_law 211 = .ok (.ireturn, 1) := by decide +kernel
theorem dL_law_212 : decode cL_law 212 = .ok (.iload 5, 2) := by decide +kernel
theorem dL_law_214 : decode cL_law 214 = .ok (.ifCond .ne 15, 3) := by decide +kernel
theorem dL_law_217 : decode cL_law 217 = .ok (.aload_n 3, 1) := by decide +kernel
theorem dL_law_218 : decode cL_law 218 = .ok (.iconst 0, 1) := by decide +kernel
theorem dL_law_219 : decode cL_law 219 = .ok (.laload, 1) := by decide +kernel
theorem dL_law_220 : decode cL_law 220 = .ok (.iload 6, 2) := by decide +kernel
theorem dL_law_222 : decode cL_law 222 = .ok (.i2l, 1) := by decide +kernel
theorem dL_law_223 : decode cL_law 223 = .ok (.lcmp, 1) := by decide +kernel
theorem dL_law_224 : decode cL_law 224 = .ok (.ifCond .eq 5, 3) := by decide +kernel
theorem dL_law_227 : decode cL_law 227 = .ok (.iconst 0, 1) := by decide +kernel
theorem dL_law_228 : decode cL_law 228 = .ok (.ireturn, 1) := by decide +kernel
theorem dL_law_229 : decode cL_law 229 = .ok (.goto 1023, 3) := by decide +kernel
theorem dL_law_232 : decode cL_law 232 = .ok (.aload_n 1, 1) := by decide +kernel
theorem dL_law_233 : decode cL_law 233 = .ok (.aload_n 0, 1) := by decide +kernel
theorem dL_law_234 : decode cL_law 234 = .ok (.iload 4, 2) := by decide +kernel
theorem dL_law_236 : decode cL_law 236 = .ok (.iconst 1, 1) := by decide +kernel
theorem dL_law_237 : decode cL_law 237 = .ok (.iadd, 1) := by decide +kernel
theorem dL_law_238 : decode cL_law 238 = .ok (.iaload, 1) := by decide +kernel
theorem dL_law_239 : decode cL_law 239 = .ok (.aload_n 0, 1) := by decide +kernel
theorem dL_law_240 : decode cL_law 240 = .ok (.iload 4, 2) := by decide +kernel
theorem dL_law_242 : decode cL_law 242 = .ok (.iconst 2, 1) := by decide +kernel
theorem dL_law_243 : decode cL_law 243 = .ok (.iadd, 1) := by decide +kernel
theorem dL_law_244 : decode cL_law 244 = .ok (.iaload, 1) := by decide +kernel
theorem dL_law_245 : decode cL_law 245 = .ok (.aload_n 3, 1) := by decide +kernel
theorem dL_law_246 : decode cL_law 246 = .ok (.invokestatic 93, 3) := by decide +kernel
theorem dL_law_249 : decode cL_law 249 = .ok (.istore 5, 2) := by decide +kernel
theorem dL_law_251 : decode cL_law 251 = .ok (.aload_n 2, 1) := by decide +kernel
theorem dL_law_252 : decode cL_law 252 = .ok (.aload_n 0, 1) := by decide +kernel
theorem dL_law_253 : decode cL_law 253 = .ok (.iload 4, 2) := by decide +kernel
theorem dL_law_255 : decode cL_law 255 = .ok (.iconst 1, 1) := by decide +kernel
theorem dL_law_256 : decode cL_law 256 = .ok (.iadd, 1) := by decide +kernel
theorem dL_law_257 : decode cL_law 257 = .ok (.iaload, 1) := by decide +kernel
theorem dL_law_258 : decode cL_law 258 = .ok (.aload_n 0, 1) := by decide +kernel
theorem dL_law_259 : decode cL_law 259 = .ok (.iload 4, 2) := by decide +kernel
theorem dL_law_261 : decode cL_law 261 = .ok (.iconst 2, 1) := by decide +kernel
theorem dL_law_262 : decode cL_law 262 = .ok (.iadd, 1) := by decide +kernel
theorem dL_law_263 : decode cL_law 263 = .ok (.iaload, 1) := by decide +kernel
theorem dL_law_264 : decode cL_law 264 = .ok (.invokevirtual 96, 3) := by decide +kernel
theorem dL_law_267 : decode cL_law 267 = .ok (.istore 6, 2) := by decide +kernel
theorem dL_law_269 : decode cL_law 269 = .ok (.aload_n 2, 1) := by decide +kernel
theorem dL_law_270 : decode cL_law 270 = .ok (.invokevirtual 90, 3) := by decide +kernel
theorem dL_law_273 : decode cL_law 273 = .ok (.iload 5, 2) := by decide +kernel
theorem dL_law_275 : decode cL_law 275 = .ok (.if_icmp .eq 5, 3) := by decide +kernel
theorem dL_law_278 : decode cL_law 278 = .ok (.iconst 0, 1) := by decide +kernel
theorem dL_law_279 : decode cL_law 279 = .ok (.ireturn, 1) := by decide +kernel
theorem dL_law_280 : decode cL_law 280 = .ok (.iload 5, 2) := by decide +kernel
theorem dL_law_282 : decode cL_law 282 = .ok (.ifCond .ne 15, 3) := by decide +kernel
theorem dL_law_285 : decode cL_law 285 = .ok (.aload_n 3, 1) := by decide +kernel
theorem dL_law_286 : decode cL_law 286 = .ok (.iconst 0, 1) := by decide +kernel
theorem dL_law_287 : decode cL_law 287 = .ok (.laload, 1) := by decide +kernel
theorem dL_law_288 : decode cL_law 288 = .ok (.iload 6, 2) := by decide +kernel
theorem dL_law_290 : decode cL_law 290 = .ok (.i2l, 1) := by decide +kernel
theorem dL_law_291 : decode cL_law 291 = .ok (.lcmp, 1) := by decide +kernel
theorem dL_law_292 : decode cL_law 292 = .ok (.ifCond .eq 5, 3) := by decide +kernel
theorem dL_law_295 : decode cL_law 295 = .ok (.iconst 0, 1) := by decide +kernel
theorem dL_law_296 : decode cL_law 296 = .ok (.ireturn, 1) := by decide +kernel
theorem dL_law_297 : decode cL_law 297 = .ok (.goto 955, 3) := by decide +kernel
theorem dL_law_300 : decode cL_law 300 = .ok (.aload_n 1, 1) := by decide +kernel
theorem dL_law_301 : decode cL_law 301 = .ok (.aload_n 0, 1) := by decide +kernel
theorem dL_law_302 : decode cL_law 302 = .ok (.iload 4, 2) := by decide +kernel
theorem dL_law_304 : decode cL_law 304 = .ok (.iconst 1, 1) := by decide +kernel
theorem dL_law_305 : decode cL_law 305 = .ok (.iadd, 1) := by decide +kernel
theorem dL_law_306 : decode cL_law 306 = .ok (.iaload, 1) := by decide +kernel
theorem dL_law_307 : decode cL_law 307 = .ok (.aload_n 0, 1) := by decide +kernel
theorem dL_law_308 : decode cL_law 308 = .ok (.iload 4, 2) := by decide +kernel
theorem dL_law_310 : decode cL_law 310 = .ok (.iconst 2, 1) := by decide +kernel
theorem dL_law_311 : decode cL_law 311 = .ok (.iadd, 1) := by decide +kernel
theorem dL_law_312 : decode cL_law 312 = .ok (.iaload, 1) := by decide +kernel
theorem dL_law_313 : decode cL_law 313 = .ok (.aload_n 0, 1) := by decide +kernel
theorem dL_law_314 : decode cL_law 314 = .ok (.iload 4, 2) := by decide +kernel
theorem dL_law_316 : decode cL_law 316 = .ok (.iconst 3, 1) := by decide +kernel
theorem dL_law_317 : decode cL_law 317 = .ok (.iadd, 1) := by decide +kernel
theorem dL_law_318 : decode cL_law 318 = .ok (.iaload, 1) := by decide +kernel
theorem dL_law_319 : decode cL_law 319 = .ok (.aload_n 3, 1) := by decide +kernel
theorem dL_law_320 : decode cL_law 320 = .ok (.invokestatic 97, 3) := by decide +kernel
theorem dL_law_323 : decode cL_law 323 = .ok (.istore 5, 2) := by decide +kernel
theorem dL_law_325 : decode cL_law 325 = .ok (.aload_n 2, 1) := by decide +kernel
theorem dL_law_326 : decode cL_law 326 = .ok (.aload_n 0, 1) := by decide +kernel
theorem dL_law_327 : decode cL_law 327 = .ok (.iload 4, 2) := by decide +kernel
theorem dL_law_329 : decode cL_law 329 = .ok (.iconst 1, 1) := by decide +kernel
theorem dL_law_330 : decode cL_law 330 = .ok (.iadd, 1) := by decide +kernel
theorem dL_law_331 : decode cL_law 331 = .ok (.iaload, 1) := by decide +kernel
theorem dL_law_332 : decode cL_law 332 = .ok (.aload_n 0, 1) := by decide +kernel
theorem dL_law_333 : decode cL_law 333 = .ok (.iload 4, 2) := by decide +kernel
theorem dL_law_335 : decode cL_law 335 = .ok (.iconst 2, 1) := by decide +kernel
theorem dL_law_336 : decode cL_law 336 = .ok (.iadd, 1) := by decide +kernel
theorem dL_law_337 : decode cL_law 337 = .ok (.iaload, 1) := by decide +kernel
theorem dL_law_338 : decode cL_law 338 = .ok (.aload_n 0, 1) := by decide +kernel
theorem dL_law_339 : decode cL_law 339 = .ok (.iload 4, 2) := by decide +kernel
theorem dL_law_341 : decode cL_law 341 = .ok (.iconst 3, 1) := by decide +kernel
theorem dL_law_342 : decode cL_law 342 = .ok (.iadd, 1) := by decide +kernel
theorem dL_law_343 : decode cL_law 343 = .ok (.iaload, 1) := by decide +kernel
theorem dL_law_344 : decode cL_law 344 = .ok (.invokevirtual 100, 3) := by decide +kernel
theorem dL_law_347 : decode cL_law 347 = .ok (.istore 6, 2) := by decide +kernel
theorem dL_law_349 : decode cL_law 349 = .ok (.aload_n 2, 1) := by decide +kernel
theorem dL_law_350 : decode cL_law 350 = .ok (.invokevirtual 90, 3) := by decide +kernel
theorem dL_law_353 : decode cL_law 353 = .ok (.iload 5, 2) := by decide +kernel
theorem dL_law_355 : decode cL_law 355 = .ok (.if_icmp .eq 5, 3) := by decide +kernel
theorem dL_law_358 : decode cL_law 358 = .ok (.iconst 0, 1) := by decide +kernel
theorem dL_law_359 : decode cL_law 359 = .ok (.ireturn, 1) := by decide +kernel
theorem dL_law_360 : decode cL_law 360 = .ok (.iload 5, 2) := by decide +kernel
theorem dL_law_362 : decode cL_law 362 = .ok (.ifCond .ne 15, 3) := by decide +kernel
theorem dL_law_365 : decode cL_law 365 = .ok (.aload_n 3, 1) := by decide +kernel
theorem dL_law_366 : decode cL_law 366 = .ok (.iconst 0, 1) := by decide +kernel
theorem dL_law_367 : decode cL_law 367 = .ok (.laload, 1) := by decide +kernel
theorem dL_law_368 : decode cL_law 368 = .ok (.iload 6, 2) := by decide +kernel
theorem dL_law_370 : decode cL_law 370 = .ok (.i2l, 1) := by decide +kernel
theorem dL_law_371 : decode cL_law 371 = .ok (.lcmp, 1) := by decide +kernel
theorem dL_law_372 : decode cL_law 372 = .ok (.ifCond .eq 5, 3) := by decide +kernel
theorem dL_law_375 : decode cL_law 375 = .ok (.iconst 0, 1) := by decide +kernel
theorem dL_law_376 : decode cL_law 376 = .ok (.ireturn, 1) := by decide +kernel
theorem dL_law_377 : decode cL_law 377 = .ok (.goto 875, 3) := by decide +kernel
theorem dL_law_380 : decode cL_law 380 = .ok (.aload_n 1, 1) := by decide +kernel
theorem dL_law_381 : decode cL_law 381 = .ok (.aload_n 0, 1) := by decide +kernel
theorem dL_law_382 : decode cL_law 382 = .ok (.iload 4, 2) := by decide +kernel
theorem dL_law_384 : decode cL_law 384 = .ok (.iconst 1, 1) := by decide +kernel
theorem dL_law_385 : decode cL_law 385 = .ok (.iadd, 1) := by decide +kernel
theorem dL_law_386 : decode cL_law 386 = .ok (.iaload, 1) := by decide +kernel
theorem dL_law_387 : decode cL_law 387 = .ok (.aload_n 3, 1) := by decide +kernel
theorem dL_law_388 : decode cL_law 388 = .ok (.invokestatic 101, 3) := by decide +kernel
theorem dL_law_391 : decode cL_law 391 = .ok (.istore 5, 2) := by decide +kernel
theorem dL_law_393 : decode cL_law 393 = .ok (.aload_n 2, 1) := by decide +kernel
theorem dL_law_394 : decode cL_law 394 = .ok (.aload_n 0, 1) := by decide +kernel
theorem dL_law_395 : decode cL_law 395 = .ok (.iload 4, 2) := by decide +kernel
theorem dL_law_397 : decode cL_law 397 = .ok (.iconst 1, 1) := by decide +kernel
theorem dL_law_398 : decode cL_law 398 = .ok (.iadd, 1) := by decide +kernel
theorem dL_law_399 : decode cL_law 399 = .ok (.iaload, 1) := by decide +kernel
theorem dL_law_400 : decode cL_law 400 = .ok (.invokevirtual 104, 3) := by decide +kernel
theorem dL_law_403 : decode cL_law 403 = .ok (.istore 6, 2) := by decide +kernel
theorem dL_law_405 : decode cL_law 405 = .ok (.aload_n 2, 1) := by decide +kernel
theorem dL_law_406 : decode cL_law 406 = .ok (.invokevirtual 90, 3) := by decide +kernel
theorem dL_law_409 : decode cL_law 409 = .ok (.iload 5, 2) := by decide +kernel
theorem dL_law_411 : decode cL_law 411 = .ok (.if_icmp .eq 5, 3) := by decide +kernel
theorem dL_law_414 : decode cL_law 414 = .ok (.iconst 0, 1) := by decide +kernel
theorem dL_law_415 : decode cL_law 415 = .ok (.ireturn, 1) := by decide +kernel
theorem dL_law_416 : decode cL_law 416 = .ok (.iload 5, 2) := by decide +kernel
theorem dL_law_418 : decode cL_law 418 = .ok (.ifCond .ne 22, 3) := by decide +kernel
theorem dL_law_421 : decode cL_law 421 = .ok (.aload_n 3, 1) := by decide +kernel
theorem dL_law_422 : decode cL_law 422 = .ok (.iconst 0, 1) := by decide +kernel
theorem dL_law_423 : decode cL_law 423 = .ok (.laload, 1) := by decide +kernel
theorem dL_law_424 : decode cL_law 424 = .ok (.iload 6, 2) := by decide +kernel
theorem dL_law_426 : decode cL_law 426 = .ok (.ifCond .eq 7, 3) := by decide +kernel
theorem dL_law_429 : decode cL_law 429 = .ok (.lconst 1, 1) := by decide +kernel
theorem dL_law_430 : decode cL_law 430 = .ok (.goto 4, 3) := by decide +kernel
theorem dL_law_433 : decode cL_law 433 = .ok (.lconst 0, 1) := by decide +kernel
theorem dL_law_434 : decode cL_law 434 = .ok (.lcmp, 1) := by decide +kernel
theorem dL_law_435 : decode cL_law 435 = .ok (.ifCond .eq 5, 3) := by decide +kernel
theorem dL_law_438 : decode cL_law 438 = .ok (.iconst 0, 1) := by decide +kernel
theorem dL_law_439 : decode cL_law 439 = .ok (.ireturn, 1) := by decide +kernel
theorem dL_law_440 : decode cL_law 440 = .ok (.goto 812, 3) := by decide +kernel
theorem dL_law_443 : decode cL_law 443 = .ok (.aload_n 1, 1) := by decide +kernel
theorem dL_law_444 : decode cL_law 444 = .ok (.aload_n 0, 1) := by decide +kernel
theorem dL_law_445 : decode cL_law 445 = .ok (.iload 4, 2) := by decide +kernel
theorem dL_law_447 : decode cL_law 447 = .ok (.iconst 1, 1) := by decide +kernel
theorem dL_law_448 : decode cL_law 448 = .ok (.iadd, 1) := by decide +kernel
theorem dL_law_449 : decode cL_law 449 = .ok (.iaload, 1) := by decide +kernel
theorem dL_law_450 : decode cL_law 450 = .ok (.aload_n 3, 1) := by decide +kernel
theorem dL_law_451 : decode cL_law 451 = .ok (.invokestatic 105, 3) := by decide +kernel
theorem dL_law_454 : decode cL_law 454 = .ok (.istore 5, 2) := by decide +kernel
theorem dL_law_456 : decode cL_law 456 = .ok (.aload_n 2, 1) := by decide +kernel
theorem dL_law_457 : decode cL_law 457 = .ok (.aload_n 0, 1) := by decide +kernel
theorem dL_law_458 : decode cL_law 458 = .ok (.iload 4, 2) := by decide +kernel
theorem dL_law_460 : decode cL_law 460 = .ok (.iconst 1, 1) := by decide +kernel
theorem dL_law_461 : decode cL_law 461 = .ok (.iadd, 1) := by decide +kernel
theorem dL_law_462 : decode cL_law 462 = .ok (.iaload, 1) := by decide +kernel
theorem dL_law_463 : decode cL_law 463 = .ok (.invokevirtual 107, 3) := by decide +kernel
theorem dL_law_466 : decode cL_law 466 = .ok (.istore 6, 2) := by decide +kernel
theorem dL_law_468 : decode cL_law 468 = .ok (.aload_n 2, 1) := by decide +kernel
theorem dL_law_469 : decode cL_law 469 = .ok (.invokevirtual 90, 3) := by decide +kernel
theorem dL_law_472 : decode cL_law 472 = .ok (.iload 5, 2) := by decide +kernel
theorem dL_law_474 : decode cL_law 474 = .ok (.if_icmp .eq 5, 3) := by decide +kernel
theorem dL_law_477 : decode cL_law 477 = .ok (.iconst 0, 1) := by decide +kernel
theorem dL_law_478 : decode cL_law 478 = .ok (.ireturn, 1) := by decide +kernel
theorem dL_law_479 : decode cL_law 479 = .ok (.iload 5, 2) := by decide +kernel
theorem dL_law_481 : decode cL_law 481 = .ok (.ifCond .ne 15, 3) := by decide +kernel
theorem dL_law_484 : decode cL_law 484 = .ok (.aload_n 3, 1) := by decide +kernel
theorem dL_law_485 : decode cL_law 485 = .ok (.iconst 0, 1) := by decide +kernel
theorem dL_law_486 : decode cL_law 486 = .ok (.laload, 1) := by decide +kernel
theorem dL_law_487 : decode cL_law 487 = .ok (.iload 6, 2) := by decide +kernel
theorem dL_law_489 : decode cL_law 489 = .ok (.i2l, 1) := by decide +kernel
theorem dL_law_490 : decode cL_law 490 = .ok (.lcmp, 1) := by decide +kernel
theorem dL_law_491 : decode cL_law 491 = .ok (.ifCond .eq 5, 3) := by decide +kernel
theorem dL_law_494 : decode cL_law 494 = .ok (.iconst 0, 1) := by decide +kernel
theorem dL_law_495 : decode cL_law 495 = .ok (.ireturn, 1) := by decide +kernel
theorem dL_law_496 : decode cL_law 496 = .ok (.goto 756, 3) := by decide +kernel
theorem dL_law_499 : decode cL_law 499 = .ok (.aload_n 1, 1) := by decide +kernel
theorem dL_law_500 : decode cL_law 500 = .ok (.aload_n 0, 1) := by decide +kernel
theorem dL_law_501 : decode cL_law 501 = .ok (.iload 4, 2) := by decide +kernel
theorem dL_law_503 : decode cL_law 503 = .ok (.iconst 1, 1) := by decide +kernel
theorem dL_law_504 : decode cL_law 504 = .ok (.iadd, 1) := by decide +kernel
theorem dL_law_505 : decode cL_law 505 = .ok (.iaload, 1) := by decide +kernel
theorem dL_law_506 : decode cL_law 506 = .ok (.aload_n 0, 1) := by decide +kernel
theorem dL_law_507 : decode cL_law 507 = .ok (.iload 4, 2) := by decide +kernel
theorem dL_law_509 : decode cL_law 509 = .ok (.iconst 2, 1) := by decide +kernel
theorem dL_law_510 : decode cL_law 510 = .ok (.iadd, 1) := by decide +kernel
theorem dL_law_511 : decode cL_law 511 = .ok (.iaload, 1) := by decide +kernel
theorem dL_law_512 : decode cL_law 512 = .ok (.aload_n 0, 1) := by decide +kernel
theorem dL_law_513 : decode cL_law 513 = .ok (.iload 4, 2) := by decide +kernel
theorem dL_law_515 : decode cL_law 515 = .ok (.iconst 3, 1) := by decide +kernel
theorem dL_law_516 : decode cL_law 516 = .ok (.iadd, 1) := by decide +kernel
theorem dL_law_517 : decode cL_law 517 = .ok (.iaload, 1) := by decide +kernel
theorem dL_law_518 : decode cL_law 518 = .ok (.invokestatic 108, 3) := by decide +kernel
theorem dL_law_521 : decode cL_law 521 = .ok (.istore 5, 2) := by decide +kernel
theorem dL_law_523 : decode cL_law 523 = .ok (.aload_n 2, 1) := by decide +kernel
theorem dL_law_524 : decode cL_law 524 = .ok (.aload_n 0, 1) := by decide +kernel
theorem dL_law_525 : decode cL_law 525 = .ok (.iload 4, 2) := by decide +kernel
theorem dL_law_527 : decode cL_law 527 = .ok (.iconst 1, 1) := by decide +kernel
theorem dL_law_528 : decode cL_law 528 = .ok (.iadd, 1) := by decide +kernel
theorem dL_law_529 : decode cL_law 529 = .ok (.iaload, 1) := by decide +kernel
theorem dL_law_530 : decode cL_law 530 = .ok (.aload_n 0, 1) := by decide +kernel
theorem dL_law_531 : decode cL_law 531 = .ok (.iload 4, 2) := by decide +kernel
theorem dL_law_533 : decode cL_law 533 = .ok (.iconst 2, 1) := by decide +kernel
theorem dL_law_534 : decode cL_law 534 = .ok (.iadd, 1) := by decide +kernel
theorem dL_law_535 : decode cL_law 535 = .ok (.iaload, 1) := by decide +kernel
theorem dL_law_536 : decode cL_law 536 = .ok (.aload_n 0, 1) := by decide +kernel
theorem dL_law_537 : decode cL_law 537 = .ok (.iload 4, 2) := by decide +kernel
theorem dL_law_539 : decode cL_law 539 = .ok (.iconst 3, 1) := by decide +kernel
theorem dL_law_540 : decode cL_law 540 = .ok (.iadd, 1) := by decide +kernel
theorem dL_law_541 : decode cL_law 541 = .ok (.iaload, 1) := by decide +kernel
theorem dL_law_542 : decode cL_law 542 = .ok (.invokevirtual 111, 3) := by decide +kernel
theorem dL_law_545 : decode cL_law 545 = .ok (.aload_n 2, 1) := by decide +kernel
theorem dL_law_546 : decode cL_law 546 = .ok (.invokevirtual 90, 3) := by decide +kernel
theorem dL_law_549 : decode cL_law 549 = .ok (.iload 5, 2) := by decide +kernel
theorem dL_law_551 : decode cL_law 551 = .ok (.if_icmp .eq 5, 3) := by decide +kernel
theorem dL_law_554 : decode cL_law 554 = .ok (.iconst 0, 1) := by decide +kernel
theorem dL_law_555 : decode cL_law 555 = .ok (.ireturn, 1) := by decide +kernel
theorem dL_law_556 : decode cL_law 556 = .ok (.goto 696, 3) := by decide +kernel
theorem dL_law_559 : decode cL_law 559 = .ok (.aload_n 1, 1) := by decide +kernel
theorem dL_law_560 : decode cL_law 560 = .ok (.aload_n 3, 1) := by decide +kernel
theorem dL_law_561 : decode cL_law 561 = .ok (.invokestatic 112, 3) := by decide +kernel
theorem dL_law_564 : decode cL_law 564 = .ok (.istore 5, 2) := by decide +kernel
theorem dL_law_566 : decode cL_law 566 = .ok (.aload_n 2, 1) := by decide +kernel
theorem dL_law_567 : decode cL_law 567 = .ok (.invokevirtual 115, 3) := by decide +kernel
theorem dL_law_570 : decode cL_law 570 = .ok (.istore 6, 2) := by decide +kernel
theorem dL_law_572 : decode cL_law 572 = .ok (.aload_n 2, 1) := by decide +kernel
theorem dL_law_573 : decode cL_law 573 = .ok (.invokevirtual 90, 3) := by decide +kernel
theorem dL_law_576 : decode cL_law 576 = .ok (.iload 5, 2) := by decide +kernel
theorem dL_law_578 : decode cL_law 578 = .ok (.if_icmp .eq 5, 3) := by decide +kernel
theorem dL_law_581 : decode cL_law 581 = .ok (.iconst 0, 1) := by decide +kernel
theorem dL_law_582 : decode cL_law 582 = .ok (.ireturn, 1) := by decide +kernel
theorem dL_law_583 : decode cL_law 583 = .ok (.iload 5, 2) := by decide +kernel
theorem dL_law_585 : decode cL_law 585 = .ok (.ifCond .ne 15, 3) := by decide +kernel
theorem dL_law_588 : decode cL_law 588 = .ok (.aload_n 3, 1) := by decide +kernel
theorem dL_law_589 : decode cL_law 589 = .ok (.iconst 0, 1) := by decide +kernel
theorem dL_law_590 : decode cL_law 590 = .ok (.laload, 1) := by decide +kernel
theorem dL_law_591 : decode cL_law 591 = .ok (.iload 6, 2) := by decide +kernel
theorem dL_law_593 : decode cL_law 593 = .ok (.i2l, 1) := by decide +kernel
theorem dL_law_594 : decode cL_law 594 = .ok (.lcmp, 1) := by decide +kernel
theorem dL_law_595 : decode cL_law 595 = .ok (.ifCond .eq 5, 3) := by decide +kernel
theorem dL_law_598 : decode cL_law 598 = .ok (.iconst 0, 1) := by decide +kernel
theorem dL_law_599 : decode cL_law 599 = .ok (.ireturn, 1) := by decide +kernel
theorem dL_law_600 : decode cL_law 600 = .ok (.goto 652, 3) := by decide +kernel
theorem dL_law_603 : decode cL_law 603 = .ok (.aload_n 1, 1) := by decide +kernel
theorem dL_law_604 : decode cL_law 604 = .ok (.aload_n 0, 1) := by decide +kernel
theorem dL_law_605 : decode cL_law 605 = .ok (.iload 4, 2) := by decide +kernel
theorem dL_law_607 : decode cL_law 607 = .ok (.iconst 1, 1) := by decide +kernel
theorem dL_law_608 : decode cL_law 608 = .ok (.iadd, 1) := by decide +kernel
theorem dL_law_609 : decode cL_law 609 = .ok (.iaload, 1) := by decide +kernel
theorem dL_law_610 : decode cL_law 610 = .ok (.aload_n 0, 1) := by decide +kernel
theorem dL_law_611 : decode cL_law 611 = .ok (.iload 4, 2) := by decide +kernel
theorem dL_law_613 : decode cL_law 613 = .ok (.iconst 2, 1) := by decide +kernel
theorem dL_law_614 : decode cL_law 614 = .ok (.iadd, 1) := by decide +kernel
theorem dL_law_615 : decode cL_law 615 = .ok (.iaload, 1) := by decide +kernel
theorem dL_law_616 : decode cL_law 616 = .ok (.aload_n 0, 1) := by decide +kernel
theorem dL_law_617 : decode cL_law 617 = .ok (.iload 4, 2) := by decide +kernel
theorem dL_law_619 : decode cL_law 619 = .ok (.iconst 3, 1) := by decide +kernel
theorem dL_law_620 : decode cL_law 620 = .ok (.iadd, 1) := by decide +kernel
theorem dL_law_621 : decode cL_law 621 = .ok (.iaload, 1) := by decide +kernel
theorem dL_law_622 : decode cL_law 622 = .ok (.aload_n 3, 1) := by decide +kernel
theorem dL_law_623 : decode cL_law 623 = .ok (.invokestatic 116, 3) := by decide +kernel
theorem dL_law_626 : decode cL_law 626 = .ok (.istore 5, 2) := by decide +kernel
theorem dL_law_628 : decode cL_law 628 = .ok (.aload_n 2, 1) := by decide +kernel
theorem dL_law_629 : decode cL_law 629 = .ok (.aload_n 0, 1) := by decide +kernel
theorem dL_law_630 : decode cL_law 630 = .ok (.iload 4, 2) := by decide +kernel
theorem dL_law_632 : decode cL_law 632 = .ok (.iconst 1, 1) := by decide +kernel
theorem dL_law_633 : decode cL_law 633 = .ok (.iadd, 1) := by decide +kernel
theorem dL_law_634 : decode cL_law 634 = .ok (.iaload, 1) := by decide +kernel
theorem dL_law_635 : decode cL_law 635 = .ok (.aload_n 0, 1) := by decide +kernel
theorem dL_law_636 : decode cL_law 636 = .ok (.iload 4, 2) := by decide +kernel
theorem dL_law_638 : decode cL_law 638 = .ok (.iconst 2, 1) := by decide +kernel
theorem dL_law_639 : decode cL_law 639 = .ok (.iadd, 1) := by decide +kernel
theorem dL_law_640 : decode cL_law 640 = .ok (.iaload, 1) := by decide +kernel
theorem dL_law_641 : decode cL_law 641 = .ok (.aload_n 0, 1) := by decide +kernel
theorem dL_law_642 : decode cL_law 642 = .ok (.iload 4, 2) := by decide +kernel
theorem dL_law_644 : decode cL_law 644 = .ok (.iconst 3, 1) := by decide +kernel
theorem dL_law_645 : decode cL_law 645 = .ok (.iadd, 1) := by decide +kernel
theorem dL_law_646 : decode cL_law 646 = .ok (.iaload, 1) := by decide +kernel
theorem dL_law_647 : decode cL_law 647 = .ok (.invokevirtual 118, 3) := by decide +kernel
theorem dL_law_650 : decode cL_law 650 = .ok (.istore 6, 2) := by decide +kernel
theorem dL_law_652 : decode cL_law 652 = .ok (.aload_n 2, 1) := by decide +kernel
theorem dL_law_653 : decode cL_law 653 = .ok (.invokevirtual 90, 3) := by decide +kernel
theorem dL_law_656 : decode cL_law 656 = .ok (.iload 5, 2) := by decide +kernel
theorem dL_law_658 : decode cL_law 658 = .ok (.if_icmp .eq 5, 3) := by decide +kernel
theorem dL_law_661 : decode cL_law 661 = .ok (.iconst 0, 1) := by decide +kernel
theorem dL_law_662 : decode cL_law 662 = .ok (.ireturn, 1) := by decide +kernel
theorem dL_law_663 : decode cL_law 663 = .ok (.iload 5, 2) := by decide +kernel
theorem dL_law_665 : decode cL_law 665 = .ok (.ifCond .ne 15, 3) := by decide +kernel
theorem dL_law_668 : decode cL_law 668 = .ok (.aload_n 3, 1) := by decide +kernel
theorem dL_law_669 : decode cL_law 669 = .ok (.iconst 0, 1) := by decide +kernel
theorem dL_law_670 : decode cL_law 670 = .ok (.laload, 1) := by decide +kernel
theorem dL_law_671 : decode cL_law 671 = .ok (.iload 6, 2) := by decide +kernel
theorem dL_law_673 : decode cL_law 673 = .ok (.i2l, 1) := by decide +kernel
theorem dL_law_674 : decode cL_law 674 = .ok (.lcmp, 1) := by decide +kernel
theorem dL_law_675 : decode cL_law 675 = .ok (.ifCond .eq 5, 3) := by decide +kernel
theorem dL_law_678 : decode cL_law 678 = .ok (.iconst 0, 1) := by decide +kernel
theorem dL_law_679 : decode cL_law 679 = .ok (.ireturn, 1) := by decide +kernel
theorem dL_law_680 : decode cL_law 680 = .ok (.goto 572, 3) := by decide +kernel
theorem dL_law_683 : decode cL_law 683 = .ok (.aload_n 1, 1) := by decide +kernel
theorem dL_law_684 : decode cL_law 684 = .ok (.aload_n 0, 1) := by decide +kernel
theorem dL_law_685 : decode cL_law 685 = .ok (.iload 4, 2) := by decide +kernel
theorem dL_law_687 : decode cL_law 687 = .ok (.iconst 1, 1) := by decide +kernel
theorem dL_law_688 : decode cL_law 688 = .ok (.iadd, 1) := by decide +kernel
theorem dL_law_689 : decode cL_law 689 = .ok (.iaload, 1) := by decide +kernel
theorem dL_law_690 : decode cL_law 690 = .ok (.aload_n 0, 1) := by decide +kernel
theorem dL_law_691 : decode cL_law 691 = .ok (.iload 4, 2) := by decide +kernel
theorem dL_law_693 : decode cL_law 693 = .ok (.iconst 2, 1) := by decide +kernel
theorem dL_law_694 : decode cL_law 694 = .ok (.iadd, 1) := by decide +kernel
theorem dL_law_695 : decode cL_law 695 = .ok (.iaload, 1) := by decide +kernel
theorem dL_law_696 : decode cL_law 696 = .ok (.aload_n 0, 1) := by decide +kernel
theorem dL_law_697 : decode cL_law 697 = .ok (.iload 4, 2) := by decide +kernel
theorem dL_law_699 : decode cL_law 699 = .ok (.iconst 3, 1) := by decide +kernel
theorem dL_law_700 : decode cL_law 700 = .ok (.iadd, 1) := by decide +kernel
theorem dL_law_701 : decode cL_law 701 = .ok (.iaload, 1) := by decide +kernel
theorem dL_law_702 : decode cL_law 702 = .ok (.aload_n 3, 1) := by decide +kernel
theorem dL_law_703 : decode cL_law 703 = .ok (.invokestatic 119, 3) := by decide +kernel
theorem dL_law_706 : decode cL_law 706 = .ok (.istore 5, 2) := by decide +kernel
theorem dL_law_708 : decode cL_law 708 = .ok (.aload_n 2, 1) := by decide +kernel
theorem dL_law_709 : decode cL_law 709 = .ok (.aload_n 0, 1) := by decide +kernel
theorem dL_law_710 : decode cL_law 710 = .ok (.iload 4, 2) := by decide +kernel
theorem dL_law_712 : decode cL_law 712 = .ok (.iconst 1, 1) := by decide +kernel
theorem dL_law_713 : decode cL_law 713 = .ok (.iadd, 1) := by decide +kernel
theorem dL_law_714 : decode cL_law 714 = .ok (.iaload, 1) := by decide +kernel
theorem dL_law_715 : decode cL_law 715 = .ok (.aload_n 0, 1) := by decide +kernel
theorem dL_law_716 : decode cL_law 716 = .ok (.iload 4, 2) := by decide +kernel
theorem dL_law_718 : decode cL_law 718 = .ok (.iconst 2, 1) := by decide +kernel
theorem dL_law_719 : decode cL_law 719 = .ok (.iadd, 1) := by decide +kernel
theorem dL_law_720 : decode cL_law 720 = .ok (.iaload, 1) := by decide +kernel
theorem dL_law_721 : decode cL_law 721 = .ok (.aload_n 0, 1) := by decide +kernel
theorem dL_law_722 : decode cL_law 722 = .ok (.iload 4, 2) := by decide +kernel
theorem dL_law_724 : decode cL_law 724 = .ok (.iconst 3, 1) := by decide +kernel
theorem dL_law_725 : decode cL_law 725 = .ok (.iadd, 1) := by decide +kernel
theorem dL_law_726 : decode cL_law 726 = .ok (.iaload, 1) := by decide +kernel
theorem dL_law_727 : decode cL_law 727 = .ok (.invokevirtual 121, 3) := by decide +kernel
theorem dL_law_730 : decode cL_law 730 = .ok (.istore 6, 2) := by decide +kernel
theorem dL_law_732 : decode cL_law 732 = .ok (.aload_n 2, 1) := by decide +kernel
theorem dL_law_733 : decode cL_law 733 = .ok (.invokevirtual 90, 3) := by decide +kernel
theorem dL_law_736 : decode cL_law 736 = .ok (.iload 5, 2) := by decide +kernel
theorem dL_law_738 : decode cL_law 738 = .ok (.if_icmp .eq 5, 3) := by decide +kernel
theorem dL_law_741 : decode cL_law 741 = .ok (.iconst 0, 1) := by decide +kernel
theorem dL_law_742 : decode cL_law 742 = .ok (.ireturn, 1) := by decide +kernel
theorem dL_law_743 : decode cL_law 743 = .ok (.iload 5, 2) := by decide +kernel
theorem dL_law_745 : decode cL_law 745 = .ok (.ifCond .ne 15, 3) := by decide +kernel
theorem dL_law_748 : decode cL_law 748 = .ok (.aload_n 3, 1) := by decide +kernel
theorem dL_law_749 : decode cL_law 749 = .ok (.iconst 0, 1) := by decide +kernel
theorem dL_law_750 : decode cL_law 750 = .ok (.laload, 1) := by decide +kernel
theorem dL_law_751 : decode cL_law 751 = .ok (.iload 6, 2) := by decide +kernel
theorem dL_law_753 : decode cL_law 753 = .ok (.i2l, 1) := by decide +kernel
theorem dL_law_754 : decode cL_law 754 = .ok (.lcmp, 1) := by decide +kernel
theorem dL_law_755 : decode cL_law 755 = .ok (.ifCond .eq 5, 3) := by decide +kernel
theorem dL_law_758 : decode cL_law 758 = .ok (.iconst 0, 1) := by decide +kernel
theorem dL_law_759 : decode cL_law 759 = .ok (.ireturn, 1) := by decide +kernel
theorem dL_law_760 : decode cL_law 760 = .ok (.goto 492, 3) := by decide +kernel
theorem dL_law_763 : decode cL_law 763 = .ok (.aload_n 1, 1) := by decide +kernel
theorem dL_law_764 : decode cL_law 764 = .ok (.aload_n 0, 1) := by decide +kernel
theorem dL_law_765 : decode cL_law 765 = .ok (.iload 4, 2) := by decide +kernel
theorem dL_law_767 : decode cL_law 767 = .ok (.iconst 1, 1) := by decide +kernel
theorem dL_law_768 : decode cL_law 768 = .ok (.iadd, 1) := by decide +kernel
theorem dL_law_769 : decode cL_law 769 = .ok (.iaload, 1) := by decide +kernel
theorem dL_law_770 : decode cL_law 770 = .ok (.aload_n 3, 1) := by decide +kernel
theorem dL_law_771 : decode cL_law 771 = .ok (.invokestatic 122, 3) := by decide +kernel
theorem dL_law_774 : decode cL_law 774 = .ok (.istore 5, 2) := by decide +kernel
theorem dL_law_776 : decode cL_law 776 = .ok (.aload_n 2, 1) := by decide +kernel
theorem dL_law_777 : decode cL_law 777 = .ok (.aload_n 0, 1) := by decide +kernel
theorem dL_law_778 : decode cL_law 778 = .ok (.iload 4, 2) := by decide +kernel
theorem dL_law_780 : decode cL_law 780 = .ok (.iconst 1, 1) := by decide +kernel
theorem dL_law_781 : decode cL_law 781 = .ok (.iadd, 1) := by decide +kernel
theorem dL_law_782 : decode cL_law 782 = .ok (.iaload, 1) := by decide +kernel
theorem dL_law_783 : decode cL_law 783 = .ok (.invokevirtual 124, 3) := by decide +kernel
theorem dL_law_786 : decode cL_law 786 = .ok (.istore 6, 2) := by decide +kernel
theorem dL_law_788 : decode cL_law 788 = .ok (.aload_n 2, 1) := by decide +kernel
theorem dL_law_789 : decode cL_law 789 = .ok (.invokevirtual 90, 3) := by decide +kernel
theorem dL_law_792 : decode cL_law 792 = .ok (.iload 5, 2) := by decide +kernel
theorem dL_law_794 : decode cL_law 794 = .ok (.if_icmp .eq 5, 3) := by decide +kernel
theorem dL_law_797 : decode cL_law 797 = .ok (.iconst 0, 1) := by decide +kernel
theorem dL_law_798 : decode cL_law 798 = .ok (.ireturn, 1) := by decide +kernel
theorem dL_law_799 : decode cL_law 799 = .ok (.iload 5, 2) := by decide +kernel
theorem dL_law_801 : decode cL_law 801 = .ok (.ifCond .ne 15, 3) := by decide +kernel
theorem dL_law_804 : decode cL_law 804 = .ok (.aload_n 3, 1) := by decide +kernel
theorem dL_law_805 : decode cL_law 805 = .ok (.iconst 0, 1) := by decide +kernel
theorem dL_law_806 : decode cL_law 806 = .ok (.laload, 1) := by decide +kernel
theorem dL_law_807 : decode cL_law 807 = .ok (.iload 6, 2) := by decide +kernel
theorem dL_law_809 : decode cL_law 809 = .ok (.i2l, 1) := by decide +kernel
theorem dL_law_810 : decode cL_law 810 = .ok (.lcmp, 1) := by decide +kernel
theorem dL_law_811 : decode cL_law 811 = .ok (.ifCond .eq 5, 3) := by decide +kernel
theorem dL_law_814 : decode cL_law 814 = .ok (.iconst 0, 1) := by decide +kernel
theorem dL_law_815 : decode cL_law 815 = .ok (.ireturn, 1) := by decide +kernel
theorem dL_law_816 : decode cL_law 816 = .ok (.goto 436, 3) := by decide +kernel
theorem dL_law_819 : decode cL_law 819 = .ok (.aload_n 1, 1) := by decide +kernel
theorem dL_law_820 : decode cL_law 820 = .ok (.aload_n 0, 1) := by decide +kernel
theorem dL_law_821 : decode cL_law 821 = .ok (.iload 4, 2) := by decide +kernel
theorem dL_law_823 : decode cL_law 823 = .ok (.iconst 1, 1) := by decide +kernel
theorem dL_law_824 : decode cL_law 824 = .ok (.iadd, 1) := by decide +kernel
theorem dL_law_825 : decode cL_law 825 = .ok (.iaload, 1) := by decide +kernel
theorem dL_law_826 : decode cL_law 826 = .ok (.aload_n 0, 1) := by decide +kernel
theorem dL_law_827 : decode cL_law 827 = .ok (.iload 4, 2) := by decide +kernel
theorem dL_law_829 : decode cL_law 829 = .ok (.iconst 2, 1) := by decide +kernel
theorem dL_law_830 : decode cL_law 830 = .ok (.iadd, 1) := by decide +kernel
theorem dL_law_831 : decode cL_law 831 = .ok (.iaload, 1) := by decide +kernel
theorem dL_law_832 : decode cL_law 832 = .ok (.aload_n 0, 1) := by decide +kernel
theorem dL_law_833 : decode cL_law 833 = .ok (.iload 4, 2) := by decide +kernel
theorem dL_law_835 : decode cL_law 835 = .ok (.iconst 3, 1) := by decide +kernel
theorem dL_law_836 : decode cL_law 836 = .ok (.iadd, 1) := by decide +kernel
theorem dL_law_837 : decode cL_law 837 = .ok (.iaload, 1) := by decide +kernel
theorem dL_law_838 : decode cL_law 838 = .ok (.aload_n 3, 1) := by decide +kernel
theorem dL_law_839 : decode cL_law 839 = .ok (.invokestatic 125, 3) := by decide +kernel
theorem dL_law_842 : decode cL_law 842 = .ok (.istore 5, 2) := by decide +kernel
theorem dL_law_844 : decode cL_law 844 = .ok (.aload_n 2, 1) := by decide +kernel
theorem dL_law_845 : decode cL_law 845 = .ok (.aload_n 0, 1) := by decide +kernel
theorem dL_law_846 : decode cL_law 846 = .ok (.iload 4, 2) := by decide +kernel
theorem dL_law_848 : decode cL_law 848 = .ok (.iconst 1, 1) := by decide +kernel
theorem dL_law_849 : decode cL_law 849 = .ok (.iadd, 1) := by decide +kernel
theorem dL_law_850 : decode cL_law 850 = .ok (.iaload, 1) := by decide +kernel
theorem dL_law_851 : decode cL_law 851 = .ok (.aload_n 0, 1) := by decide +kernel
theorem dL_law_852 : decode cL_law 852 = .ok (.iload 4, 2) := by decide +kernel
theorem dL_law_854 : decode cL_law 854 = .ok (.iconst 2, 1) := by decide +kernel
theorem dL_law_855 : decode cL_law 855 = .ok (.iadd, 1) := by decide +kernel
theorem dL_law_856 : decode cL_law 856 = .ok (.iaload, 1) := by decide +kernel
theorem dL_law_857 : decode cL_law 857 = .ok (.aload_n 0, 1) := by decide +kernel
theorem dL_law_858 : decode cL_law 858 = .ok (.iload 4, 2) := by decide +kernel
theorem dL_law_860 : decode cL_law 860 = .ok (.iconst 3, 1) := by decide +kernel
theorem dL_law_861 : decode cL_law 861 = .ok (.iadd, 1) := by decide +kernel
theorem dL_law_862 : decode cL_law 862 = .ok (.iaload, 1) := by decide +kernel
theorem dL_law_863 : decode cL_law 863 = .ok (.invokevirtual 127, 3) := by decide +kernel
theorem dL_law_866 : decode cL_law 866 = .ok (.istore 6, 2) := by decide +kernel
theorem dL_law_868 : decode cL_law 868 = .ok (.aload_n 2, 1) := by decide +kernel
theorem dL_law_869 : decode cL_law 869 = .ok (.invokevirtual 90, 3) := by decide +kernel
theorem dL_law_872 : decode cL_law 872 = .ok (.iload 5, 2) := by decide +kernel
theorem dL_law_874 : decode cL_law 874 = .ok (.if_icmp .eq 5, 3) := by decide +kernel
theorem dL_law_877 : decode cL_law 877 = .ok (.iconst 0, 1) := by decide +kernel
theorem dL_law_878 : decode cL_law 878 = .ok (.ireturn, 1) := by decide +kernel
theorem dL_law_879 : decode cL_law 879 = .ok (.iload 5, 2) := by decide +kernel
theorem dL_law_881 : decode cL_law 881 = .ok (.ifCond .ne 15, 3) := by decide +kernel
theorem dL_law_884 : decode cL_law 884 = .ok (.aload_n 3, 1) := by decide +kernel
theorem dL_law_885 : decode cL_law 885 = .ok (.iconst 0, 1) := by decide +kernel
theorem dL_law_886 : decode cL_law 886 = .ok (.laload, 1) := by decide +kernel
theorem dL_law_887 : decode cL_law 887 = .ok (.iload 6, 2) := by decide +kernel
theorem dL_law_889 : decode cL_law 889 = .ok (.i2l, 1) := by decide +kernel
theorem dL_law_890 : decode cL_law 890 = .ok (.lcmp, 1) := by decide +kernel
theorem dL_law_891 : decode cL_law 891 = .ok (.ifCond .eq 5, 3) := by decide +kernel
theorem dL_law_894 : decode cL_law 894 = .ok (.iconst 0, 1) := by decide +kernel
theorem dL_law_895 : decode cL_law 895 = .ok (.ireturn, 1) := by decide +kernel
theorem dL_law_896 : decode cL_law 896 = .ok (.goto 356, 3) := by decide +kernel
theorem dL_law_899 : decode cL_law 899 = .ok (.aload_n 1, 1) := by decide +kernel
theorem dL_law_900 : decode cL_law 900 = .ok (.aload_n 0, 1) := by decide +kernel
theorem dL_law_901 : decode cL_law 901 = .ok (.iload 4, 2) := by decide +kernel
theorem dL_law_903 : decode cL_law 903 = .ok (.iconst 1, 1) := by decide +kernel
theorem dL_law_904 : decode cL_law 904 = .ok (.iadd, 1) := by decide +kernel
theorem dL_law_905 : decode cL_law 905 = .ok (.iaload, 1) := by decide +kernel
theorem dL_law_906 : decode cL_law 906 = .ok (.aload_n 0, 1) := by decide +kernel
theorem dL_law_907 : decode cL_law 907 = .ok (.iload 4, 2) := by decide +kernel
theorem dL_law_909 : decode cL_law 909 = .ok (.iconst 2, 1) := by decide +kernel
theorem dL_law_910 : decode cL_law 910 = .ok (.iadd, 1) := by decide +kernel
theorem dL_law_911 : decode cL_law 911 = .ok (.iaload, 1) := by decide +kernel
theorem dL_law_912 : decode cL_law 912 = .ok (.aload_n 3, 1) := by decide +kernel
theorem dL_law_913 : decode cL_law 913 = .ok (.invokestatic 128, 3) := by decide +kernel
theorem dL_law_916 : decode cL_law 916 = .ok (.istore 5, 2) := by decide +kernel
theorem dL_law_918 : decode cL_law 918 = .ok (.aload_n 2, 1) := by decide +kernel
theorem dL_law_919 : decode cL_law 919 = .ok (.aload_n 0, 1) := by decide +kernel
theorem dL_law_920 : decode cL_law 920 = .ok (.iload 4, 2) := by decide +kernel
theorem dL_law_922 : decode cL_law 922 = .ok (.iconst 1, 1) := by decide +kernel
theorem dL_law_923 : decode cL_law 923 = .ok (.iadd, 1) := by decide +kernel
theorem dL_law_924 : decode cL_law 924 = .ok (.iaload, 1) := by decide +kernel
theorem dL_law_925 : decode cL_law 925 = .ok (.aload_n 0, 1) := by decide +kernel
theorem dL_law_926 : decode cL_law 926 = .ok (.iload 4, 2) := by decide +kernel
theorem dL_law_928 : decode cL_law 928 = .ok (.iconst 2, 1) := by decide +kernel
theorem dL_law_929 : decode cL_law 929 = .ok (.iadd, 1) := by decide +kernel
theorem dL_law_930 : decode cL_law 930 = .ok (.iaload, 1) := by decide +kernel
theorem dL_law_931 : decode cL_law 931 = .ok (.invokevirtual 130, 3) := by decide +kernel
theorem dL_law_934 : decode cL_law 934 = .ok (.istore 6, 2) := by decide +kernel
theorem dL_law_936 : decode cL_law 936 = .ok (.aload_n 2, 1) := by decide +kernel
theorem dL_law_937 : decode cL_law 937 = .ok (.invokevirtual 90, 3) := by decide +kernel
theorem dL_law_940 : decode cL_law 940 = .ok (.iload 5, 2) := by decide +kernel
theorem dL_law_942 : decode cL_law 942 = .ok (.if_icmp .eq 5, 3) := by decide +kernel
theorem dL_law_945 : decode cL_law 945 = .ok (.iconst 0, 1) := by decide +kernel
theorem dL_law_946 : decode cL_law 946 = .ok (.ireturn, 1) := by decide +kernel
theorem dL_law_947 : decode cL_law 947 = .ok (.iload 5, 2) := by decide +kernel
theorem dL_law_949 : decode cL_law 949 = .ok (.ifCond .ne 15, 3) := by decide +kernel
theorem dL_law_952 : decode cL_law 952 = .ok (.aload_n 3, 1) := by decide +kernel
theorem dL_law_953 : decode cL_law 953 = .ok (.iconst 0, 1) := by decide +kernel
theorem dL_law_954 : decode cL_law 954 = .ok (.laload, 1) := by decide +kernel
theorem dL_law_955 : decode cL_law 955 = .ok (.iload 6, 2) := by decide +kernel
theorem dL_law_957 : decode cL_law 957 = .ok (.i2l, 1) := by decide +kernel
theorem dL_law_958 : decode cL_law 958 = .ok (.lcmp, 1) := by decide +kernel
theorem dL_law_959 : decode cL_law 959 = .ok (.ifCond .eq 5, 3) := by decide +kernel
theorem dL_law_962 : decode cL_law 962 = .ok (.iconst 0, 1) := by decide +kernel
theorem dL_law_963 : decode cL_law 963 = .ok (.ireturn, 1) := by decide +kernel
theorem dL_law_964 : decode cL_law 964 = .ok (.goto 288, 3) := by decide +kernel
theorem dL_law_967 : decode cL_law 967 = .ok (.aload_n 1, 1) := by decide +kernel
theorem dL_law_968 : decode cL_law 968 = .ok (.aload_n 0, 1) := by decide +kernel
theorem dL_law_969 : decode cL_law 969 = .ok (.iload 4, 2) := by decide +kernel
theorem dL_law_971 : decode cL_law 971 = .ok (.iconst 1, 1) := by decide +kernel
theorem dL_law_972 : decode cL_law 972 = .ok (.iadd, 1) := by decide +kernel
theorem dL_law_973 : decode cL_law 973 = .ok (.iaload, 1) := by decide +kernel
theorem dL_law_974 : decode cL_law 974 = .ok (.aload_n 0, 1) := by decide +kernel
theorem dL_law_975 : decode cL_law 975 = .ok (.iload 4, 2) := by decide +kernel
theorem dL_law_977 : decode cL_law 977 = .ok (.iconst 2, 1) := by decide +kernel
theorem dL_law_978 : decode cL_law 978 = .ok (.iadd, 1) := by decide +kernel
theorem dL_law_979 : decode cL_law 979 = .ok (.iaload, 1) := by decide +kernel
theorem dL_law_980 : decode cL_law 980 = .ok (.aload_n 0, 1) := by decide +kernel
theorem dL_law_981 : decode cL_law 981 = .ok (.iload 4, 2) := by decide +kernel
theorem dL_law_983 : decode cL_law 983 = .ok (.iconst 3, 1) := by decide +kernel
theorem dL_law_984 : decode cL_law 984 = .ok (.iadd, 1) := by decide +kernel
theorem dL_law_985 : decode cL_law 985 = .ok (.iaload, 1) := by decide +kernel
theorem dL_law_986 : decode cL_law 986 = .ok (.aload_n 3, 1) := by decide +kernel
theorem dL_law_987 : decode cL_law 987 = .ok (.invokestatic 131, 3) := by decide +kernel
theorem dL_law_990 : decode cL_law 990 = .ok (.istore 5, 2) := by decide +kernel
theorem dL_law_992 : decode cL_law 992 = .ok (.aload_n 2, 1) := by decide +kernel
theorem dL_law_993 : decode cL_law 993 = .ok (.aload_n 0, 1) := by decide +kernel
theorem dL_law_994 : decode cL_law 994 = .ok (.iload 4, 2) := by decide +kernel
theorem dL_law_996 : decode cL_law 996 = .ok (.iconst 1, 1) := by decide +kernel
theorem dL_law_997 : decode cL_law 997 = .ok (.iadd, 1) := by decide +kernel
theorem dL_law_998 : decode cL_law 998 = .ok (.iaload, 1) := by decide +kernel
theorem dL_law_999 : decode cL_law 999 = .ok (.aload_n 0, 1) := by decide +kernel
theorem dL_law_1000 : decode cL_law 1000 = .ok (.iload 4, 2) := by decide +kernel
theorem dL_law_1002 : decode cL_law 1002 = .ok (.iconst 2, 1) := by decide +kernel
theorem dL_law_1003 : decode cL_law 1003 = .ok (.iadd, 1) := by decide +kernel
theorem dL_law_1004 : decode cL_law 1004 = .ok (.iaload, 1) := by decide +kernel
theorem dL_law_1005 : decode cL_law 1005 = .ok (.aload_n 0, 1) := by decide +kernel
theorem dL_law_1006 : decode cL_law 1006 = .ok (.iload 4, 2) := by decide +kernel
theorem dL_law_1008 : decode cL_law 1008 = .ok (.iconst 3, 1) := by decide +kernel
theorem dL_law_1009 : decode cL_law 1009 = .ok (.iadd, 1) := by decide +kernel
theorem dL_law_1010 : decode cL_law 1010 = .ok (.iaload, 1) := by decide +kernel
theorem dL_law_1011 : decode cL_law 1011 = .ok (.invokevirtual 133, 3) := by decide +kernel
theorem dL_law_1014 : decode cL_law 1014 = .ok (.istore 6, 2) := by decide +kernel
theorem dL_law_1016 : decode cL_law 1016 = .ok (.aload_n 2, 1) := by decide +kernel
theorem dL_law_1017 : decode cL_law 1017 = .ok (.invokevirtual 90, 3) := by decide +kernel
theorem dL_law_1020 : decode cL_law 1020 = .ok (.iload 5, 2) := by decide +kernel
theorem dL_law_1022 : decode cL_law 1022 = .ok (.if_icmp .eq 5, 3) := by decide +kernel
theorem dL_law_1025 : decode cL_law 1025 = .ok (.iconst 0, 1) := by decide +kernel
theorem dL_law_1026 : decode cL_law 1026 = .ok (.ireturn, 1) := by decide +kernel
theorem dL_law_1027 : decode cL_law 1027 = .ok (.iload 5, 2) := by decide +kernel
theorem dL_law_1029 : decode cL_law 1029 = .ok (.ifCond .ne 15, 3) := by decide +kernel
theorem dL_law_1032 : decode cL_law 1032 = .ok (.aload_n 3, 1) := by decide +kernel
theorem dL_law_1033 : decode cL_law 1033 = .ok (.iconst 0, 1) := by decide +kernel
theorem dL_law_1034 : decode cL_law 1034 = .ok (.laload, 1) := by decide +kernel
theorem dL_law_1035 : decode cL_law 1035 = .ok (.iload 6, 2) := by decide +kernel
theorem dL_law_1037 : decode cL_law 1037 = .ok (.i2l, 1) := by decide +kernel
theorem dL_law_1038 : decode cL_law 1038 = .ok (.lcmp, 1) := by decide +kernel
theorem dL_law_1039 : decode cL_law 1039 = .ok (.ifCond .eq 5, 3) := by decide +kernel
theorem dL_law_1042 : decode cL_law 1042 = .ok (.iconst 0, 1) := by decide +kernel
theorem dL_law_1043 : decode cL_law 1043 = .ok (.ireturn, 1) := by decide +kernel
theorem dL_law_1044 : decode cL_law 1044 = .ok (.goto 208, 3) := by decide +kernel
theorem dL_law_1047 : decode cL_law 1047 = .ok (.aload_n 1, 1) := by decide +kernel
theorem dL_law_1048 : decode cL_law 1048 = .ok (.aload_n 0, 1) := by decide +kernel
theorem dL_law_1049 : decode cL_law 1049 = .ok (.iload 4, 2) := by decide +kernel
theorem dL_law_1051 : decode cL_law 1051 = .ok (.iconst 1, 1) := by decide +kernel
theorem dL_law_1052 : decode cL_law 1052 = .ok (.iadd, 1) := by decide +kernel
theorem dL_law_1053 : decode cL_law 1053 = .ok (.iaload, 1) := by decide +kernel
theorem dL_law_1054 : decode cL_law 1054 = .ok (.aload_n 0, 1) := by decide +kernel
theorem dL_law_1055 : decode cL_law 1055 = .ok (.iload 4, 2) := by decide +kernel
theorem dL_law_1057 : decode cL_law 1057 = .ok (.iconst 2, 1) := by decide +kernel
theorem dL_law_1058 : decode cL_law 1058 = .ok (.iadd, 1) := by decide +kernel
theorem dL_law_1059 : decode cL_law 1059 = .ok (.iaload, 1) := by decide +kernel
theorem dL_law_1060 : decode cL_law 1060 = .ok (.aload_n 3, 1) := by decide +kernel
theorem dL_law_1061 : decode cL_law 1061 = .ok (.invokestatic 134, 3) := by decide +kernel
theorem dL_law_1064 : decode cL_law 1064 = .ok (.istore 5, 2) := by decide +kernel
theorem dL_law_1066 : decode cL_law 1066 = .ok (.aload_n 2, 1) := by decide +kernel
theorem dL_law_1067 : decode cL_law 1067 = .ok (.aload_n 0, 1) := by decide +kernel
theorem dL_law_1068 : decode cL_law 1068 = .ok (.iload 4, 2) := by decide +kernel
theorem dL_law_1070 : decode cL_law 1070 = .ok (.iconst 1, 1) := by decide +kernel
theorem dL_law_1071 : decode cL_law 1071 = .ok (.iadd, 1) := by decide +kernel
theorem dL_law_1072 : decode cL_law 1072 = .ok (.iaload, 1) := by decide +kernel
theorem dL_law_1073 : decode cL_law 1073 = .ok (.aload_n 0, 1) := by decide +kernel
theorem dL_law_1074 : decode cL_law 1074 = .ok (.iload 4, 2) := by decide +kernel
theorem dL_law_1076 : decode cL_law 1076 = .ok (.iconst 2, 1) := by decide +kernel
theorem dL_law_1077 : decode cL_law 1077 = .ok (.iadd, 1) := by decide +kernel
theorem dL_law_1078 : decode cL_law 1078 = .ok (.iaload, 1) := by decide +kernel
theorem dL_law_1079 : decode cL_law 1079 = .ok (.invokevirtual 136, 3) := by decide +kernel
theorem dL_law_1082 : decode cL_law 1082 = .ok (.istore 6, 2) := by decide +kernel
theorem dL_law_1084 : decode cL_law 1084 = .ok (.aload_n 2, 1) := by decide +kernel
theorem dL_law_1085 : decode cL_law 1085 = .ok (.invokevirtual 90, 3) := by decide +kernel
theorem dL_law_1088 : decode cL_law 1088 = .ok (.iload 5, 2) := by decide +kernel
theorem dL_law_1090 : decode cL_law 1090 = .ok (.if_icmp .eq 5, 3) := by decide +kernel
theorem dL_law_1093 : decode cL_law 1093 = .ok (.iconst 0, 1) := by decide +kernel
theorem dL_law_1094 : decode cL_law 1094 = .ok (.ireturn, 1) := by decide +kernel
theorem dL_law_1095 : decode cL_law 1095 = .ok (.iload 5, 2) := by decide +kernel
theorem dL_law_1097 : decode cL_law 1097 = .ok (.ifCond .ne 15, 3) := by decide +kernel
theorem dL_law_1100 : decode cL_law 1100 = .ok (.aload_n 3, 1) := by decide +kernel
theorem dL_law_1101 : decode cL_law 1101 = .ok (.iconst 0, 1) := by decide +kernel
theorem dL_law_1102 : decode cL_law 1102 = .ok (.laload, 1) := by decide +kernel
theorem dL_law_1103 : decode cL_law 1103 = .ok (.iload 6, 2) := by decide +kernel
theorem dL_law_1105 : decode cL_law 1105 = .ok (.i2l, 1) := by decide +kernel
theorem dL_law_1106 : decode cL_law 1106 = .ok (.lcmp, 1) := by decide +kernel
theorem dL_law_1107 : decode cL_law 1107 = .ok (.ifCond .eq 5, 3) := by decide +kernel
theorem dL_law_1110 : decode cL_law 1110 = .ok (.iconst 0, 1) := by decide +kernel
theorem dL_law_1111 : decode cL_law 1111 = .ok (.ireturn, 1) := by decide +kernel
theorem dL_law_1112 : decode cL_law 1112 = .ok (.goto 140, 3) := by decide +kernel
theorem dL_law_1115 : decode cL_law 1115 = .ok (.aload_n 1, 1) := by decide +kernel
theorem dL_law_1116 : decode cL_law 1116 = .ok (.aload_n 0, 1) := by decide +kernel
theorem dL_law_1117 : decode cL_law 1117 = .ok (.iload 4, 2) := by decide +kernel
theorem dL_law_1119 : decode cL_law 1119 = .ok (.iconst 1, 1) := by decide +kernel
theorem dL_law_1120 : decode cL_law 1120 = .ok (.iadd, 1) := by decide +kernel
theorem dL_law_1121 : decode cL_law 1121 = .ok (.iaload, 1) := by decide +kernel
theorem dL_law_1122 : decode cL_law 1122 = .ok (.aload_n 3, 1) := by decide +kernel
theorem dL_law_1123 : decode cL_law 1123 = .ok (.invokestatic 137, 3) := by decide +kernel
theorem dL_law_1126 : decode cL_law 1126 = .ok (.istore 5, 2) := by decide +kernel
theorem dL_law_1128 : decode cL_law 1128 = .ok (.aload_n 2, 1) := by decide +kernel
theorem dL_law_1129 : decode cL_law 1129 = .ok (.aload_n 0, 1) := by decide +kernel
theorem dL_law_1130 : decode cL_law 1130 = .ok (.iload 4, 2) := by decide +kernel
theorem dL_law_1132 : decode cL_law 1132 = .ok (.iconst 1, 1) := by decide +kernel
theorem dL_law_1133 : decode cL_law 1133 = .ok (.iadd, 1) := by decide +kernel
theorem dL_law_1134 : decode cL_law 1134 = .ok (.iaload, 1) := by decide +kernel
theorem dL_law_1135 : decode cL_law 1135 = .ok (.invokevirtual 139, 3) := by decide +kernel
theorem dL_law_1138 : decode cL_law 1138 = .ok (.istore 6, 2) := by decide +kernel
theorem dL_law_1140 : decode cL_law 1140 = .ok (.aload_n 2, 1) := by decide +kernel
theorem dL_law_1141 : decode cL_law 1141 = .ok (.invokevirtual 90, 3) := by decide +kernel
theorem dL_law_1144 : decode cL_law 1144 = .ok (.iload 5, 2) := by decide +kernel
theorem dL_law_1146 : decode cL_law 1146 = .ok (.if_icmp .eq 5, 3) := by decide +kernel
theorem dL_law_1149 : decode cL_law 1149 = .ok (.iconst 0, 1) := by decide +kernel
theorem dL_law_1150 : decode cL_law 1150 = .ok (.ireturn, 1) := by decide +kernel
theorem dL_law_1151 : decode cL_law 1151 = .ok (.iload 5, 2) := by decide +kernel
theorem dL_law_1153 : decode cL_law 1153 = .ok (.ifCond .ne 15, 3) := by decide +kernel
theorem dL_law_1156 : decode cL_law 1156 = .ok (.aload_n 3, 1) := by decide +kernel
theorem dL_law_1157 : decode cL_law 1157 = .ok (.iconst 0, 1) := by decide +kernel
theorem dL_law_1158 : decode cL_law 1158 = .ok (.laload, 1) := by decide +kernel
theorem dL_law_1159 : decode cL_law 1159 = .ok (.iload 6, 2) := by decide +kernel
theorem dL_law_1161 : decode cL_law 1161 = .ok (.i2l, 1) := by decide +kernel
theorem dL_law_1162 : decode cL_law 1162 = .ok (.lcmp, 1) := by decide +kernel
theorem dL_law_1163 : decode cL_law 1163 = .ok (.ifCond .eq 5, 3) := by decide +kernel
theorem dL_law_1166 : decode cL_law 1166 = .ok (.iconst 0, 1) := by decide +kernel
theorem dL_law_1167 : decode cL_law 1167 = .ok (.ireturn, 1) := by decide +kernel
theorem dL_law_1168 : decode cL_law 1168 = .ok (.goto 84, 3) := by decide +kernel
theorem dL_law_1171 : decode cL_law 1171 = .ok (.aload_n 1, 1) := by decide +kernel
theorem dL_law_1172 : decode cL_law 1172 = .ok (.aload_n 0, 1) := by decide +kernel
theorem dL_law_1173 : decode cL_law 1173 = .ok (.iload 4, 2) := by decide +kernel
theorem dL_law_1175 : decode cL_law 1175 = .ok (.iconst 1, 1) := by decide +kernel
theorem dL_law_1176 : decode cL_law 1176 = .ok (.iadd, 1) := by decide +kernel
theorem dL_law_1177 : decode cL_law 1177 = .ok (.iaload, 1) := by decide +kernel
theorem dL_law_1178 : decode cL_law 1178 = .ok (.aload_n 3, 1) := by decide +kernel
theorem dL_law_1179 : decode cL_law 1179 = .ok (.invokestatic 140, 3) := by decide +kernel
theorem dL_law_1182 : decode cL_law 1182 = .ok (.istore 5, 2) := by decide +kernel
theorem dL_law_1184 : decode cL_law 1184 = .ok (.aload_n 2, 1) := by decide +kernel
theorem dL_law_1185 : decode cL_law 1185 = .ok (.aload_n 0, 1) := by decide +kernel
theorem dL_law_1186 : decode cL_law 1186 = .ok (.iload 4, 2) := by decide +kernel
theorem dL_law_1188 : decode cL_law 1188 = .ok (.iconst 1, 1) := by decide +kernel
theorem dL_law_1189 : decode cL_law 1189 = .ok (.iadd, 1) := by decide +kernel
theorem dL_law_1190 : decode cL_law 1190 = .ok (.iaload, 1) := by decide +kernel
theorem dL_law_1191 : decode cL_law 1191 = .ok (.invokevirtual 142, 3) := by decide +kernel
theorem dL_law_1194 : decode cL_law 1194 = .ok (.istore 6, 2) := by decide +kernel
theorem dL_law_1196 : decode cL_law 1196 = .ok (.aload_n 2, 1) := by decide +kernel
theorem dL_law_1197 : decode cL_law 1197 = .ok (.invokevirtual 90, 3) := by decide +kernel
theorem dL_law_1200 : decode cL_law 1200 = .ok (.iload 5, 2) := by decide +kernel
theorem dL_law_1202 : decode cL_law 1202 = .ok (.if_icmp .eq 5, 3) := by decide +kernel
theorem dL_law_1205 : decode cL_law 1205 = .ok (.iconst 0, 1) := by decide +kernel
theorem dL_law_1206 : decode cL_law 1206 = .ok (.ireturn, 1) := by decide +kernel
theorem dL_law_1207 : decode cL_law 1207 = .ok (.iload 5, 2) := by decide +kernel
theorem dL_law_1209 : decode cL_law 1209 = .ok (.ifCond .ne 15, 3) := by decide +kernel
theorem dL_law_1212 : decode cL_law 1212 = .ok (.aload_n 3, 1) := by decide +kernel
theorem dL_law_1213 : decode cL_law 1213 = .ok (.iconst 0, 1) := by decide +kernel
theorem dL_law_1214 : decode cL_law 1214 = .ok (.laload, 1) := by decide +kernel
theorem dL_law_1215 : decode cL_law 1215 = .ok (.iload 6, 2) := by decide +kernel
theorem dL_law_1217 : decode cL_law 1217 = .ok (.i2l, 1) := by decide +kernel
theorem dL_law_1218 : decode cL_law 1218 = .ok (.lcmp, 1) := by decide +kernel
theorem dL_law_1219 : decode cL_law 1219 = .ok (.ifCond .eq 5, 3) := by decide +kernel
theorem dL_law_1222 : decode cL_law 1222 = .ok (.iconst 0, 1) := by decide +kernel
theorem dL_law_1223 : decode cL_law 1223 = .ok (.ireturn, 1) := by decide +kernel
theorem dL_law_1224 : decode cL_law 1224 = .ok (.goto 28, 3) := by decide +kernel
theorem dL_law_1227 : decode cL_law 1227 = .ok (.aload_n 1, 1) := by decide +kernel
theorem dL_law_1228 : decode cL_law 1228 = .ok (.aload_n 0, 1) := by decide +kernel
theorem dL_law_1229 : decode cL_law 1229 = .ok (.iload 4, 2) := by decide +kernel
theorem dL_law_1231 : decode cL_law 1231 = .ok (.iconst 1, 1) := by decide +kernel
theorem dL_law_1232 : decode cL_law 1232 = .ok (.iadd, 1) := by decide +kernel
theorem dL_law_1233 : decode cL_law 1233 = .ok (.iaload, 1) := by decide +kernel
theorem dL_law_1234 : decode cL_law 1234 = .ok (.invokevirtual 143, 3) := by decide +kernel
theorem dL_law_1237 : decode cL_law 1237 = .ok (.aload_n 2, 1) := by decide +kernel
theorem dL_law_1238 : decode cL_law 1238 = .ok (.aload_n 0, 1) := by decide +kernel
theorem dL_law_1239 : decode cL_law 1239 = .ok (.iload 4, 2) := by decide +kernel
theorem dL_law_1241 : decode cL_law 1241 = .ok (.iconst 1, 1) := by decide +kernel
theorem dL_law_1242 : decode cL_law 1242 = .ok (.iadd, 1) := by decide +kernel
theorem dL_law_1243 : decode cL_law 1243 = .ok (.iaload, 1) := by decide +kernel
theorem dL_law_1244 : decode cL_law 1244 = .ok (.invokevirtual 146, 3) := by decide +kernel
theorem dL_law_1247 : decode cL_law 1247 = .ok (.if_icmp .eq 5, 3) := by decide +kernel
theorem dL_law_1250 : decode cL_law 1250 = .ok (.iconst 0, 1) := by decide +kernel
theorem dL_law_1251 : decode cL_law 1251 = .ok (.ireturn, 1) := by decide +kernel
theorem dL_law_1252 : decode cL_law 1252 = .ok (.iinc 4 5, 3) := by decide +kernel
theorem dL_law_1255 : decode cL_law 1255 = .ok (.goto (-1212), 3) := by decide +kernel
theorem dL_law_1258 : decode cL_law 1258 = .ok (.iconst 1, 1) := by decide +kernel
theorem dL_law_1259 : decode cL_law 1259 = .ok (.ireturn, 1) := by decide +kernel
abbrev vwCl : List vw_C := [(RJ0, TJ0, 2), (RJx00060, TJx00060, 6), (RX0, TX0, 11), (RX1, TX1, 10), (RX2, TX2, 9), (RX3, TX3, 12), (RX4, TX4, 33)]
