theorem dX7_init_30 : decode cX7_init 30 = .ok (.iconst 3, 1) := by decide +kernel
theorem dX7_init_31 : decode cX7_init 31 = .ok (.putfield 19, 3) := by decide +kernel
theorem dX7_init_34 : decode cX7_init 34 = .ok (.aload_n 0, 1) := by decide +kernel
theorem dX7_init_35 : decode cX7_init 35 = .ok (.iconst 3, 1) := by decide +kernel
theorem dX7_init_36 : decode cX7_init 36 = .ok (.putfield 23, 3) := by decide +kernel
theorem dX7_init_39 : decode cX7_init 39 = .ok (.aload_n 0, 1) := by decide +kernel
theorem dX7_init_40 : decode cX7_init 40 = .ok (.bipush 7, 2) := by decide +kernel
theorem dX7_init_42 : decode cX7_init 42 = .ok (.newarray .int, 2) := by decide +kernel
theorem dX7_init_44 : decode cX7_init 44 = .ok (.putfield 26, 3) := by decide +kernel
theorem dX7_init_47 : decode cX7_init 47 = .ok (.aload_n 0, 1) := by decide +kernel
theorem dX7_init_48 : decode cX7_init 48 = .ok (.bipush 36, 2) := by decide +kernel
theorem dX7_init_50 : decode cX7_init 50 = .ok (.newarray .int, 2) := by decide +kernel
theorem dX7_init_52 : decode cX7_init 52 = .ok (.putfield 29, 3) := by decide +kernel
theorem dX7_init_55 : decode cX7_init 55 = .ok (.aload_n 0, 1) := by decide +kernel
theorem dX7_init_56 : decode cX7_init 56 = .ok (.bipush 41, 2) := by decide +kernel
theorem dX7_init_58 : decode cX7_init 58 = .ok (.newarray .int, 2) := by decide +kernel
theorem dX7_init_60 : decode cX7_init 60 = .ok (.putfield 32, 3) := by decide +kernel
theorem dX7_init_63 : decode cX7_init 63 = .ok (.aload_n 0, 1) := by decide +kernel
theorem dX7_init_64 : decode cX7_init 64 = .ok (.bipush 72, 2) := by decide +kernel
theorem dX7_init_66 : decode cX7_init 66 = .ok (.newarray .int, 2) := by decide +kernel
theorem dX7_init_68 : decode cX7_init 68 = .ok (.putfield 35, 3) := by decide +kernel
theorem dX7_init_71 : decode cX7_init 71 = .ok (.aload_n 0, 1) := by decide +kernel
theorem dX7_init_72 : decode cX7_init 72 = .ok (.iconst 2, 1) := by decide +kernel
theorem dX7_init_73 : decode cX7_init 73 = .ok (.newarray .boolean, 2) := by decide +kernel
theorem dX7_init_75 : decode cX7_init 75 = .ok (.putfield 38, 3) := by decide +kernel
theorem dX7_init_78 : decode cX7_init 78 = .ok (.aload_n 0, 1) := by decide +kernel
theorem dX7_init_79 : decode cX7_init 79 = .ok (.sipush 360, 3) := by decide +kernel
theorem dX7_init_82 : decode cX7_init 82 = .ok (.newarray .int, 2) := by decide +kernel
theorem dX7_init_84 : decode cX7_init 84 = .ok (.putfield 42, 3) := by decide +kernel
theorem dX7_init_87 : decode cX7_init 87 = .ok (.aload_n 0, 1) := by decide +kernel
theorem dX7_init_88 : decode cX7_init 88 = .ok (.bipush 10, 2) := by decide +kernel
theorem dX7_init_90 : decode cX7_init 90 = .ok (.newarray .int, 2) := by decide +kernel
theorem dX7_init_92 : decode cX7_init 92 = .ok (.putfield 45, 3) := by decide +kernel
theorem dX7_init_95 : decode cX7_init 95 = .ok (.aload_n 0, 1) := by decide +kernel
theorem dX7_init_96 : decode cX7_init 96 = .ok (.iconst (-1), 1) := by decide +kernel
theorem dX7_init_97 : decode cX7_init 97 = .ok (.putfield 48, 3) := by decide +kernel
theorem dX7_init_100 : decode cX7_init 100 = .ok (.aload_n 0, 1) := by decide +kernel
theorem dX7_init_101 : decode cX7_init 101 = .ok (.getfield 29, 3) := by decide +kernel
theorem dX7_init_104 : decode cX7_init 104 = .ok (.iconst 1, 1) := by decide +kernel
theorem dX7_init_105 : decode cX7_init 105 = .ok (.iconst 3, 1) := by decide +kernel
theorem dX7_init_106 : decode cX7_init 106 = .ok (.iastore, 1) := by decide +kernel
theorem dX7_init_107 : decode cX7_init 107 = .ok (.return_, 1) := by decide +kernel
theorem dX7_in_0 : decode cX7_in 0 = .ok (.iload_n 0, 1) := by decide +kernel
theorem dX7_in_1 : decode cX7_in 1 = .ok (.iload_n 1, 1) := by decide +kernel
theorem dX7_in_2 : decode cX7_in 2 = .ok (.if_icmp .lt 12, 3) := by decide +kernel
theorem dX7_in_5 : decode cX7_in 5 = .ok (.iload_n 0, 1) := by decide +kernel
theorem dX7_in_6 : decode cX7_in 6 = .ok (.iload_n 2, 1) := by decide +kernel
theorem dX7_in_7 : decode cX7_in 7 = .ok (.if_icmp .gt 7, 3) := by decide +kernel
theorem dX7_in_10 : decode cX7_in 10 = .ok (.iconst 1, 1) := by decide +kernel
theorem dX7_in_11 : decode cX7_in 11 = .ok (.goto 4, 3) := by decide +kernel
theorem dX7_in_14 : decode cX7_in 14 = .ok (.iconst 0, 1) := by decide +kernel
theorem dX7_in_15 : decode cX7_in 15 = .ok (.ireturn, 1) := by decide +kernel
theorem dX7_has_0 : decode cX7_has 0 = .ok (.iload_n 0, 1) := by decide +kernel
theorem dX7_has_1 : decode cX7_has 1 = .ok (.iload_n 1, 1) := by decide +kernel
theorem dX7_has_2 : decode cX7_has 2 = .ok (.ishr, 1) := by decide +kernel
theorem dX7_has_3 : decode cX7_has 3 = .ok (.iconst 1, 1) := by decide +kernel
theorem dX7_has_4 : decode cX7_has 4 = .ok (.iand, 1) := by decide +kernel
theorem dX7_has_5 : decode cX7_has 5 = .ok (.iconst 1, 1) := by decide +kernel
theorem dX7_has_6 : decode cX7_has 6 = .ok (.if_icmp .ne 7, 3) := by decide +kernel
theorem dX7_has_9 : decode cX7_has 9 = .ok (.iconst 1, 1) := by decide +kernel
theorem dX7_has_10 : decode cX7_has 10 = .ok (.goto 4, 3) := by decide +kernel
theorem dX7_has_13 : decode cX7_has 13 = .ok (.iconst 0, 1) := by decide +kernel
theorem dX7_has_14 : decode cX7_has 14 = .ok (.ireturn, 1) := by decide +kernel
set_option maxRecDepth 20000 in
theorem ggX7_isTree_X7_in : GoodIn wsX7_isTree wsX7_in := goodIn_r _ [5] (by decide +kernel) (by decide +kernel)
set_option maxRecDepth 20000 in
theorem gX7_isTree_X7_in : GoodIn wsX7_isTree (va_wsS RX7 51 yX7_in wsX7_in) := goodIn_app (goodIn_of _ (by decide +kernel)) ggX7_isTree_X7_in
theorem dX7_isTree_0 : decode cX7_isTree 0 = .ok (.iload_n 1, 1) := by decide +kernel
theorem dX7_isTree_1 : decode cX7_isTree 1 = .ok (.iconst 0, 1) := by decide +kernel
theorem dX7_isTree_2 : decode cX7_isTree 2 = .ok (.aload_n 0, 1) := by decide +kernel
theorem dX7_isTree_3 : decode cX7_isTree 3 = .ok (.getfield 29, 3) := by decide +kernel
theorem dX7_isTree_6 : decode cX7_isTree 6 = .ok (.iconst 3, 1) := by decide +kernel
theorem dX7_isTree_7 : decode cX7_isTree 7 = .ok (.iaload, 1) := by decide +kernel
theorem dX7_isTree_8 : decode cX7_isTree 8 = .ok (.iconst 1, 1) := by decide +kernel
theorem dX7_isTree_9 : decode cX7_isTree 9 = .ok (.isub, 1) := by decide +kernel
theorem dX7_isTree_10 : decode cX7_isTree 10 = .ok (.invokestatic 51, 3) := by decide +kernel
theorem dX7_isTree_13 : decode cX7_isTree 13 = .ok (.ireturn, 1) := by decide +kernel
set_option maxRecDepth 20000 in
theorem ggX7_isOne_X7_in : GoodIn wsX7_isOne wsX7_in := goodIn_r _ [5] (by decide +kernel) (by decide +kernel)
set_option maxRecDepth 20000 in
theorem gX7_isOne_X7_in : GoodIn wsX7_isOne (va_wsS RX7 51 yX7_in wsX7_in) := goodIn_app (goodIn_of _ (by decide +kernel)) ggX7_isOne_X7_in
theorem dX7_isOne_0 : decode cX7_isOne 0 = .ok (.iload_n 1, 1) := by decide +kernel
theorem dX7_isOne_1 : decode cX7_isOne 1 = .ok (.iconst 0, 1) := by decide +kernel
theorem dX7_isOne_2 : decode cX7_isOne 2 = .ok (.aload_n 0, 1) := by decide +kernel
theorem dX7_isOne_3 : decode cX7_isOne 3 = .ok (.getfield 55, 3) := by decide +kernel
theorem dX7_isOne_6 : decode cX7_isOne 6 = .ok (.iconst 1, 1) := by decide +kernel
theorem dX7_isOne_7 : decode cX7_isOne 7 = .ok (.isub, 1) := by decide +kernel
theorem dX7_isOne_8 : decode cX7_isOne 8 = .ok (.invokestatic 51, 3) := by decide +kernel
theorem dX7_isOne_11 : decode cX7_isOne 11 = .ok (.ireturn, 1) := by decide +kernel
set_option maxRecDepth 20000 in
theorem ggX7_isCell_X7_in : GoodIn wsX7_isCell wsX7_in := goodIn_r _ [6] (by decide +kernel) (by decide +kernel)
set_option maxRecDepth 20000 in
theorem gX7_isCell_X7_in : GoodIn wsX7_isCell (va_wsS RX7 51 yX7_in wsX7_in) := goodIn_app (goodIn_of _ (by decide +kernel)) ggX7_isCell_X7_in
theorem dX7_isCell_0 : decode cX7_isCell 0 = .ok (.iload_n 1, 1) := by decide +kernel
theorem dX7_isCell_1 : decode cX7_isCell 1 = .ok (.iconst 0, 1) := by decide +kernel
theorem dX7_isCell_2 : decode cX7_isCell 2 = .ok (.aload_n 0, 1) := by decide +kernel
theorem dX7_isCell_3 : decode cX7_isCell 3 = .ok (.getfield 19, 3) := by decide +kernel
theorem dX7_isCell_6 : decode cX7_isCell 6 = .ok (.aload_n 0, 1) := by decide +kernel
theorem dX7_isCell_7 : decode cX7_isCell 7 = .ok (.getfield 23, 3) := by decide +kernel
theorem dX7_isCell_10 : decode cX7_isCell 10 = .ok (.imul, 1) := by decide +kernel
theorem dX7_isCell_11 : decode cX7_isCell 11 = .ok (.iconst 1, 1) := by decide +kernel
theorem dX7_isCell_12 : decode cX7_isCell 12 = .ok (.isub, 1) := by decide +kernel
theorem dX7_isCell_13 : decode cX7_isCell 13 = .ok (.invokestatic 51, 3) := by decide +kernel
theorem dX7_isCell_16 : decode cX7_isCell 16 = .ok (.ireturn, 1) := by decide +kernel
set_option maxRecDepth 20000 in
theorem ggX7_type_X7_in : GoodIn wsX7_type wsX7_in := goodIn_r _ [6] (by decide +kernel) (by decide +kernel)
set_option maxRecDepth 20000 in
theorem gX7_type_X7_in : GoodIn wsX7_type (va_wsS RX7 51 yX7_in wsX7_in) := goodIn_app (goodIn_of _ (by decide +kernel)) ggX7_type_X7_in
theorem dX7_type_0 : decode cX7_type 0 = .ok (.iload_n 1, 1) := by decide +kernel
theorem dX7_type_1 : decode cX7_type 1 = .ok (.iconst 0, 1) := by decide +kernel
theorem dX7_type_2 : decode cX7_type 2 = .ok (.sipush 255, 3) := by decide +kernel
theorem dX7_type_5 : decode cX7_type 5 = .ok (.invokestatic 51, 3) := by decide +kernel
theorem dX7_type_8 : decode cX7_type 8 = .ok (.ifCond .ne 5, 3) := by decide +kernel
theorem dX7_type_11 : decode cX7_type 11 = .ok (.iconst (-1), 1) := by decide +kernel
theorem dX7_type_12 : decode cX7_type 12 = .ok (.ireturn, 1) := by decide +kernel
theorem dX7_type_13 : decode cX7_type 13 = .ok (.aload_n 0, 1) := by decide +kernel
theorem dX7_type_14 : decode cX7_type 14 = .ok (.getfield 58, 3) := by decide +kernel
theorem dX7_type_17 : decode cX7_type 17 = .ok (.sipush 200, 3) := by decide +kernel
theorem dX7_type_20 : decode cX7_type 20 = .ok (.if_icmp .ne 6, 3) := by decide +kernel
theorem dX7_type_23 : decode cX7_type 23 = .ok (.bipush (-3), 2) := by decide +kernel
theorem dX7_type_25 : decode cX7_type 25 = .ok (.ireturn, 1) := by decide +kernel
theorem dX7_type_26 : decode cX7_type 26 = .ok (.aload_n 0, 1) := by decide +kernel
theorem dX7_type_27 : decode cX7_type 27 = .ok (.getfield 7, 3) := by decide +kernel
theorem dX7_type_30 : decode cX7_type 30 = .ok (.aload_n 0, 1) := by decide +kernel
theorem dX7_type_31 : decode cX7_type 31 = .ok (.getfield 58, 3) := by decide +kernel
theorem dX7_type_34 : decode cX7_type 34 = .ok (.iload_n 1, 1) := by decide +kernel
theorem dX7_type_35 : decode cX7_type 35 = .ok (.iastore, 1) := by decide +kernel
theorem dX7_type_36 : decode cX7_type 36 = .ok (.aload_n 0, 1) := by decide +kernel
theorem dX7_type_37 : decode cX7_type 37 = .ok (.dup, 1) := by decide +kernel
theorem dX7_type_38 : decode cX7_type 38 = .ok (.getfield 58, 3) := by decide +kernel
theorem dX7_type_41 : decode cX7_type 41 = .ok (.iconst 1, 1) := by decide +kernel
theorem dX7_type_42 : decode cX7_type 42 = .ok (.iadd, 1) := by decide +kernel
theorem dX7_type_43 : decode cX7_type 43 = .ok (.putfield 58, 3) := by decide +kernel
theorem dX7_type_46 : decode cX7_type 46 = .ok (.aload_n 0, 1) := by decide +kernel
theorem dX7_type_47 : decode cX7_type 47 = .ok (.getfield 58, 3) := by decide +kernel
theorem dX7_type_50 : decode cX7_type 50 = .ok (.ireturn, 1) := by decide +kernel
theorem dX7_clear_0 : decode cX7_clear 0 = .ok (.aload_n 0, 1) := by decide +kernel
theorem dX7_clear_1 : decode cX7_clear 1 = .ok (.getfield 58, 3) := by decide +kernel
theorem dX7_clear_4 : decode cX7_clear 4 = .ok (.istore_n 1, 1) := by decide +kernel
theorem dX7_clear_5 : decode cX7_clear 5 = .ok (.aload_n 0, 1) := by decide +kernel
theorem dX7_clear_6 : decode cX7_clear 6 = .ok (.iconst 0, 1) := by decide +kernel
theorem dX7_clear_7 : decode cX7_clear 7 = .ok (.putfield 58, 3) := by decide +kernel
theorem dX7_clear_10 : decode cX7_clear 10 = .ok (.iload_n 1, 1) := by decide +kernel
theorem dX7_clear_11 : decode cX7_clear 11 = .ok (.ireturn, 1) := by decide +kernel
set_option maxRecDepth 20000 in
theorem ggX7_nextToken_X7_in : GoodIn wsX7_nextToken wsX7_in := goodIn_r _ [10] (by decide +kernel) (by decide +kernel)
set_option maxRecDepth 20000 in
theorem gX7_nextToken_X7_in : GoodIn wsX7_nextToken (va_wsS RX7 51 yX7_in wsX7_in) := goodIn_app (goodIn_of _ (by decide +kernel)) ggX7_nextToken_X7_in
theorem dX7_nextToken_0 : decode cX7_nextToken 0 = .ok (.aload_n 0, 1) := by decide +kernel
theorem dX7_nextToken_1 : decode cX7_nextToken 1 = .ok (.getfield 61, 3) := by decide +kernel
theorem dX7_nextToken_4 : decode cX7_nextToken 4 = .ok (.aload_n 0, 1) := by decide +kernel
theorem dX7_nextToken_5 : decode cX7_nextToken 5 = .ok (.getfield 58, 3) := by decide +kernel
theorem dX7_nextToken_8 : decode cX7_nextToken 8 = .ok (.if_icmp .ge 30, 3) := by decide +kernel
theorem dX7_nextToken_11 : decode cX7_nextToken 11 = .ok (.aload_n 0, 1) := by decide +kernel
theorem dX7_nextToken_12 : decode cX7_nextToken 12 = .ok (.getfield 7, 3) := by decide +kernel
theorem dX7_nextToken_15 : decode cX7_nextToken 15 = .ok (.aload_n 0, 1) := by decide +kernel
theorem dX7_nextToken_16 : decode cX7_nextToken 16 = .ok (.getfield 61, 3) := by decide +kernel
theorem dX7_nextToken_19 : decode cX7_nextToken 19 = .ok (.iaload, 1) := by decide +kernel
theorem dX7_nextToken_20 : decode cX7_nextToken 20 = .ok (.bipush 32, 2) := by decide +kernel
theorem dX7_nextToken_22 : decode cX7_nextToken 22 = .ok (.if_icmp .ne 16, 3) := by decide +kernel
theorem dX7_nextToken_25 : decode cX7_nextToken 25 = .ok (.aload_n 0, 1) := by decide +kernel
theorem dX7_nextToken_26 : decode cX7_nextToken 26 = .ok (.dup, 1) := by decide +kernel
theorem dX7_nextToken_27 : decode cX7_nextToken 27 = .ok (.getfield 61, 3) := by decide +kernel
theorem dX7_nextToken_30 : decode cX7_nextToken 30 = .ok (.iconst 1, 1) := by decide +kernel
theorem dX7_nextToken_31 : decode cX7_nextToken 31 = .ok (.iadd, 1) := by decide +kernel
theorem dX7_nextToken_32 : decode cX7_nextToken 32 = .ok (.putfield 61, 3) := by decide +kernel
theorem dX7_nextToken_35 : decode cX7_nextToken 35 = .ok (.goto (-35), 3) := by decide +kernel
theorem dX7_nextToken_38 : decode cX7_nextToken 38 = .ok (.aload_n 0, 1) := by decide +kernel
theorem dX7_nextToken_39 : decode cX7_nextToken 39 = .ok (.aload_n 0, 1) := by decide +kernel
theorem dX7_nextToken_40 : decode cX7_nextToken 40 = .ok (.getfield 61, 3) := by decide +kernel
theorem dX7_nextToken_43 : decode cX7_nextToken 43 = .ok (.putfield 64, 3) := by decide +kernel
theorem dX7_nextToken_46 : decode cX7_nextToken 46 = .ok (.aload_n 0, 1) := by decide +kernel
theorem dX7_nextToken_47 : decode cX7_nextToken 47 = .ok (.iconst 0, 1) := by decide +kernel
theorem dX7_nextToken_48 : decode cX7_nextToken 48 = .ok (.putfield 67, 3) := by decide +kernel
theorem dX7_nextToken_51 : decode cX7_nextToken 51 = .ok (.aload_n 0, 1) := by decide +kernel
theorem dX7_nextToken_52 : decode cX7_nextToken 52 = .ok (.getfield 61, 3) := by decide +kernel
theorem dX7_nextToken_55 : decode cX7_nextToken 55 = .ok (.aload_n 0, 1) := by decide +kernel
theorem dX7_nextToken_56 : decode cX7_nextToken 56 = .ok (.getfield 58, 3) := by decide +kernel
theorem dX7_nextToken_59 : decode cX7_nextToken 59 = .ok (.if_icmp .ne 12, 3) := by decide +kernel
theorem dX7_nextToken_62 : decode cX7_nextToken 62 = .ok (.aload_n 0, 1) := by decide +kernel
theorem dX7_nextToken_63 : decode cX7_nextToken 63 = .ok (.bipush (-2), 2) := by decide +kernel
theorem dX7_nextToken_65 : decode cX7_nextToken 65 = .ok (.putfield 70, 3) := by decide +kernel
theorem dX7_nextToken_68 : decode cX7_nextToken 68 = .ok (.goto 179, 3) := by decide +kernel
theorem dX7_nextToken_71 : decode cX7_nextToken 71 = .ok (.aload_n 0, 1) := by decide +kernel
theorem dX7_nextToken_72 : decode cX7_nextToken 72 = .ok (.getfield 7, 3) := by decide +kernel
theorem dX7_nextToken_75 : decode cX7_nextToken 75 = .ok (.aload_n 0, 1) := by decide +kernel
theorem dX7_nextToken_76 : decode cX7_nextToken 76 = .ok (.getfield 61, 3) := by decide +kernel
theorem dX7_nextToken_79 : decode cX7_nextToken 79 = .ok (.iaload, 1) := by decide +kernel
theorem dX7_nextToken_80 : decode cX7_nextToken 80 = .ok (.bipush 48, 2) := by decide +kernel
theorem dX7_nextToken_82 : decode cX7_nextToken 82 = .ok (.bipush 57, 2) := by decide +kernel
theorem dX7_nextToken_84 : decode cX7_nextToken 84 = .ok (.invokestatic 51, 3) := by decide +kernel
theorem dX7_nextToken_87 : decode cX7_nextToken 87 = .ok (.ifCond .eq 137, 3) := by decide +kernel
theorem dX7_nextToken_90 : decode cX7_nextToken 90 = .ok (.aload_n 0, 1) := by decide +kernel
theorem dX7_nextToken_91 : decode cX7_nextToken 91 = .ok (.getfield 61, 3) := by decide +kernel
theorem dX7_nextToken_94 : decode cX7_nextToken 94 = .ok (.aload_n 0, 1) := by decide +kernel
theorem dX7_nextToken_95 : decode cX7_nextToken 95 = .ok (.getfield 58, 3) := by decide +kernel
theorem dX7_nextToken_98 : decode cX7_nextToken 98 = .ok (.if_icmp .ge 77, 3) := by decide +kernel
theorem dX7_nextToken_101 : decode cX7_nextToken 101 = .ok (.aload_n 0, 1) := by decide +kernel
theorem dX7_nextToken_102 : decode cX7_nextToken 102 = .ok (.getfield 7, 3) := by decide +kernel
theorem dX7_nextToken_105 : decode cX7_nextToken 105 = .ok (.aload_n 0, 1) := by decide +kernel
theorem dX7_nextToken_106 : decode cX7_nextToken 106 = .ok (.getfield 61, 3) := by decide +kernel
theorem dX7_nextToken_109 : decode cX7_nextToken 109 = .ok (.iaload, 1) := by decide +kernel
theorem dX7_nextToken_110 : decode cX7_nextToken 110 = .ok (.bipush 48, 2) := by decide +kernel
theorem dX7_nextToken_112 : decode cX7_nextToken 112 = .ok (.bipush 57, 2) := by decide +kernel
theorem dX7_nextToken_114 : decode cX7_nextToken 114 = .ok (.invokestatic 51, 3) := by decide +kernel
theorem dX7_nextToken_117 : decode cX7_nextToken 117 = .ok (.ifCond .eq 58, 3) := by decide +kernel
theorem dX7_nextToken_120 : decode cX7_nextToken 120 = .ok (.aload_n 0, 1) := by decide +kernel
theorem dX7_nextToken_121 : decode cX7_nextToken 121 = .ok (.aload_n 0, 1) := by decide +kernel
theorem dX7_nextToken_122 : decode cX7_nextToken 122 = .ok (.getfield 61, 3) := by decide +kernel
theorem dX7_nextToken_125 : decode cX7_nextToken 125 = .ok (.aload_n 0, 1) := by decide +kernel
theorem dX7_nextToken_126 : decode cX7_nextToken 126 = .ok (.getfield 64, 3) := by decide +kernel
theorem dX7_nextToken_129 : decode cX7_nextToken 129 = .ok (.isub, 1) := by decide +kernel
theorem dX7_nextToken_130 : decode cX7_nextToken 130 = .ok (.iconst 2, 1) := by decide +kernel
theorem dX7_nextToken_131 : decode cX7_nextToken 131 = .ok (.if_icmp .ge 26, 3) := by decide +kernel
theorem dX7_nextToken_134 : decode cX7_nextToken 134 = .ok (.bipush 10, 2) := by decide +kernel
theorem dX7_nextToken_136 : decode cX7_nextToken 136 = .ok (.aload_n 0, 1) := by decide +kernel
theorem dX7_nextToken_137 : decode cX7_nextToken 137 = .ok (.getfield 67, 3) := by decide +kernel
theorem dX7_nextToken_140 : decode cX7_nextToken 140 = .ok (.imul, 1) := by decide +kernel
theorem dX7_nextToken_141 : decode cX7_nextToken 141 = .ok (.aload_n 0, 1) := by decide +kernel
theorem dX7_nextToken_142 : decode cX7_nextToken 142 = .ok (.getfield 7, 3) := by decide +kernel
theorem dX7_nextToken_145 : decode cX7_nextToken 145 = .ok (.aload_n 0, 1) := by decide +kernel
theorem dX7_nextToken_146 : decode cX7_nextToken 146 = .ok (.getfield 61, 3) := by decide +kernel
theorem dX7_nextToken_149 : decode cX7_nextToken 149 = .ok (.iaload, 1) := by decide +kernel
theorem dX7_nextToken_150 : decode cX7_nextToken 150 = .ok (.iadd, 1) := by decide +kernel
theorem dX7_nextToken_151 : decode cX7_nextToken 151 = .ok (.bipush 48, 2) := by decide +kernel
theorem dX7_nextToken_153 : decode cX7_nextToken 153 = .ok (.isub, 1) := by decide +kernel
theorem dX7_nextToken_154 : decode cX7_nextToken 154 = .ok (.goto 5, 3) := by decide +kernel
theorem dX7_nextToken_157 : decode cX7_nextToken 157 = .ok (.bipush 100, 2) := by decide +kernel
theorem dX7_nextToken_159 : decode cX7_nextToken 159 = .ok (.putfield 67, 3) := by decide +kernel
theorem dX7_nextToken_162 : decode cX7_nextToken 162 = .ok (.aload_n 0, 1) := by decide +kernel
theorem dX7_nextToken_163 : decode cX7_nextToken 163 = .ok (.dup, 1) := by decide +kernel
theorem dX7_nextToken_164 : decode cX7_nextToken 164 = .ok (.getfield 61, 3) := by decide +kernel
theorem dX7_nextToken_167 : decode cX7_nextToken 167 = .ok (.iconst 1, 1) := by decide +kernel
theorem dX7_nextToken_168 : decode cX7_nextToken 168 = .ok (.iadd, 1) := by decide +kernel
theorem dX7_nextToken_169 : decode cX7_nextToken 169 = .ok (.putfield 61, 3) := by decide +kernel
theorem dX7_nextToken_172 : decode cX7_nextToken 172 = .ok (.goto (-82), 3) := by decide +kernel
theorem dX7_nextToken_175 : decode cX7_nextToken 175 = .ok (.aload_n 0, 1) := by decide +kernel
theorem dX7_nextToken_176 : decode cX7_nextToken 176 = .ok (.aload_n 0, 1) := by decide +kernel
theorem dX7_nextToken_177 : decode cX7_nextToken 177 = .ok (.getfield 61, 3) := by decide +kernel
theorem dX7_nextToken_180 : decode cX7_nextToken 180 = .ok (.aload_n 0, 1) := by decide +kernel
theorem dX7_nextToken_181 : decode cX7_nextToken 181 = .ok (.getfield 64, 3) := by decide +kernel
theorem dX7_nextToken_184 : decode cX7_nextToken 184 = .ok (.isub, 1) := by decide +kernel
theorem dX7_nextToken_185 : decode cX7_nextToken 185 = .ok (.iconst 1, 1) := by decide +kernel
theorem dX7_nextToken_186 : decode cX7_nextToken 186 = .ok (.if_icmp .le 17, 3) := by decide +kernel
theorem dX7_nextToken_189 : decode cX7_nextToken 189 = .ok (.aload_n 0, 1) := by decide +kernel
theorem dX7_nextToken_190 : decode cX7_nextToken 190 = .ok (.getfield 7, 3) := by decide +kernel
theorem dX7_nextToken_193 : decode cX7_nextToken 193 = .ok (.aload_n 0, 1) := by decide +kernel
theorem dX7_nextToken_194 : decode cX7_nextToken 194 = .ok (.getfield 64, 3) := by decide +kernel
theorem dX7_nextToken_197 : decode cX7_nextToken 197 = .ok (.iaload, 1) := by decide +kernel
theorem dX7_nextToken_198 : decode cX7_nextToken 198 = .ok (.bipush 48, 2) := by decide +kernel
theorem dX7_nextToken_200 : decode cX7_nextToken 200 = .ok (.if_icmp .eq 12, 3) := by decide +kernel
theorem dX7_nextToken_203 : decode cX7_nextToken 203 = .ok (.aload_n 0, 1) := by decide +kernel
theorem dX7_nextToken_204 : decode cX7_nextToken 204 = .ok (.getfield 67, 3) := by decide +kernel
theorem dX7_nextToken_207 : decode cX7_nextToken 207 = .ok (.bipush 20, 2) := by decide +kernel
theorem dX7_nextToken_209 : decode cX7_nextToken 209 = .ok (.if_icmp .le 8, 3) := by decide +kernel
theorem dX7_nextToken_212 : decode cX7_nextToken 212 = .ok (.bipush (-3), 2) := by decide +kernel
theorem dX7_nextToken_214 : decode cX7_nextToken 214 = .ok (.goto 4, 3) := by decide +kernel
theorem dX7_nextToken_217 : decode cX7_nextToken 217 = .ok (.iconst (-1), 1) := by decide +kernel
theorem dX7_nextToken_218 : decode cX7_nextToken 218 = .ok (.putfield 70, 3) := by decide +kernel
theorem dX7_nextToken_221 : decode cX7_nextToken 221 = .ok (.goto 26, 3) := by decide +kernel
theorem dX7_nextToken_224 : decode cX7_nextToken 224 = .ok (.aload_n 0, 1) := by decide +kernel
theorem dX7_nextToken_225 : decode cX7_nextToken 225 = .ok (.aload_n 0, 1) := by decide +kernel
theorem dX7_nextToken_226 : decode cX7_nextToken 226 = .ok (.getfield 7, 3) := by decide +kernel
theorem dX7_nextToken_229 : decode cX7_nextToken 229 = .ok (.aload_n 0, 1) := by decide +kernel
theorem dX7_nextToken_230 : decode cX7_nextToken 230 = .ok (.getfield 61, 3) := by decide +kernel
theorem dX7_nextToken_233 : decode cX7_nextToken 233 = .ok (.iaload, 1) := by decide +kernel
theorem dX7_nextToken_234 : decode cX7_nextToken 234 = .ok (.putfield 70, 3) := by decide +kernel
theorem dX7_nextToken_237 : decode cX7_nextToken 237 = .ok (.aload_n 0, 1) := by decide +kernel
theorem dX7_nextToken_238 : decode cX7_nextToken 238 = .ok (.dup, 1) := by decide +kernel
theorem dX7_nextToken_239 : decode cX7_nextToken 239 = .ok (.getfield 61, 3) := by decide +kernel
theorem dX7_nextToken_242 : decode cX7_nextToken 242 = .ok (.iconst 1, 1) := by decide +kernel
theorem dX7_nextToken_243 : decode cX7_nextToken 243 = .ok (.iadd, 1) := by decide +kernel
theorem dX7_nextToken_244 : decode cX7_nextToken 244 = .ok (.putfield 61, 3) := by decide +kernel
theorem dX7_nextToken_247 : decode cX7_nextToken 247 = .ok (.return_, 1) := by decide +kernel
set_option maxRecDepth 20000 in
theorem ggX7_isNumber_X7_nextToken : GoodIn wsX7_isNumber wsX7_nextToken := goodIn_r _ [7, 8, 9, 10, 11, 2, 1, 12, 13, 6, 14, 15, 16, 17, 18, 19, 20, 21, 22, 23, 24, 25, 26, 27, 28, 29, 30, 31, 32, 33, 34, 35, 36, 37, 38, 39, 40, 41, 42, 43] (by decide +kernel) (by decide +kernel)
set_option maxRecDepth 20000 in
theorem gX7_isNumber_X7_nextToken : GoodIn wsX7_isNumber (wsV RX7 73 RX7 yX7_nextToken wsX7_nextToken) := goodIn_app (goodIn_of _ (by decide +kernel)) ggX7_isNumber_X7_nextToken
set_option maxRecDepth 20000 in
theorem ggX7_isNumber_X7_in : GoodIn wsX7_isNumber wsX7_in := goodIn_r _ [14] (by decide +kernel) (by decide +kernel)
set_option maxRecDepth 20000 in
theorem gX7_isNumber_X7_in : GoodIn wsX7_isNumber (va_wsS RX7 51 yX7_in wsX7_in) := goodIn_app (goodIn_of _ (by decide +kernel)) ggX7_isNumber_X7_in
theorem dX7_isNumber_0 : decode cX7_isNumber 0 = .ok (.aload_n 0, 1) := by decide +kernel
theorem dX7_isNumber_1 : decode cX7_isNumber 1 = .ok (.invokevirtual 73, 3) := by decide +kernel
theorem dX7_isNumber_4 : decode cX7_isNumber 4 = .ok (.aload_n 0, 1) := by decide +kernel
theorem dX7_isNumber_5 : decode cX7_isNumber 5 = .ok (.getfield 70, 3) := by decide +kernel
theorem dX7_isNumber_8 : decode cX7_isNumber 8 = .ok (.iconst (-1), 1) := by decide +kernel
theorem dX7_isNumber_9 : decode cX7_isNumber 9 = .ok (.if_icmp .ne 19, 3) := by decide +kernel
theorem dX7_isNumber_12 : decode cX7_isNumber 12 = .ok (.aload_n 0, 1) := by decide +kernel
theorem dX7_isNumber_13 : decode cX7_isNumber 13 = .ok (.getfield 67, 3) := by decide +kernel
theorem dX7_isNumber_16 : decode cX7_isNumber 16 = .ok (.iload_n 1, 1) := by decide +kernel
theorem dX7_isNumber_17 : decode cX7_isNumber 17 = .ok (.iload_n 2, 1) := by decide +kernel
theorem dX7_isNumber_18 : decode cX7_isNumber 18 = .ok (.invokestatic 51, 3) := by decide +kernel
theorem dX7_isNumber_21 : decode cX7_isNumber 21 = .ok (.ifCond .eq 7, 3) := by decide +kernel
theorem dX7_isNumber_24 : decode cX7_isNumber 24 = .ok (.iconst 1, 1) := by decide +kernel
theorem dX7_isNumber_25 : decode cX7_isNumber 25 = .ok (.goto 4, 3) := by decide +kernel
theorem dX7_isNumber_28 : decode cX7_isNumber 28 = .ok (.iconst 0, 1) := by decide +kernel
theorem dX7_isNumber_29 : decode cX7_isNumber 29 = .ok (.ireturn, 1) := by decide +kernel
set_option maxRecDepth 20000 in
theorem ggX7_isEnd_X7_nextToken : GoodIn wsX7_isEnd wsX7_nextToken := goodIn_r _ [6, 7, 8, 9, 10, 11, 1, 12, 13, 5, 14, 15, 16, 17, 18, 19, 20, 21, 22, 23, 24, 25, 26, 27, 28, 29, 30, 31, 32, 33, 34, 35, 36, 37, 38, 39, 40, 41, 42, 43] (by decide +kernel) (by decide +kernel)
set_option maxRecDepth 20000 in
theorem gX7_isEnd_X7_nextToken : GoodIn wsX7_isEnd (wsV RX7 73 RX7 yX7_nextToken wsX7_nextToken) := goodIn_app (goodIn_of _ (by decide +kernel)) ggX7_isEnd_X7_nextToken
theorem dX7_isEnd_0 : decode cX7_isEnd 0 = .ok (.aload_n 0, 1) := by decide +kernel
theorem dX7_isEnd_1 : decode cX7_isEnd 1 = .ok (.invokevirtual 73, 3) := by decide +kernel
theorem dX7_isEnd_4 : decode cX7_isEnd 4 = .ok (.aload_n 0, 1) := by decide +kernel
theorem dX7_isEnd_5 : decode cX7_isEnd 5 = .ok (.getfield 70, 3) := by decide +kernel
theorem dX7_isEnd_8 : decode cX7_isEnd 8 = .ok (.bipush 59, 2) := by decide +kernel
theorem dX7_isEnd_10 : decode cX7_isEnd 10 = .ok (.if_icmp .ne 7, 3) := by decide +kernel
theorem dX7_isEnd_13 : decode cX7_isEnd 13 = .ok (.iconst 1, 1) := by decide +kernel
theorem dX7_isEnd_14 : decode cX7_isEnd 14 = .ok (.goto 4, 3) := by decide +kernel
theorem dX7_isEnd_17 : decode cX7_isEnd 17 = .ok (.iconst 0, 1) := by decide +kernel
theorem dX7_isEnd_18 : decode cX7_isEnd 18 = .ok (.ireturn, 1) := by decide +kernel
set_option maxRecDepth 20000 in
theorem ggX7_isLand_X7_isNumber : GoodIn wsX7_isLand wsX7_isNumber := goodIn_r _ [8, 9, 1, 10, 11, 12, 7, 13, 14, 15, 16, 17, 18, 19, 20, 25, 26, 27, 28, 29, 30, 31, 32, 33, 34, 35, 36, 37, 38, 39, 40, 41, 42, 43, 44, 45, 46, 47, 48, 49, 50, 51, 52, 53] (by decide +kernel) (by decide +kernel)
set_option maxRecDepth 20000 in
theorem gX7_isLand_X7_isNumber : GoodIn wsX7_isLand (wsV RX7 76 RX7 yX7_isNumber wsX7_isNumber) := goodIn_app (goodIn_of _ (by decide +kernel)) ggX7_isLand_X7_isNumber
set_option maxRecDepth 20000 in
theorem ggX7_isLand_X7_isEnd : GoodIn wsX7_isLand wsX7_isEnd := goodIn_r _ [24, 9, 10, 11, 12, 7, 13, 14, 15, 16, 17, 1, 18, 19, 20, 25, 26, 27, 28, 29, 30, 31, 32, 33, 34, 35, 36, 37, 38, 39, 40, 41, 42, 43, 44, 45, 46, 47, 48, 49, 50, 51, 52, 53] (by decide +kernel) (by decide +kernel)
set_option maxRecDepth 20000 in
theorem gX7_isLand_X7_isEnd : GoodIn wsX7_isLand (wsV RX7 86 RX7 yX7_isEnd wsX7_isEnd) := goodIn_app (goodIn_of _ (by decide +kernel)) ggX7_isLand_X7_isEnd
theorem dX7_isLand_0 : decode cX7_isLand 0 = .ok (.aload_n 0, 1) := by decide +kernel
theorem dX7_isLand_1 : decode cX7_isLand 1 = .ok (.iconst 2, 1) := by decide +kernel
theorem dX7_isLand_2 : decode cX7_isLand 2 = .ok (.iconst 5, 1) := by decide +kernel
theorem dX7_isLand_3 : decode cX7_isLand 3 = .ok (.invokevirtual 76, 3) := by decide +kernel
theorem dX7_isLand_6 : decode cX7_isLand 6 = .ok (.ifCond .ne 5, 3) := by decide +kernel
theorem dX7_isLand_9 : decode cX7_isLand 9 = .ok (.iconst 0, 1) := by decide +kernel
theorem dX7_isLand_10 : decode cX7_isLand 10 = .ok (.ireturn, 1) := by decide +kernel
theorem dX7_isLand_11 : decode cX7_isLand 11 = .ok (.aload_n 0, 1) := by decide +kernel
theorem dX7_isLand_12 : decode cX7_isLand 12 = .ok (.aload_n 0, 1) := by decide +kernel
theorem dX7_isLand_13 : decode cX7_isLand 13 = .ok (.getfield 67, 3) := by decide +kernel
theorem dX7_isLand_16 : decode cX7_isLand 16 = .ok (.putfield 80, 3) := by decide +kernel
theorem dX7_isLand_19 : decode cX7_isLand 19 = .ok (.aload_n 0, 1) := by decide +kernel
theorem dX7_isLand_20 : decode cX7_isLand 20 = .ok (.iconst 2, 1) := by decide +kernel
theorem dX7_isLand_21 : decode cX7_isLand 21 = .ok (.iconst 4, 1) := by decide +kernel
theorem dX7_isLand_22 : decode cX7_isLand 22 = .ok (.invokevirtual 76, 3) := by decide +kernel
theorem dX7_isLand_25 : decode cX7_isLand 25 = .ok (.ifCond .ne 5, 3) := by decide +kernel
theorem dX7_isLand_28 : decode cX7_isLand 28 = .ok (.iconst 0, 1) := by decide +kernel
theorem dX7_isLand_29 : decode cX7_isLand 29 = .ok (.ireturn, 1) := by decide +kernel
theorem dX7_isLand_30 : decode cX7_isLand 30 = .ok (.aload_n 0, 1) := by decide +kernel
theorem dX7_isLand_31 : decode cX7_isLand 31 = .ok (.aload_n 0, 1) := by decide +kernel
theorem dX7_isLand_32 : decode cX7_isLand 32 = .ok (.getfield 67, 3) := by decide +kernel
theorem dX7_isLand_35 : decode cX7_isLand 35 = .ok (.putfield 83, 3) := by decide +kernel
theorem dX7_isLand_38 : decode cX7_isLand 38 = .ok (.aload_n 0, 1) := by decide +kernel
theorem dX7_isLand_39 : decode cX7_isLand 39 = .ok (.invokevirtual 86, 3) := by decide +kernel
theorem dX7_isLand_42 : decode cX7_isLand 42 = .ok (.ireturn, 1) := by decide +kernel
set_option maxRecDepth 20000 in
theorem ggX7_isTreeItem_X7_isNumber : GoodIn wsX7_isTreeItem wsX7_isNumber := goodIn_r _ [9, 10, 4, 11, 12, 13, 8, 14, 15, 16, 17, 18, 19, 20, 21, 26, 27, 28, 29, 30, 31, 32, 33, 34, 35, 36, 37, 38, 39, 40, 41, 42, 43, 44, 45, 46, 47, 48, 49, 50, 51, 52, 53, 54] (by decide +kernel) (by decide +kernel)
set_option maxRecDepth 20000 in
theorem gX7_isTreeItem_X7_isNumber : GoodIn wsX7_isTreeItem (wsV RX7 76 RX7 yX7_isNumber wsX7_isNumber) := goodIn_app (goodIn_of _ (by decide +kernel)) ggX7_isTreeItem_X7_isNumber
set_option maxRecDepth 20000 in
theorem ggX7_isTreeItem_X7_isEnd : GoodIn wsX7_isTreeItem wsX7_isEnd := goodIn_r _ [25, 10, 11, 12, 13, 8, 14, 15, 16, 17, 18, 4, 19, 20, 21, 26, 27, 28, 29, 30, 31, 32, 33, 34, 35, 36, 37, 38, 39, 40, 41, 42, 43, 44, 45, 46, 47, 48, 49, 50, 51, 52, 53, 54] (by decide +kernel) (by decide +kernel)
set_option maxRecDepth 20000 in
theorem gX7_isTreeItem_X7_isEnd : GoodIn wsX7_isTreeItem (wsV RX7 86 RX7 yX7_isEnd wsX7_isEnd) := goodIn_app (goodIn_of _ (by decide +kernel)) ggX7_isTreeItem_X7_isEnd
theorem dX7_isTreeItem_0 : decode cX7_isTreeItem 0 = .ok (.aload_n 0, 1) := by decide +kernel
theorem dX7_isTreeItem_1 : decode cX7_isTreeItem 1 = .ok (.getfield 16, 3) := by decide +kernel
theorem dX7_isTreeItem_4 : decode cX7_isTreeItem 4 = .ok (.iconst 3, 1) := by decide +kernel
theorem dX7_isTreeItem_5 : decode cX7_isTreeItem 5 = .ok (.iaload, 1) := by decide +kernel
theorem dX7_isTreeItem_6 : decode cX7_isTreeItem 6 = .ok (.istore_n 1, 1) := by decide +kernel
theorem dX7_isTreeItem_7 : decode cX7_isTreeItem 7 = .ok (.iload_n 1, 1) := by decide +kernel
theorem dX7_isTreeItem_8 : decode cX7_isTreeItem 8 = .ok (.iconst 5, 1) := by decide +kernel
theorem dX7_isTreeItem_9 : decode cX7_isTreeItem 9 = .ok (.if_icmp .eq 22, 3) := by decide +kernel
theorem dX7_isTreeItem_12 : decode cX7_isTreeItem 12 = .ok (.aload_n 0, 1) := by decide +kernel
theorem dX7_isTreeItem_13 : decode cX7_isTreeItem 13 = .ok (.iconst 0, 1) := by decide +kernel
theorem dX7_isTreeItem_14 : decode cX7_isTreeItem 14 = .ok (.aload_n 0, 1) := by decide +kernel
theorem dX7_isTreeItem_15 : decode cX7_isTreeItem 15 = .ok (.getfield 80, 3) := by decide +kernel
theorem dX7_isTreeItem_18 : decode cX7_isTreeItem 18 = .ok (.aload_n 0, 1) := by decide +kernel
theorem dX7_isTreeItem_19 : decode cX7_isTreeItem 19 = .ok (.getfield 83, 3) := by decide +kernel
theorem dX7_isTreeItem_22 : decode cX7_isTreeItem 22 = .ok (.imul, 1) := by decide +kernel
theorem dX7_isTreeItem_23 : decode cX7_isTreeItem 23 = .ok (.iconst 1, 1) := by decide +kernel
theorem dX7_isTreeItem_24 : decode cX7_isTreeItem 24 = .ok (.isub, 1) := by decide +kernel
theorem dX7_isTreeItem_25 : decode cX7_isTreeItem 25 = .ok (.invokevirtual 76, 3) := by decide +kernel
theorem dX7_isTreeItem_28 : decode cX7_isTreeItem 28 = .ok (.ifCond .ne 5, 3) := by decide +kernel
theorem dX7_isTreeItem_31 : decode cX7_isTreeItem 31 = .ok (.iconst 0, 1) := by decide +kernel
theorem dX7_isTreeItem_32 : decode cX7_isTreeItem 32 = .ok (.ireturn, 1) := by decide +kernel
theorem dX7_isTreeItem_33 : decode cX7_isTreeItem 33 = .ok (.iconst 0, 1) := by decide +kernel
theorem dX7_isTreeItem_34 : decode cX7_isTreeItem 34 = .ok (.istore_n 2, 1) := by decide +kernel
theorem dX7_isTreeItem_35 : decode cX7_isTreeItem 35 = .ok (.iload_n 2, 1) := by decide +kernel
theorem dX7_isTreeItem_36 : decode cX7_isTreeItem 36 = .ok (.iload_n 1, 1) := by decide +kernel
theorem dX7_isTreeItem_37 : decode cX7_isTreeItem 37 = .ok (.if_icmp .ge 26, 3) := by decide +kernel
theorem dX7_isTreeItem_40 : decode cX7_isTreeItem 40 = .ok (.aload_n 0, 1) := by decide +kernel
theorem dX7_isTreeItem_41 : decode cX7_isTreeItem 41 = .ok (.getfield 16, 3) := by decide +kernel
theorem dX7_isTreeItem_44 : decode cX7_isTreeItem 44 = .ok (.iconst 4, 1) := by decide +kernel
theorem dX7_isTreeItem_45 : decode cX7_isTreeItem 45 = .ok (.iload_n 2, 1) := by decide +kernel
theorem dX7_isTreeItem_46 : decode cX7_isTreeItem 46 = .ok (.iadd, 1) := by decide +kernel
theorem dX7_isTreeItem_47 : decode cX7_isTreeItem 47 = .ok (.iaload, 1) := by decide +kernel
theorem dX7_isTreeItem_48 : decode cX7_isTreeItem 48 = .ok (.aload_n 0, 1) := by decide +kernel
theorem dX7_isTreeItem_49 : decode cX7_isTreeItem 49 = .ok (.getfield 67, 3) := by decide +kernel
theorem dX7_isTreeItem_52 : decode cX7_isTreeItem 52 = .ok (.if_icmp .ne 5, 3) := by decide +kernel
theorem dX7_isTreeItem_55 : decode cX7_isTreeItem 55 = .ok (.iconst 0, 1) := by decide +kernel
theorem dX7_isTreeItem_56 : decode cX7_isTreeItem 56 = .ok (.ireturn, 1) := by decide +kernel
theorem dX7_isTreeItem_57 : decode cX7_isTreeItem 57 = .ok (.iinc 2 1, 3) := by decide +kernel
theorem dX7_isTreeItem_60 : decode cX7_isTreeItem 60 = .ok (.goto (-25), 3) := by decide +kernel
theorem dX7_isTreeItem_63 : decode cX7_isTreeItem 63 = .ok (.aload_n 0, 1) := by decide +kernel
theorem dX7_isTreeItem_64 : decode cX7_isTreeItem 64 = .ok (.getfield 16, 3) := by decide +kernel
theorem dX7_isTreeItem_67 : decode cX7_isTreeItem 67 = .ok (.iconst 4, 1) := by decide +kernel
theorem dX7_isTreeItem_68 : decode cX7_isTreeItem 68 = .ok (.iload_n 1, 1) := by decide +kernel
theorem dX7_isTreeItem_69 : decode cX7_isTreeItem 69 = .ok (.iadd, 1) := by decide +kernel
theorem dX7_isTreeItem_70 : decode cX7_isTreeItem 70 = .ok (.aload_n 0, 1) := by decide +kernel
theorem dX7_isTreeItem_71 : decode cX7_isTreeItem 71 = .ok (.getfield 67, 3) := by decide +kernel
theorem dX7_isTreeItem_74 : decode cX7_isTreeItem 74 = .ok (.iastore, 1) := by decide +kernel
theorem dX7_isTreeItem_75 : decode cX7_isTreeItem 75 = .ok (.iconst 1, 1) := by decide +kernel
theorem dX7_isTreeItem_76 : decode cX7_isTreeItem 76 = .ok (.istore_n 2, 1) := by decide +kernel
theorem dX7_isTreeItem_77 : decode cX7_isTreeItem 77 = .ok (.iload_n 2, 1) := by decide +kernel
theorem dX7_isTreeItem_78 : decode cX7_isTreeItem 78 = .ok (.iconst 4, 1) := by decide +kernel
theorem dX7_isTreeItem_79 : decode cX7_isTreeItem 79 = .ok (.if_icmp .ge 56, 3) := by decide +kernel
theorem dX7_isTreeItem_82 : decode cX7_isTreeItem 82 = .ok (.aload_n 0, 1) := by decide +kernel
theorem dX7_isTreeItem_83 : decode cX7_isTreeItem 83 = .ok (.iconst 0, 1) := by decide +kernel
theorem dX7_isTreeItem_84 : decode cX7_isTreeItem 84 = .ok (.iload_n 2, 1) := by decide +kernel
theorem dX7_isTreeItem_85 : decode cX7_isTreeItem 85 = .ok (.iconst 1, 1) := by decide +kernel
theorem dX7_isTreeItem_86 : decode cX7_isTreeItem 86 = .ok (.if_icmp .ne 8, 3) := by decide +kernel
theorem dX7_isTreeItem_89 : decode cX7_isTreeItem 89 = .ok (.bipush 20, 2) := by decide +kernel
theorem dX7_isTreeItem_91 : decode cX7_isTreeItem 91 = .ok (.goto 14, 3) := by decide +kernel
theorem dX7_isTreeItem_94 : decode cX7_isTreeItem 94 = .ok (.iload_n 2, 1) := by decide +kernel
theorem dX7_isTreeItem_95 : decode cX7_isTreeItem 95 = .ok (.iconst 2, 1) := by decide +kernel
theorem dX7_isTreeItem_96 : decode cX7_isTreeItem 96 = .ok (.if_icmp .ne 7, 3) := by decide +kernel
theorem dX7_isTreeItem_99 : decode cX7_isTreeItem 99 = .ok (.iconst 1, 1) := by decide +kernel
theorem dX7_isTreeItem_100 : decode cX7_isTreeItem 100 = .ok (.goto 5, 3) := by decide +kernel
theorem dX7_isTreeItem_103 : decode cX7_isTreeItem 103 = .ok (.bipush 7, 2) := by decide +kernel
theorem dX7_isTreeItem_105 : decode cX7_isTreeItem 105 = .ok (.invokevirtual 76, 3) := by decide +kernel
theorem dX7_isTreeItem_108 : decode cX7_isTreeItem 108 = .ok (.ifCond .ne 5, 3) := by decide +kernel
theorem dX7_isTreeItem_111 : decode cX7_isTreeItem 111 = .ok (.iconst 0, 1) := by decide +kernel
theorem dX7_isTreeItem_112 : decode cX7_isTreeItem 112 = .ok (.ireturn, 1) := by decide +kernel
theorem dX7_isTreeItem_113 : decode cX7_isTreeItem 113 = .ok (.aload_n 0, 1) := by decide +kernel
theorem dX7_isTreeItem_114 : decode cX7_isTreeItem 114 = .ok (.getfield 16, 3) := by decide +kernel
theorem dX7_isTreeItem_117 : decode cX7_isTreeItem 117 = .ok (.iconst 4, 1) := by decide +kernel
theorem dX7_isTreeItem_118 : decode cX7_isTreeItem 118 = .ok (.iconst 5, 1) := by decide +kernel
theorem dX7_isTreeItem_119 : decode cX7_isTreeItem 119 = .ok (.iload_n 2, 1) := by decide +kernel
theorem dX7_isTreeItem_120 : decode cX7_isTreeItem 120 = .ok (.imul, 1) := by decide +kernel
theorem dX7_isTreeItem_121 : decode cX7_isTreeItem 121 = .ok (.iadd, 1) := by decide +kernel
theorem dX7_isTreeItem_122 : decode cX7_isTreeItem 122 = .ok (.iload_n 1, 1) := by decide +kernel
theorem dX7_isTreeItem_123 : decode cX7_isTreeItem 123 = .ok (.iadd, 1) := by decide +kernel
theorem dX7_isTreeItem_124 : decode cX7_isTreeItem 124 = .ok (.aload_n 0, 1) := by decide +kernel
theorem dX7_isTreeItem_125 : decode cX7_isTreeItem 125 = .ok (.getfield 67, 3) := by decide +kernel
theorem dX7_isTreeItem_128 : decode cX7_isTreeItem 128 = .ok (.iastore, 1) := by decide +kernel
theorem dX7_isTreeItem_129 : decode cX7_isTreeItem 129 = .ok (.iinc 2 1, 3) := by decide +kernel
theorem dX7_isTreeItem_132 : decode cX7_isTreeItem 132 = .ok (.goto (-55), 3) := by decide +kernel
theorem dX7_isTreeItem_135 : decode cX7_isTreeItem 135 = .ok (.aload_n 0, 1) := by decide +kernel
theorem dX7_isTreeItem_136 : decode cX7_isTreeItem 136 = .ok (.getfield 16, 3) := by decide +kernel
theorem dX7_isTreeItem_139 : decode cX7_isTreeItem 139 = .ok (.iconst 3, 1) := by decide +kernel
theorem dX7_isTreeItem_140 : decode cX7_isTreeItem 140 = .ok (.dup2, 1) := by decide +kernel
theorem dX7_isTreeItem_141 : decode cX7_isTreeItem 141 = .ok (.iaload, 1) := by decide +kernel
theorem dX7_isTreeItem_142 : decode cX7_isTreeItem 142 = .ok (.iconst 1, 1) := by decide +kernel
theorem dX7_isTreeItem_143 : decode cX7_isTreeItem 143 = .ok (.iadd, 1) := by decide +kernel
theorem dX7_isTreeItem_144 : decode cX7_isTreeItem 144 = .ok (.iastore, 1) := by decide +kernel
theorem dX7_isTreeItem_145 : decode cX7_isTreeItem 145 = .ok (.aload_n 0, 1) := by decide +kernel
theorem dX7_isTreeItem_146 : decode cX7_isTreeItem 146 = .ok (.invokevirtual 86, 3) := by decide +kernel
theorem dX7_isTreeItem_149 : decode cX7_isTreeItem 149 = .ok (.ireturn, 1) := by decide +kernel
set_option maxRecDepth 20000 in
theorem ggX7_isPerson_X7_isNumber : GoodIn wsX7_isPerson wsX7_isNumber := goodIn_r _ [11, 12, 5, 13, 14, 15, 10, 16, 17, 18, 19, 20, 21, 22, 23, 28, 29, 30, 31, 32, 33, 34, 35, 36, 37, 38, 39, 40, 41, 42, 43, 44, 45, 46, 47, 48, 49, 50, 51, 52, 53, 54, 55, 56] (by decide +kernel) (by decide +kernel)
set_option maxRecDepth 20000 in
theorem gX7_isPerson_X7_isNumber : GoodIn wsX7_isPerson (wsV RX7 76 RX7 yX7_isNumber wsX7_isNumber) := goodIn_app (goodIn_of _ (by decide +kernel)) ggX7_isPerson_X7_isNumber
set_option maxRecDepth 20000 in
theorem ggX7_isPerson_X7_isEnd : GoodIn wsX7_isPerson wsX7_isEnd := goodIn_r _ [27, 12, 13, 14, 15, 10, 16, 17, 18, 19, 20, 5, 21, 22, 23, 28, 29, 30, 31, 32, 33, 34, 35, 36, 37, 38, 39, 40, 41, 42, 43, 44, 45, 46, 47, 48, 49, 50, 51, 52, 53, 54, 55, 56] (by decide +kernel) (by decide +kernel)
set_option maxRecDepth 20000 in
theorem gX7_isPerson_X7_isEnd : GoodIn wsX7_isPerson (wsV RX7 86 RX7 yX7_isEnd wsX7_isEnd) := goodIn_app (goodIn_of _ (by decide +kernel)) ggX7_isPerson_X7_isEnd
theorem dX7_isPerson_0 : decode cX7_isPerson 0 = .ok (.aload_n 0, 1) := by decide +kernel
theorem dX7_isPerson_1 : decode cX7_isPerson 1 = .ok (.getfield 90, 3) := by decide +kernel
theorem dX7_isPerson_4 : decode cX7_isPerson 4 = .ok (.bipush 7, 2) := by decide +kernel
theorem dX7_isPerson_6 : decode cX7_isPerson 6 = .ok (.if_icmp .eq 22, 3) := by decide +kernel
theorem dX7_isPerson_9 : decode cX7_isPerson 9 = .ok (.aload_n 0, 1) := by decide +kernel
theorem dX7_isPerson_10 : decode cX7_isPerson 10 = .ok (.iconst 0, 1) := by decide +kernel
theorem dX7_isPerson_11 : decode cX7_isPerson 11 = .ok (.aload_n 0, 1) := by decide +kernel
theorem dX7_isPerson_12 : decode cX7_isPerson 12 = .ok (.getfield 80, 3) := by decide +kernel
theorem dX7_isPerson_15 : decode cX7_isPerson 15 = .ok (.aload_n 0, 1) := by decide +kernel
theorem dX7_isPerson_16 : decode cX7_isPerson 16 = .ok (.getfield 83, 3) := by decide +kernel
theorem dX7_isPerson_19 : decode cX7_isPerson 19 = .ok (.imul, 1) := by decide +kernel
theorem dX7_isPerson_20 : decode cX7_isPerson 20 = .ok (.iconst 1, 1) := by decide +kernel
theorem dX7_isPerson_21 : decode cX7_isPerson 21 = .ok (.isub, 1) := by decide +kernel
theorem dX7_isPerson_22 : decode cX7_isPerson 22 = .ok (.invokevirtual 76, 3) := by decide +kernel
theorem dX7_isPerson_25 : decode cX7_isPerson 25 = .ok (.ifCond .ne 5, 3) := by decide +kernel
theorem dX7_isPerson_28 : decode cX7_isPerson 28 = .ok (.iconst 0, 1) := by decide +kernel
theorem dX7_isPerson_29 : decode cX7_isPerson 29 = .ok (.ireturn, 1) := by decide +kernel
theorem dX7_isPerson_30 : decode cX7_isPerson 30 = .ok (.aload_n 0, 1) := by decide +kernel
theorem dX7_isPerson_31 : decode cX7_isPerson 31 = .ok (.getfield 16, 3) := by decide +kernel
theorem dX7_isPerson_34 : decode cX7_isPerson 34 = .ok (.bipush 29, 2) := by decide +kernel
theorem dX7_isPerson_36 : decode cX7_isPerson 36 = .ok (.aload_n 0, 1) := by decide +kernel
theorem dX7_isPerson_37 : decode cX7_isPerson 37 = .ok (.getfield 90, 3) := by decide +kernel
theorem dX7_isPerson_40 : decode cX7_isPerson 40 = .ok (.iadd, 1) := by decide +kernel
theorem dX7_isPerson_41 : decode cX7_isPerson 41 = .ok (.aload_n 0, 1) := by decide +kernel
theorem dX7_isPerson_42 : decode cX7_isPerson 42 = .ok (.getfield 67, 3) := by decide +kernel
theorem dX7_isPerson_45 : decode cX7_isPerson 45 = .ok (.iastore, 1) := by decide +kernel
theorem dX7_isPerson_46 : decode cX7_isPerson 46 = .ok (.aload_n 0, 1) := by decide +kernel
theorem dX7_isPerson_47 : decode cX7_isPerson 47 = .ok (.iconst 1, 1) := by decide +kernel
theorem dX7_isPerson_48 : decode cX7_isPerson 48 = .ok (.iconst 4, 1) := by decide +kernel
theorem dX7_isPerson_49 : decode cX7_isPerson 49 = .ok (.invokevirtual 76, 3) := by decide +kernel
theorem dX7_isPerson_52 : decode cX7_isPerson 52 = .ok (.ifCond .ne 5, 3) := by decide +kernel
theorem dX7_isPerson_55 : decode cX7_isPerson 55 = .ok (.iconst 0, 1) := by decide +kernel
theorem dX7_isPerson_56 : decode cX7_isPerson 56 = .ok (.ireturn, 1) := by decide +kernel
theorem dX7_isPerson_57 : decode cX7_isPerson 57 = .ok (.aload_n 0, 1) := by decide +kernel
theorem dX7_isPerson_58 : decode cX7_isPerson 58 = .ok (.getfield 13, 3) := by decide +kernel
theorem dX7_isPerson_61 : decode cX7_isPerson 61 = .ok (.aload_n 0, 1) := by decide +kernel
theorem dX7_isPerson_62 : decode cX7_isPerson 62 = .ok (.getfield 90, 3) := by decide +kernel
theorem dX7_isPerson_65 : decode cX7_isPerson 65 = .ok (.aload_n 0, 1) := by decide +kernel
theorem dX7_isPerson_66 : decode cX7_isPerson 66 = .ok (.getfield 67, 3) := by decide +kernel
theorem dX7_isPerson_69 : decode cX7_isPerson 69 = .ok (.iastore, 1) := by decide +kernel
theorem dX7_isPerson_70 : decode cX7_isPerson 70 = .ok (.aload_n 0, 1) := by decide +kernel
theorem dX7_isPerson_71 : decode cX7_isPerson 71 = .ok (.dup, 1) := by decide +kernel
theorem dX7_isPerson_72 : decode cX7_isPerson 72 = .ok (.getfield 90, 3) := by decide +kernel
theorem dX7_isPerson_75 : decode cX7_isPerson 75 = .ok (.iconst 1, 1) := by decide +kernel
theorem dX7_isPerson_76 : decode cX7_isPerson 76 = .ok (.iadd, 1) := by decide +kernel
theorem dX7_isPerson_77 : decode cX7_isPerson 77 = .ok (.putfield 90, 3) := by decide +kernel
theorem dX7_isPerson_80 : decode cX7_isPerson 80 = .ok (.aload_n 0, 1) := by decide +kernel
theorem dX7_isPerson_81 : decode cX7_isPerson 81 = .ok (.invokevirtual 86, 3) := by decide +kernel
theorem dX7_isPerson_84 : decode cX7_isPerson 84 = .ok (.ireturn, 1) := by decide +kernel
set_option maxRecDepth 20000 in
theorem ggX7_isItem_X7_isLand : GoodIn wsX7_isItem wsX7_isLand := goodIn_r _ [10, 5, 11, 12, 13, 14, 15, 9, 16, 1, 17, 18, 19, 20, 21, 22, 23, 24, 25, 26, 27, 28, 29, 30, 31, 42, 43, 44, 45, 46, 47, 48, 49, 50, 51, 52, 53, 54, 55, 56, 57, 58, 59, 60, 61, 62, 63, 64, 65, 66, 67, 68, 69, 70] (by decide +kernel) (by decide +kernel)
set_option maxRecDepth 20000 in
theorem gX7_isItem_X7_isLand : GoodIn wsX7_isItem (wsV RX7 96 RX7 yX7_isLand wsX7_isLand) := goodIn_app (goodIn_of _ (by decide +kernel)) ggX7_isItem_X7_isLand
set_option maxRecDepth 20000 in
theorem ggX7_isItem_X7_isTreeItem : GoodIn wsX7_isItem wsX7_isTreeItem := goodIn_r _ [35, 4, 11, 12, 5, 13, 14, 15, 9, 16, 1, 17, 18, 19, 20, 21, 22, 23, 24, 25, 26, 27, 28, 29, 30, 31, 42, 43, 44, 45, 46, 47, 48, 49, 50, 51, 52, 53, 54, 55, 56, 57, 58, 59, 60, 61, 62, 63, 64, 65, 66, 67, 68, 69, 70] (by decide +kernel) (by decide +kernel)
set_option maxRecDepth 20000 in
theorem gX7_isItem_X7_isTreeItem : GoodIn wsX7_isItem (wsV RX7 99 RX7 yX7_isTreeItem wsX7_isTreeItem) := goodIn_app (goodIn_of _ (by decide +kernel)) ggX7_isItem_X7_isTreeItem
set_option maxRecDepth 20000 in
theorem ggX7_isItem_X7_isPerson : GoodIn wsX7_isItem wsX7_isPerson := goodIn_r _ [39, 40, 11, 12, 4, 5, 41, 13, 14, 15, 9, 16, 1, 17, 18, 19, 20, 21, 22, 23, 24, 25, 26, 27, 28, 29, 30, 31, 42, 43, 44, 45, 46, 47, 48, 49, 50, 51, 52, 53, 54, 55, 56, 57, 58, 59, 60, 61, 62, 63, 64, 65, 66, 67, 68, 69, 70] (by decide +kernel) (by decide +kernel)
set_option maxRecDepth 20000 in
theorem gX7_isItem_X7_isPerson : GoodIn wsX7_isItem (wsV RX7 102 RX7 yX7_isPerson wsX7_isPerson) := goodIn_app (goodIn_of _ (by decide +kernel)) ggX7_isItem_X7_isPerson
set_option maxRecDepth 20000 in
theorem ggX7_isItem_X7_isNumber : GoodIn wsX7_isItem wsX7_isNumber := goodIn_r _ [16, 1, 5, 17, 18, 19, 9, 20, 21, 22, 23, 24, 25, 26, 27, 42, 43, 44, 45, 46, 47, 48, 49, 50, 51, 52, 53, 54, 55, 56, 57, 58, 59, 60, 61, 62, 63, 64, 65, 66, 67, 68, 69, 70] (by decide +kernel) (by decide +kernel)
set_option maxRecDepth 20000 in
theorem gX7_isItem_X7_isNumber : GoodIn wsX7_isItem (wsV RX7 76 RX7 yX7_isNumber wsX7_isNumber) := goodIn_app (goodIn_of _ (by decide +kernel)) ggX7_isItem_X7_isNumber
set_option maxRecDepth 20000 in
theorem ggX7_isItem_X7_isEnd : GoodIn wsX7_isItem wsX7_isEnd := goodIn_r _ [31, 1, 17, 18, 19, 9, 20, 21, 22, 23, 24, 5, 25, 26, 27, 42, 43, 44, 45, 46, 47, 48, 49, 50, 51, 52, 53, 54, 55, 56, 57, 58, 59, 60, 61, 62, 63, 64, 65, 66, 67, 68, 69, 70] (by decide +kernel) (by decide +kernel)
set_option maxRecDepth 20000 in
theorem gX7_isItem_X7_isEnd : GoodIn wsX7_isItem (wsV RX7 86 RX7 yX7_isEnd wsX7_isEnd) := goodIn_app (goodIn_of _ (by decide +kernel)) ggX7_isItem_X7_isEnd
theorem dX7_isItem_0 : decode cX7_isItem 0 = .ok (.aload_n 0, 1) := by decide +kernel
theorem dX7_isItem_1 : decode cX7_isItem 1 = .ok (.getfield 70, 3) := by decide +kernel
theorem dX7_isItem_4 : decode cX7_isItem 4 = .ok (.bipush 103, 2) := by decide +kernel
theorem dX7_isItem_6 : decode cX7_isItem 6 = .ok (.if_icmp .ne 15, 3) := by decide +kernel
theorem dX7_isItem_9 : decode cX7_isItem 9 = .ok (.aload_n 0, 1) := by decide +kernel
theorem dX7_isItem_10 : decode cX7_isItem 10 = .ok (.getfield 93, 3) := by decide +kernel
theorem dX7_isItem_13 : decode cX7_isItem 13 = .ok (.ifCond .ne 8, 3) := by decide +kernel
theorem dX7_isItem_16 : decode cX7_isItem 16 = .ok (.aload_n 0, 1) := by decide +kernel
theorem dX7_isItem_17 : decode cX7_isItem 17 = .ok (.invokevirtual 96, 3) := by decide +kernel
theorem dX7_isItem_20 : decode cX7_isItem 20 = .ok (.ireturn, 1) := by decide +kernel
theorem dX7_isItem_21 : decode cX7_isItem 21 = .ok (.aload_n 0, 1) := by decide +kernel
theorem dX7_isItem_22 : decode cX7_isItem 22 = .ok (.getfield 70, 3) := by decide +kernel
theorem dX7_isItem_25 : decode cX7_isItem 25 = .ok (.bipush 116, 2) := by decide +kernel
theorem dX7_isItem_27 : decode cX7_isItem 27 = .ok (.if_icmp .ne 8, 3) := by decide +kernel
theorem dX7_isItem_30 : decode cX7_isItem 30 = .ok (.aload_n 0, 1) := by decide +kernel
theorem dX7_isItem_31 : decode cX7_isItem 31 = .ok (.invokevirtual 99, 3) := by decide +kernel
theorem dX7_isItem_34 : decode cX7_isItem 34 = .ok (.ireturn, 1) := by decide +kernel
theorem dX7_isItem_35 : decode cX7_isItem 35 = .ok (.aload_n 0, 1) := by decide +kernel
theorem dX7_isItem_36 : decode cX7_isItem 36 = .ok (.getfield 70, 3) := by decide +kernel
theorem dX7_isItem_39 : decode cX7_isItem 39 = .ok (.bipush 112, 2) := by decide +kernel
theorem dX7_isItem_41 : decode cX7_isItem 41 = .ok (.if_icmp .ne 8, 3) := by decide +kernel
theorem dX7_isItem_44 : decode cX7_isItem 44 = .ok (.aload_n 0, 1) := by decide +kernel
theorem dX7_isItem_45 : decode cX7_isItem 45 = .ok (.invokevirtual 102, 3) := by decide +kernel
theorem dX7_isItem_48 : decode cX7_isItem 48 = .ok (.ireturn, 1) := by decide +kernel
theorem dX7_isItem_49 : decode cX7_isItem 49 = .ok (.aload_n 0, 1) := by decide +kernel
theorem dX7_isItem_50 : decode cX7_isItem 50 = .ok (.getfield 70, 3) := by decide +kernel
theorem dX7_isItem_53 : decode cX7_isItem 53 = .ok (.bipush 115, 2) := by decide +kernel
theorem dX7_isItem_55 : decode cX7_isItem 55 = .ok (.if_icmp .ne 20, 3) := by decide +kernel
theorem dX7_isItem_58 : decode cX7_isItem 58 = .ok (.aload_n 0, 1) := by decide +kernel
theorem dX7_isItem_59 : decode cX7_isItem 59 = .ok (.getfield 105, 3) := by decide +kernel
theorem dX7_isItem_62 : decode cX7_isItem 62 = .ok (.ifCond .ne 13, 3) := by decide +kernel
theorem dX7_isItem_65 : decode cX7_isItem 65 = .ok (.aload_n 0, 1) := by decide +kernel
theorem dX7_isItem_66 : decode cX7_isItem 66 = .ok (.iconst 1, 1) := by decide +kernel
theorem dX7_isItem_67 : decode cX7_isItem 67 = .ok (.bipush 9, 2) := by decide +kernel
theorem dX7_isItem_69 : decode cX7_isItem 69 = .ok (.invokevirtual 76, 3) := by decide +kernel
theorem dX7_isItem_72 : decode cX7_isItem 72 = .ok (.ifCond .ne 5, 3) := by decide +kernel
theorem dX7_isItem_75 : decode cX7_isItem 75 = .ok (.iconst 0, 1) := by decide +kernel
theorem dX7_isItem_76 : decode cX7_isItem 76 = .ok (.ireturn, 1) := by decide +kernel
theorem dX7_isItem_77 : decode cX7_isItem 77 = .ok (.aload_n 0, 1) := by decide +kernel
theorem dX7_isItem_78 : decode cX7_isItem 78 = .ok (.iconst 1, 1) := by decide +kernel
theorem dX7_isItem_79 : decode cX7_isItem 79 = .ok (.putfield 105, 3) := by decide +kernel
theorem dX7_isItem_82 : decode cX7_isItem 82 = .ok (.aload_n 0, 1) := by decide +kernel
theorem dX7_isItem_83 : decode cX7_isItem 83 = .ok (.getfield 16, 3) := by decide +kernel
theorem dX7_isItem_86 : decode cX7_isItem 86 = .ok (.iconst 1, 1) := by decide +kernel
theorem dX7_isItem_87 : decode cX7_isItem 87 = .ok (.aload_n 0, 1) := by decide +kernel
theorem dX7_isItem_88 : decode cX7_isItem 88 = .ok (.getfield 67, 3) := by decide +kernel
theorem dX7_isItem_91 : decode cX7_isItem 91 = .ok (.iastore, 1) := by decide +kernel
theorem dX7_isItem_92 : decode cX7_isItem 92 = .ok (.aload_n 0, 1) := by decide +kernel
theorem dX7_isItem_93 : decode cX7_isItem 93 = .ok (.invokevirtual 86, 3) := by decide +kernel
theorem dX7_isItem_96 : decode cX7_isItem 96 = .ok (.ireturn, 1) := by decide +kernel
set_option maxRecDepth 20000 in
theorem ggX7_isRead_X7_nextToken : GoodIn wsX7_isRead wsX7_nextToken := goodIn_r _ [13, 1, 14, 15, 16, 17, 8, 18, 19, 12, 20, 46, 47, 48, 49, 50, 51, 52, 53, 54, 55, 56, 57, 58, 59, 60, 61, 62, 63, 64, 65, 66, 67, 68, 69, 70, 71, 72, 73, 74] (by decide +kernel) (by decide +kernel)
set_option maxRecDepth 20000 in
theorem gX7_isRead_X7_nextToken : GoodIn wsX7_isRead (wsV RX7 73 RX7 yX7_nextToken wsX7_nextToken) := goodIn_app (goodIn_of _ (by decide +kernel)) ggX7_isRead_X7_nextToken
set_option maxRecDepth 20000 in
theorem ggX7_isRead_X7_isItem : GoodIn wsX7_isRead wsX7_isItem := goodIn_r _ [24, 8, 2, 3, 7, 17, 25, 26, 27, 12, 28, 4, 5, 29, 30, 31, 32, 9, 10, 11, 13, 1, 14, 15, 16, 18, 19, 20, 33, 34, 35, 36, 37, 38, 39, 40, 41, 42, 43, 44, 6, 45, 46, 47, 48, 49, 50, 51, 52, 53, 54, 55, 56, 57, 58, 59, 60, 61, 62, 63, 64, 65, 66, 67, 68, 69, 70, 71, 72, 73, 74] (by decide +kernel) (by decide +kernel)
set_option maxRecDepth 20000 in
theorem gX7_isRead_X7_isItem : GoodIn wsX7_isRead (wsV RX7 109 RX7 yX7_isItem wsX7_isItem) := goodIn_app (goodIn_of _ (by decide +kernel)) ggX7_isRead_X7_isItem
theorem dX7_isRead_0 : decode cX7_isRead 0 = .ok (.aload_n 0, 1) := by decide +kernel
theorem dX7_isRead_1 : decode cX7_isRead 1 = .ok (.iconst 0, 1) := by decide +kernel
theorem dX7_isRead_2 : decode cX7_isRead 2 = .ok (.putfield 61, 3) := by decide +kernel
theorem dX7_isRead_5 : decode cX7_isRead 5 = .ok (.aload_n 0, 1) := by decide +kernel
theorem dX7_isRead_6 : decode cX7_isRead 6 = .ok (.iconst 0, 1) := by decide +kernel
theorem dX7_isRead_7 : decode cX7_isRead 7 = .ok (.putfield 93, 3) := by decide +kernel
theorem dX7_isRead_10 : decode cX7_isRead 10 = .ok (.aload_n 0, 1) := by decide +kernel
theorem dX7_isRead_11 : decode cX7_isRead 11 = .ok (.iconst 0, 1) := by decide +kernel
theorem dX7_isRead_12 : decode cX7_isRead 12 = .ok (.putfield 105, 3) := by decide +kernel
theorem dX7_isRead_15 : decode cX7_isRead 15 = .ok (.aload_n 0, 1) := by decide +kernel
theorem dX7_isRead_16 : decode cX7_isRead 16 = .ok (.iconst 3, 1) := by decide +kernel
theorem dX7_isRead_17 : decode cX7_isRead 17 = .ok (.putfield 80, 3) := by decide +kernel
theorem dX7_isRead_20 : decode cX7_isRead 20 = .ok (.aload_n 0, 1) := by decide +kernel
theorem dX7_isRead_21 : decode cX7_isRead 21 = .ok (.iconst 3, 1) := by decide +kernel
theorem dX7_isRead_22 : decode cX7_isRead 22 = .ok (.putfield 83, 3) := by decide +kernel
theorem dX7_isRead_25 : decode cX7_isRead 25 = .ok (.aload_n 0, 1) := by decide +kernel
theorem dX7_isRead_26 : decode cX7_isRead 26 = .ok (.iconst 0, 1) := by decide +kernel
theorem dX7_isRead_27 : decode cX7_isRead 27 = .ok (.putfield 90, 3) := by decide +kernel
theorem dX7_isRead_30 : decode cX7_isRead 30 = .ok (.iconst 0, 1) := by decide +kernel
theorem dX7_isRead_31 : decode cX7_isRead 31 = .ok (.istore_n 1, 1) := by decide +kernel
theorem dX7_isRead_32 : decode cX7_isRead 32 = .ok (.iload_n 1, 1) := by decide +kernel
theorem dX7_isRead_33 : decode cX7_isRead 33 = .ok (.bipush 36, 2) := by decide +kernel
theorem dX7_isRead_35 : decode cX7_isRead 35 = .ok (.if_icmp .ge 16, 3) := by decide +kernel
theorem dX7_isRead_38 : decode cX7_isRead 38 = .ok (.aload_n 0, 1) := by decide +kernel
theorem dX7_isRead_39 : decode cX7_isRead 39 = .ok (.getfield 16, 3) := by decide +kernel
theorem dX7_isRead_42 : decode cX7_isRead 42 = .ok (.iload_n 1, 1) := by decide +kernel
theorem dX7_isRead_43 : decode cX7_isRead 43 = .ok (.iconst 0, 1) := by decide +kernel
theorem dX7_isRead_44 : decode cX7_isRead 44 = .ok (.iastore, 1) := by decide +kernel
theorem dX7_isRead_45 : decode cX7_isRead 45 = .ok (.iinc 1 1, 3) := by decide +kernel
theorem dX7_isRead_48 : decode cX7_isRead 48 = .ok (.goto (-16), 3) := by decide +kernel
theorem dX7_isRead_51 : decode cX7_isRead 51 = .ok (.aload_n 0, 1) := by decide +kernel
theorem dX7_isRead_52 : decode cX7_isRead 52 = .ok (.getfield 16, 3) := by decide +kernel
theorem dX7_isRead_55 : decode cX7_isRead 55 = .ok (.iconst 1, 1) := by decide +kernel
theorem dX7_isRead_56 : decode cX7_isRead 56 = .ok (.iconst 3, 1) := by decide +kernel
theorem dX7_isRead_57 : decode cX7_isRead 57 = .ok (.iastore, 1) := by decide +kernel
theorem dX7_isRead_58 : decode cX7_isRead 58 = .ok (.aload_n 0, 1) := by decide +kernel
theorem dX7_isRead_59 : decode cX7_isRead 59 = .ok (.invokevirtual 73, 3) := by decide +kernel
theorem dX7_isRead_62 : decode cX7_isRead 62 = .ok (.aload_n 0, 1) := by decide +kernel
theorem dX7_isRead_63 : decode cX7_isRead 63 = .ok (.getfield 70, 3) := by decide +kernel
theorem dX7_isRead_66 : decode cX7_isRead 66 = .ok (.bipush (-2), 2) := by decide +kernel
theorem dX7_isRead_68 : decode cX7_isRead 68 = .ok (.if_icmp .eq 29, 3) := by decide +kernel
theorem dX7_isRead_71 : decode cX7_isRead 71 = .ok (.aload_n 0, 1) := by decide +kernel
theorem dX7_isRead_72 : decode cX7_isRead 72 = .ok (.invokevirtual 109, 3) := by decide +kernel
theorem dX7_isRead_75 : decode cX7_isRead 75 = .ok (.ifCond .ne 5, 3) := by decide +kernel
theorem dX7_isRead_78 : decode cX7_isRead 78 = .ok (.iconst 0, 1) := by decide +kernel
theorem dX7_isRead_79 : decode cX7_isRead 79 = .ok (.ireturn, 1) := by decide +kernel
theorem dX7_isRead_80 : decode cX7_isRead 80 = .ok (.aload_n 0, 1) := by decide +kernel
theorem dX7_isRead_81 : decode cX7_isRead 81 = .ok (.dup, 1) := by decide +kernel
theorem dX7_isRead_82 : decode cX7_isRead 82 = .ok (.getfield 93, 3) := by decide +kernel
theorem dX7_isRead_85 : decode cX7_isRead 85 = .ok (.iconst 1, 1) := by decide +kernel
theorem dX7_isRead_86 : decode cX7_isRead 86 = .ok (.iadd, 1) := by decide +kernel
theorem dX7_isRead_87 : decode cX7_isRead 87 = .ok (.putfield 93, 3) := by decide +kernel
theorem dX7_isRead_90 : decode cX7_isRead 90 = .ok (.aload_n 0, 1) := by decide +kernel
theorem dX7_isRead_91 : decode cX7_isRead 91 = .ok (.invokevirtual 73, 3) := by decide +kernel
theorem dX7_isRead_94 : decode cX7_isRead 94 = .ok (.goto (-32), 3) := by decide +kernel
theorem dX7_isRead_97 : decode cX7_isRead 97 = .ok (.iconst 1, 1) := by decide +kernel
theorem dX7_isRead_98 : decode cX7_isRead 98 = .ok (.ireturn, 1) := by decide +kernel
set_option maxRecDepth 20000 in
theorem ggX7_commune_X7_isRead : GoodIn wsX7_commune wsX7_isRead := goodIn_r _ [21, 22, 16, 23, 2, 4, 6, 10, 24, 25, 26, 27, 20, 28, 12, 29, 1, 30, 31, 32, 33, 34, 35, 36, 37, 38, 39, 40, 41, 42, 43, 44, 45, 46, 47, 48, 49, 50, 51, 52, 53, 54, 55, 56, 57, 9, 61, 62, 63, 64, 65, 66, 67, 68, 69, 70, 71, 72, 73, 74, 75, 76, 77, 78, 79, 80, 81, 82, 83, 84, 85, 86, 87, 88, 89] (by decide +kernel) (by decide +kernel)
set_option maxRecDepth 20000 in
theorem gX7_commune_X7_isRead : GoodIn wsX7_commune (wsV RX7 112 RX7 yX7_isRead wsX7_isRead) := goodIn_app (goodIn_of _ (by decide +kernel)) ggX7_commune_X7_isRead
set_option maxRecDepth 20000 in
theorem ggX7_commune_X7_copy : GoodIn wsX7_commune wsX7_copy := goodIn_r _ [60] (by decide +kernel) (by decide +kernel)
set_option maxRecDepth 20000 in
theorem gX7_commune_X7_copy : GoodIn wsX7_commune (va_wsS RX7 115 yX7_copy wsX7_copy) := goodIn_app (goodIn_of _ (by decide +kernel)) ggX7_commune_X7_copy
theorem dX7_commune_0 : decode cX7_commune 0 = .ok (.aload_n 0, 1) := by decide +kernel
theorem dX7_commune_1 : decode cX7_commune 1 = .ok (.invokevirtual 112, 3) := by decide +kernel
theorem dX7_commune_4 : decode cX7_commune 4 = .ok (.ifCond .ne 11, 3) := by decide +kernel
theorem dX7_commune_7 : decode cX7_commune 7 = .ok (.bipush (-10), 2) := by decide +kernel
theorem dX7_commune_9 : decode cX7_commune 9 = .ok (.aload_n 0, 1) := by decide +kernel
theorem dX7_commune_10 : decode cX7_commune 10 = .ok (.getfield 64, 3) := by decide +kernel
theorem dX7_commune_13 : decode cX7_commune 13 = .ok (.isub, 1) := by decide +kernel
theorem dX7_commune_14 : decode cX7_commune 14 = .ok (.ireturn, 1) := by decide +kernel
theorem dX7_commune_15 : decode cX7_commune 15 = .ok (.aload_n 0, 1) := by decide +kernel
theorem dX7_commune_16 : decode cX7_commune 16 = .ok (.aload_n 0, 1) := by decide +kernel
theorem dX7_commune_17 : decode cX7_commune 17 = .ok (.getfield 80, 3) := by decide +kernel
theorem dX7_commune_20 : decode cX7_commune 20 = .ok (.putfield 19, 3) := by decide +kernel
theorem dX7_commune_23 : decode cX7_commune 23 = .ok (.aload_n 0, 1) := by decide +kernel
theorem dX7_commune_24 : decode cX7_commune 24 = .ok (.aload_n 0, 1) := by decide +kernel
theorem dX7_commune_25 : decode cX7_commune 25 = .ok (.getfield 83, 3) := by decide +kernel
theorem dX7_commune_28 : decode cX7_commune 28 = .ok (.putfield 23, 3) := by decide +kernel
theorem dX7_commune_31 : decode cX7_commune 31 = .ok (.aload_n 0, 1) := by decide +kernel
theorem dX7_commune_32 : decode cX7_commune 32 = .ok (.aload_n 0, 1) := by decide +kernel
theorem dX7_commune_33 : decode cX7_commune 33 = .ok (.getfield 90, 3) := by decide +kernel
theorem dX7_commune_36 : decode cX7_commune 36 = .ok (.putfield 55, 3) := by decide +kernel
theorem dX7_commune_39 : decode cX7_commune 39 = .ok (.iconst 0, 1) := by decide +kernel
theorem dX7_commune_40 : decode cX7_commune 40 = .ok (.istore_n 1, 1) := by decide +kernel
theorem dX7_commune_41 : decode cX7_commune 41 = .ok (.iload_n 1, 1) := by decide +kernel
theorem dX7_commune_42 : decode cX7_commune 42 = .ok (.aload_n 0, 1) := by decide +kernel
theorem dX7_commune_43 : decode cX7_commune 43 = .ok (.getfield 55, 3) := by decide +kernel
theorem dX7_commune_46 : decode cX7_commune 46 = .ok (.if_icmp .ge 21, 3) := by decide +kernel
theorem dX7_commune_49 : decode cX7_commune 49 = .ok (.aload_n 0, 1) := by decide +kernel
theorem dX7_commune_50 : decode cX7_commune 50 = .ok (.getfield 26, 3) := by decide +kernel
theorem dX7_commune_53 : decode cX7_commune 53 = .ok (.iload_n 1, 1) := by decide +kernel
theorem dX7_commune_54 : decode cX7_commune 54 = .ok (.aload_n 0, 1) := by decide +kernel
theorem dX7_commune_55 : decode cX7_commune 55 = .ok (.getfield 13, 3) := by decide +kernel
theorem dX7_commune_58 : decode cX7_commune 58 = .ok (.iload_n 1, 1) := by decide +kernel
theorem dX7_commune_59 : decode cX7_commune 59 = .ok (.iaload, 1) := by decide +kernel
theorem dX7_commune_60 : decode cX7_commune 60 = .ok (.iastore, 1) := by decide +kernel
theorem dX7_commune_61 : decode cX7_commune 61 = .ok (.iinc 1 1, 3) := by decide +kernel
theorem dX7_commune_64 : decode cX7_commune 64 = .ok (.goto (-23), 3) := by decide +kernel
theorem dX7_commune_67 : decode cX7_commune 67 = .ok (.aload_n 0, 1) := by decide +kernel
theorem dX7_commune_68 : decode cX7_commune 68 = .ok (.getfield 16, 3) := by decide +kernel
theorem dX7_commune_71 : decode cX7_commune 71 = .ok (.iconst 0, 1) := by decide +kernel
theorem dX7_commune_72 : decode cX7_commune 72 = .ok (.aload_n 0, 1) := by decide +kernel
theorem dX7_commune_73 : decode cX7_commune 73 = .ok (.getfield 29, 3) := by decide +kernel
theorem dX7_commune_76 : decode cX7_commune 76 = .ok (.iconst 0, 1) := by decide +kernel
theorem dX7_commune_77 : decode cX7_commune 77 = .ok (.invokestatic 115, 3) := by decide +kernel
theorem dX7_commune_80 : decode cX7_commune 80 = .ok (.aload_n 0, 1) := by decide +kernel
theorem dX7_commune_81 : decode cX7_commune 81 = .ok (.iconst 0, 1) := by decide +kernel
theorem dX7_commune_82 : decode cX7_commune 82 = .ok (.putfield 58, 3) := by decide +kernel
theorem dX7_commune_85 : decode cX7_commune 85 = .ok (.aload_n 0, 1) := by decide +kernel
theorem dX7_commune_86 : decode cX7_commune 86 = .ok (.getfield 38, 3) := by decide +kernel
theorem dX7_commune_89 : decode cX7_commune 89 = .ok (.iconst 0, 1) := by decide +kernel
theorem dX7_commune_90 : decode cX7_commune 90 = .ok (.iconst 0, 1) := by decide +kernel
theorem dX7_commune_91 : decode cX7_commune 91 = .ok (.bastore, 1) := by decide +kernel
theorem dX7_commune_92 : decode cX7_commune 92 = .ok (.aload_n 0, 1) := by decide +kernel
theorem dX7_commune_93 : decode cX7_commune 93 = .ok (.getfield 38, 3) := by decide +kernel
theorem dX7_commune_96 : decode cX7_commune 96 = .ok (.iconst 1, 1) := by decide +kernel
theorem dX7_commune_97 : decode cX7_commune 97 = .ok (.iconst 0, 1) := by decide +kernel
theorem dX7_commune_98 : decode cX7_commune 98 = .ok (.bastore, 1) := by decide +kernel
theorem dX7_commune_99 : decode cX7_commune 99 = .ok (.aload_n 0, 1) := by decide +kernel
theorem dX7_commune_100 : decode cX7_commune 100 = .ok (.iconst 0, 1) := by decide +kernel
theorem dX7_commune_101 : decode cX7_commune 101 = .ok (.putfield 119, 3) := by decide +kernel
theorem dX7_commune_104 : decode cX7_commune 104 = .ok (.aload_n 0, 1) := by decide +kernel
theorem dX7_commune_105 : decode cX7_commune 105 = .ok (.iconst 0, 1) := by decide +kernel
theorem dX7_commune_106 : decode cX7_commune 106 = .ok (.putfield 122, 3) := by decide +kernel
theorem dX7_commune_109 : decode cX7_commune 109 = .ok (.aload_n 0, 1) := by decide +kernel
theorem dX7_commune_110 : decode cX7_commune 110 = .ok (.getfield 93, 3) := by decide +kernel
theorem dX7_commune_113 : decode cX7_commune 113 = .ok (.ireturn, 1) := by decide +kernel
theorem dX7_copy_0 : decode cX7_copy 0 = .ok (.iconst 0, 1) := by decide +kernel
theorem dX7_copy_1 : decode cX7_copy 1 = .ok (.istore 4, 2) := by decide +kernel
theorem dX7_copy_3 : decode cX7_copy 3 = .ok (.iload 4, 2) := by decide +kernel
theorem dX7_copy_5 : decode cX7_copy 5 = .ok (.bipush 36, 2) := by decide +kernel
theorem dX7_copy_7 : decode cX7_copy 7 = .ok (.if_icmp .ge 21, 3) := by decide +kernel
theorem dX7_copy_10 : decode cX7_copy 10 = .ok (.aload_n 2, 1) := by decide +kernel
theorem dX7_copy_11 : decode cX7_copy 11 = .ok (.iload_n 3, 1) := by decide +kernel
theorem dX7_copy_12 : decode cX7_copy 12 = .ok (.iload 4, 2) := by decide +kernel
theorem dX7_copy_14 : decode cX7_copy 14 = .ok (.iadd, 1) := by decide +kernel
theorem dX7_copy_15 : decode cX7_copy 15 = .ok (.aload_n 0, 1) := by decide +kernel
theorem dX7_copy_16 : decode cX7_copy 16 = .ok (.iload_n 1, 1) := by decide +kernel
theorem dX7_copy_17 : decode cX7_copy 17 = .ok (.iload 4, 2) := by decide +kernel
theorem dX7_copy_19 : decode cX7_copy 19 = .ok (.iadd, 1) := by decide +kernel
theorem dX7_copy_20 : decode cX7_copy 20 = .ok (.iaload, 1) := by decide +kernel
theorem dX7_copy_21 : decode cX7_copy 21 = .ok (.iastore, 1) := by decide +kernel
theorem dX7_copy_22 : decode cX7_copy 22 = .ok (.iinc 4 1, 3) := by decide +kernel
theorem dX7_copy_25 : decode cX7_copy 25 = .ok (.goto (-22), 3) := by decide +kernel
theorem dX7_copy_28 : decode cX7_copy 28 = .ok (.return_, 1) := by decide +kernel
theorem dX7_shadeBy_0 : decode cX7_shadeBy 0 = .ok (.iload_n 2, 1) := by decide +kernel
theorem dX7_shadeBy_1 : decode cX7_shadeBy 1 = .ok (.ifCond .eq 15, 3) := by decide +kernel
theorem dX7_shadeBy_4 : decode cX7_shadeBy 4 = .ok (.iload_n 3, 1) := by decide +kernel
theorem dX7_shadeBy_5 : decode cX7_shadeBy 5 = .ok (.ifCond .ne 13, 3) := by decide +kernel
theorem dX7_shadeBy_8 : decode cX7_shadeBy 8 = .ok (.aload 4, 2) := by decide +kernel
theorem dX7_shadeBy_10 : decode cX7_shadeBy 10 = .ok (.iconst 2, 1) := by decide +kernel
theorem dX7_shadeBy_11 : decode cX7_shadeBy 11 = .ok (.iaload, 1) := by decide +kernel
theorem dX7_shadeBy_12 : decode cX7_shadeBy 12 = .ok (.iconst 1, 1) := by decide +kernel
theorem dX7_shadeBy_13 : decode cX7_shadeBy 13 = .ok (.if_icmp .ne 5, 3) := by decide +kernel
theorem dX7_shadeBy_16 : decode cX7_shadeBy 16 = .ok (.iconst 0, 1) := by decide +kernel
theorem dX7_shadeBy_17 : decode cX7_shadeBy 17 = .ok (.ireturn, 1) := by decide +kernel
theorem dX7_shadeBy_18 : decode cX7_shadeBy 18 = .ok (.iconst 0, 1) := by decide +kernel
theorem dX7_shadeBy_19 : decode cX7_shadeBy 19 = .ok (.istore 5, 2) := by decide +kernel
theorem dX7_shadeBy_21 : decode cX7_shadeBy 21 = .ok (.iload_n 2, 1) := by decide +kernel
theorem dX7_shadeBy_22 : decode cX7_shadeBy 22 = .ok (.aload 4, 2) := by decide +kernel
theorem dX7_shadeBy_24 : decode cX7_shadeBy 24 = .ok (.iconst 1, 1) := by decide +kernel
theorem dX7_shadeBy_25 : decode cX7_shadeBy 25 = .ok (.iaload, 1) := by decide +kernel
theorem dX7_shadeBy_26 : decode cX7_shadeBy 26 = .ok (.idiv, 1) := by decide +kernel
theorem dX7_shadeBy_27 : decode cX7_shadeBy 27 = .ok (.istore 6, 2) := by decide +kernel
theorem dX7_shadeBy_29 : decode cX7_shadeBy 29 = .ok (.iload_n 1, 1) := by decide +kernel
theorem dX7_shadeBy_30 : decode cX7_shadeBy 30 = .ok (.istore 7, 2) := by decide +kernel
theorem dX7_shadeBy_32 : decode cX7_shadeBy 32 = .ok (.iload 7, 2) := by decide +kernel
theorem dX7_shadeBy_34 : decode cX7_shadeBy 34 = .ok (.ifCond .lt 32, 3) := by decide +kernel
theorem dX7_shadeBy_37 : decode cX7_shadeBy 37 = .ok (.iload 6, 2) := by decide +kernel
theorem dX7_shadeBy_39 : decode cX7_shadeBy 39 = .ok (.ifCond .lt 27, 3) := by decide +kernel
theorem dX7_shadeBy_42 : decode cX7_shadeBy 42 = .ok (.iload 5, 2) := by decide +kernel
theorem dX7_shadeBy_44 : decode cX7_shadeBy 44 = .ok (.iconst 1, 1) := by decide +kernel
theorem dX7_shadeBy_45 : decode cX7_shadeBy 45 = .ok (.iload 7, 2) := by decide +kernel
theorem dX7_shadeBy_47 : decode cX7_shadeBy 47 = .ok (.ishl, 1) := by decide +kernel
theorem dX7_shadeBy_48 : decode cX7_shadeBy 48 = .ok (.ior, 1) := by decide +kernel
theorem dX7_shadeBy_49 : decode cX7_shadeBy 49 = .ok (.istore 5, 2) := by decide +kernel
theorem dX7_shadeBy_51 : decode cX7_shadeBy 51 = .ok (.iinc 6 (-1), 3) := by decide +kernel
theorem dX7_shadeBy_54 : decode cX7_shadeBy 54 = .ok (.iload 7, 2) := by decide +kernel
theorem dX7_shadeBy_56 : decode cX7_shadeBy 56 = .ok (.aload_n 0, 1) := by decide +kernel
theorem dX7_shadeBy_57 : decode cX7_shadeBy 57 = .ok (.getfield 19, 3) := by decide +kernel
theorem dX7_shadeBy_60 : decode cX7_shadeBy 60 = .ok (.isub, 1) := by decide +kernel
theorem dX7_shadeBy_61 : decode cX7_shadeBy 61 = .ok (.istore 7, 2) := by decide +kernel
theorem dX7_shadeBy_63 : decode cX7_shadeBy 63 = .ok (.goto (-31), 3) := by decide +kernel
theorem dX7_shadeBy_66 : decode cX7_shadeBy 66 = .ok (.iload 5, 2) := by decide +kernel
theorem dX7_shadeBy_68 : decode cX7_shadeBy 68 = .ok (.ireturn, 1) := by decide +kernel
set_option maxRecDepth 20000 in
theorem ggX7_shadeOf_X7_shadeBy : GoodIn wsX7_shadeOf wsX7_shadeBy := goodIn_r _ [5, 6, 7, 8, 9, 10, 11, 12, 13, 14, 15, 16, 17, 18, 19, 20, 21, 22, 23, 24, 25, 26, 27, 28, 29, 30, 31, 32, 33, 34, 35] (by decide +kernel) (by decide +kernel)
set_option maxRecDepth 20000 in
theorem gX7_shadeOf_X7_shadeBy : GoodIn wsX7_shadeOf (wsV RX7 125 RX7 yX7_shadeBy wsX7_shadeBy) := goodIn_app (goodIn_of _ (by decide +kernel)) ggX7_shadeOf_X7_shadeBy
theorem dX7_shadeOf_0 : decode cX7_shadeOf 0 = .ok (.aload_n 0, 1) := by decide +kernel
theorem dX7_shadeOf_1 : decode cX7_shadeOf 1 = .ok (.aload_n 1, 1) := by decide +kernel
theorem dX7_shadeOf_2 : decode cX7_shadeOf 2 = .ok (.iconst 4, 1) := by decide +kernel
theorem dX7_shadeOf_3 : decode cX7_shadeOf 3 = .ok (.iload_n 2, 1) := by decide +kernel
theorem dX7_shadeOf_4 : decode cX7_shadeOf 4 = .ok (.iadd, 1) := by decide +kernel
theorem dX7_shadeOf_5 : decode cX7_shadeOf 5 = .ok (.iaload, 1) := by decide +kernel
theorem dX7_shadeOf_6 : decode cX7_shadeOf 6 = .ok (.aload_n 1, 1) := by decide +kernel
theorem dX7_shadeOf_7 : decode cX7_shadeOf 7 = .ok (.bipush 9, 2) := by decide +kernel
theorem dX7_shadeOf_9 : decode cX7_shadeOf 9 = .ok (.iload_n 2, 1) := by decide +kernel
theorem dX7_shadeOf_10 : decode cX7_shadeOf 10 = .ok (.iadd, 1) := by decide +kernel
theorem dX7_shadeOf_11 : decode cX7_shadeOf 11 = .ok (.iaload, 1) := by decide +kernel
theorem dX7_shadeOf_12 : decode cX7_shadeOf 12 = .ok (.aload_n 1, 1) := by decide +kernel
theorem dX7_shadeOf_13 : decode cX7_shadeOf 13 = .ok (.bipush 14, 2) := by decide +kernel
theorem dX7_shadeOf_15 : decode cX7_shadeOf 15 = .ok (.iload_n 2, 1) := by decide +kernel
theorem dX7_shadeOf_16 : decode cX7_shadeOf 16 = .ok (.iadd, 1) := by decide +kernel
theorem dX7_shadeOf_17 : decode cX7_shadeOf 17 = .ok (.iaload, 1) := by decide +kernel
theorem dX7_shadeOf_18 : decode cX7_shadeOf 18 = .ok (.iconst 1, 1) := by decide +kernel
theorem dX7_shadeOf_19 : decode cX7_shadeOf 19 = .ok (.if_icmp .ne 7, 3) := by decide +kernel
theorem dX7_shadeOf_22 : decode cX7_shadeOf 22 = .ok (.iconst 1, 1) := by decide +kernel
theorem dX7_shadeOf_23 : decode cX7_shadeOf 23 = .ok (.goto 4, 3) := by decide +kernel
theorem dX7_shadeOf_26 : decode cX7_shadeOf 26 = .ok (.iconst 0, 1) := by decide +kernel
theorem dX7_shadeOf_27 : decode cX7_shadeOf 27 = .ok (.aload_n 1, 1) := by decide +kernel
theorem dX7_shadeOf_28 : decode cX7_shadeOf 28 = .ok (.invokevirtual 125, 3) := by decide +kernel
theorem dX7_shadeOf_31 : decode cX7_shadeOf 31 = .ok (.ireturn, 1) := by decide +kernel
set_option maxRecDepth 20000 in
theorem ggX7_under_X7_shadeOf : GoodIn wsX7_under wsX7_shadeOf := goodIn_r _ [7, 8, 9, 10, 6, 11, 12, 16, 17, 18, 19, 20, 21, 22, 23, 24, 25, 26, 27, 28, 29, 30, 31, 32, 33, 34, 35, 36, 37, 38, 39, 40, 41, 42, 43, 44] (by decide +kernel) (by decide +kernel)
set_option maxRecDepth 20000 in
theorem gX7_under_X7_shadeOf : GoodIn wsX7_under (wsV RX7 129 RX7 yX7_shadeOf wsX7_shadeOf) := goodIn_app (goodIn_of _ (by decide +kernel)) ggX7_under_X7_shadeOf
set_option maxRecDepth 20000 in
theorem ggX7_under_X7_has : GoodIn wsX7_under wsX7_has := goodIn_r _ [15] (by decide +kernel) (by decide +kernel)
set_option maxRecDepth 20000 in
theorem gX7_under_X7_has : GoodIn wsX7_under (va_wsS RX7 133 yX7_has wsX7_has) := goodIn_app (goodIn_of _ (by decide +kernel)) ggX7_under_X7_has
set_option maxRecDepth 20000 in
theorem ggX7_under_X7_shadeBy : GoodIn wsX7_under wsX7_shadeBy := goodIn_r _ [11, 12, 16, 17, 18, 19, 20, 21, 22, 23, 24, 25, 26, 27, 28, 29, 30, 31, 32, 33, 34, 35, 36, 37, 38, 39, 40, 41, 42, 43, 44] (by decide +kernel) (by decide +kernel)
set_option maxRecDepth 20000 in
theorem gX7_under_X7_shadeBy : GoodIn wsX7_under (wsV RX7 125 RX7 yX7_shadeBy wsX7_shadeBy) := goodIn_app (goodIn_of _ (by decide +kernel)) ggX7_under_X7_shadeBy
theorem dX7_under_0 : decode cX7_under 0 = .ok (.bipush (-9), 2) := by decide +kernel
theorem dX7_under_2 : decode cX7_under 2 = .ok (.istore_n 3, 1) := by decide +kernel
theorem dX7_under_3 : decode cX7_under 3 = .ok (.iconst 0, 1) := by decide +kernel
theorem dX7_under_4 : decode cX7_under 4 = .ok (.istore 4, 2) := by decide +kernel
theorem dX7_under_6 : decode cX7_under 6 = .ok (.iconst 0, 1) := by decide +kernel
theorem dX7_under_7 : decode cX7_under 7 = .ok (.istore 5, 2) := by decide +kernel
theorem dX7_under_9 : decode cX7_under 9 = .ok (.iload 5, 2) := by decide +kernel
theorem dX7_under_11 : decode cX7_under 11 = .ok (.aload_n 1, 1) := by decide +kernel
theorem dX7_under_12 : decode cX7_under 12 = .ok (.iconst 3, 1) := by decide +kernel
theorem dX7_under_13 : decode cX7_under 13 = .ok (.iaload, 1) := by decide +kernel
theorem dX7_under_14 : decode cX7_under 14 = .ok (.if_icmp .ge 47, 3) := by decide +kernel
theorem dX7_under_17 : decode cX7_under 17 = .ok (.aload_n 0, 1) := by decide +kernel
theorem dX7_under_18 : decode cX7_under 18 = .ok (.aload_n 1, 1) := by decide +kernel
theorem dX7_under_19 : decode cX7_under 19 = .ok (.iload 5, 2) := by decide +kernel
theorem dX7_under_21 : decode cX7_under 21 = .ok (.invokevirtual 129, 3) := by decide +kernel
theorem dX7_under_24 : decode cX7_under 24 = .ok (.iload_n 2, 1) := by decide +kernel
theorem dX7_under_25 : decode cX7_under 25 = .ok (.invokestatic 133, 3) := by decide +kernel
theorem dX7_under_28 : decode cX7_under 28 = .ok (.ifCond .eq 27, 3) := by decide +kernel
theorem dX7_under_31 : decode cX7_under 31 = .ok (.aload_n 1, 1) := by decide +kernel
theorem dX7_under_32 : decode cX7_under 32 = .ok (.bipush 9, 2) := by decide +kernel
theorem dX7_under_34 : decode cX7_under 34 = .ok (.iload 5, 2) := by decide +kernel
theorem dX7_under_36 : decode cX7_under 36 = .ok (.iadd, 1) := by decide +kernel
theorem dX7_under_37 : decode cX7_under 37 = .ok (.iaload, 1) := by decide +kernel
theorem dX7_under_38 : decode cX7_under 38 = .ok (.iload 4, 2) := by decide +kernel
theorem dX7_under_40 : decode cX7_under 40 = .ok (.if_icmp .le 15, 3) := by decide +kernel
theorem dX7_under_43 : decode cX7_under 43 = .ok (.iload 5, 2) := by decide +kernel
theorem dX7_under_45 : decode cX7_under 45 = .ok (.istore_n 3, 1) := by decide +kernel
theorem dX7_under_46 : decode cX7_under 46 = .ok (.aload_n 1, 1) := by decide +kernel
theorem dX7_under_47 : decode cX7_under 47 = .ok (.bipush 9, 2) := by decide +kernel
theorem dX7_under_49 : decode cX7_under 49 = .ok (.iload 5, 2) := by decide +kernel
theorem dX7_under_51 : decode cX7_under 51 = .ok (.iadd, 1) := by decide +kernel
theorem dX7_under_52 : decode cX7_under 52 = .ok (.iaload, 1) := by decide +kernel
theorem dX7_under_53 : decode cX7_under 53 = .ok (.istore 4, 2) := by decide +kernel
theorem dX7_under_55 : decode cX7_under 55 = .ok (.iinc 5 1, 3) := by decide +kernel
theorem dX7_under_58 : decode cX7_under 58 = .ok (.goto (-49), 3) := by decide +kernel
theorem dX7_under_61 : decode cX7_under 61 = .ok (.aload_n 0, 1) := by decide +kernel
theorem dX7_under_62 : decode cX7_under 62 = .ok (.getfield 48, 3) := by decide +kernel
theorem dX7_under_65 : decode cX7_under 65 = .ok (.ifCond .lt 37, 3) := by decide +kernel
theorem dX7_under_68 : decode cX7_under 68 = .ok (.aload_n 0, 1) := by decide +kernel
theorem dX7_under_69 : decode cX7_under 69 = .ok (.getfield 136, 3) := by decide +kernel
theorem dX7_under_72 : decode cX7_under 72 = .ok (.iload 4, 2) := by decide +kernel
theorem dX7_under_74 : decode cX7_under 74 = .ok (.if_icmp .le 28, 3) := by decide +kernel
theorem dX7_under_77 : decode cX7_under 77 = .ok (.aload_n 0, 1) := by decide +kernel
theorem dX7_under_78 : decode cX7_under 78 = .ok (.aload_n 0, 1) := by decide +kernel
theorem dX7_under_79 : decode cX7_under 79 = .ok (.getfield 48, 3) := by decide +kernel
theorem dX7_under_82 : decode cX7_under 82 = .ok (.aload_n 0, 1) := by decide +kernel
theorem dX7_under_83 : decode cX7_under 83 = .ok (.getfield 136, 3) := by decide +kernel
theorem dX7_under_86 : decode cX7_under 86 = .ok (.iconst 1, 1) := by decide +kernel
theorem dX7_under_87 : decode cX7_under 87 = .ok (.aload_n 1, 1) := by decide +kernel
theorem dX7_under_88 : decode cX7_under 88 = .ok (.invokevirtual 125, 3) := by decide +kernel
theorem dX7_under_91 : decode cX7_under 91 = .ok (.iload_n 2, 1) := by decide +kernel
theorem dX7_under_92 : decode cX7_under 92 = .ok (.invokestatic 133, 3) := by decide +kernel
theorem dX7_under_95 : decode cX7_under 95 = .ok (.ifCond .eq 7, 3) := by decide +kernel
theorem dX7_under_98 : decode cX7_under 98 = .ok (.aload_n 1, 1) := by decide +kernel
theorem dX7_under_99 : decode cX7_under 99 = .ok (.iconst 3, 1) := by decide +kernel
theorem dX7_under_100 : decode cX7_under 100 = .ok (.iaload, 1) := by decide +kernel
theorem dX7_under_101 : decode cX7_under 101 = .ok (.istore_n 3, 1) := by decide +kernel
theorem dX7_under_102 : decode cX7_under 102 = .ok (.iload_n 3, 1) := by decide +kernel
theorem dX7_under_103 : decode cX7_under 103 = .ok (.ireturn, 1) := by decide +kernel
set_option maxRecDepth 20000 in
theorem ggX7_wants_X7_has : GoodIn wsX7_wants wsX7_has := goodIn_r _ [5] (by decide +kernel) (by decide +kernel)
set_option maxRecDepth 20000 in
theorem gX7_wants_X7_has : GoodIn wsX7_wants (va_wsS RX7 133 yX7_has wsX7_has) := goodIn_app (goodIn_of _ (by decide +kernel)) ggX7_wants_X7_has
theorem dX7_wants_0 : decode cX7_wants 0 = .ok (.iload_n 2, 1) := by decide +kernel
theorem dX7_wants_1 : decode cX7_wants 1 = .ok (.aload_n 1, 1) := by decide +kernel
theorem dX7_wants_2 : decode cX7_wants 2 = .ok (.iconst 3, 1) := by decide +kernel
theorem dX7_wants_3 : decode cX7_wants 3 = .ok (.iaload, 1) := by decide +kernel
theorem dX7_wants_4 : decode cX7_wants 4 = .ok (.if_icmp .ne 10, 3) := by decide +kernel
theorem dX7_wants_7 : decode cX7_wants 7 = .ok (.aload_n 0, 1) := by decide +kernel
theorem dX7_wants_8 : decode cX7_wants 8 = .ok (.getfield 139, 3) := by decide +kernel
theorem dX7_wants_11 : decode cX7_wants 11 = .ok (.goto 9, 3) := by decide +kernel
theorem dX7_wants_14 : decode cX7_wants 14 = .ok (.aload_n 1, 1) := by decide +kernel
theorem dX7_wants_15 : decode cX7_wants 15 = .ok (.bipush 19, 2) := by decide +kernel
theorem dX7_wants_17 : decode cX7_wants 17 = .ok (.iload_n 2, 1) := by decide +kernel
theorem dX7_wants_18 : decode cX7_wants 18 = .ok (.iadd, 1) := by decide +kernel
theorem dX7_wants_19 : decode cX7_wants 19 = .ok (.iaload, 1) := by decide +kernel
theorem dX7_wants_20 : decode cX7_wants 20 = .ok (.iload_n 3, 1) := by decide +kernel
theorem dX7_wants_21 : decode cX7_wants 21 = .ok (.invokestatic 133, 3) := by decide +kernel
theorem dX7_wants_24 : decode cX7_wants 24 = .ok (.ireturn, 1) := by decide +kernel
set_option maxRecDepth 20000 in
theorem ggX7_standOf_X7_under : GoodIn wsX7_standOf wsX7_under := goodIn_r _ [5, 6, 7, 8, 9, 10, 4, 11, 12, 13, 14, 15, 16, 17, 18, 19, 25, 26, 27, 28, 29, 30, 31, 32, 33, 34, 35, 36, 37, 38, 39, 40, 41, 42, 43, 44, 45, 46, 47, 48, 49, 50, 51, 52, 53] (by decide +kernel) (by decide +kernel)
set_option maxRecDepth 20000 in
theorem gX7_standOf_X7_under : GoodIn wsX7_standOf (wsV RX7 142 RX7 yX7_under wsX7_under) := goodIn_app (goodIn_of _ (by decide +kernel)) ggX7_standOf_X7_under
set_option maxRecDepth 20000 in
theorem ggX7_standOf_X7_wants : GoodIn wsX7_standOf wsX7_wants := goodIn_r _ [23, 24, 17, 18, 4, 19, 25, 26, 27, 28, 29, 30, 31, 32, 33, 34, 35, 36, 37, 38, 39, 40, 41, 42, 43, 44, 45, 46, 47, 48, 49, 50, 51, 52, 53] (by decide +kernel) (by decide +kernel)
set_option maxRecDepth 20000 in
theorem gX7_standOf_X7_wants : GoodIn wsX7_standOf (wsV RX7 145 RX7 yX7_wants wsX7_wants) := goodIn_app (goodIn_of _ (by decide +kernel)) ggX7_standOf_X7_wants
theorem dX7_standOf_0 : decode cX7_standOf 0 = .ok (.aload_n 0, 1) := by decide +kernel
theorem dX7_standOf_1 : decode cX7_standOf 1 = .ok (.aload_n 1, 1) := by decide +kernel
theorem dX7_standOf_2 : decode cX7_standOf 2 = .ok (.iload_n 2, 1) := by decide +kernel
theorem dX7_standOf_3 : decode cX7_standOf 3 = .ok (.invokevirtual 142, 3) := by decide +kernel
theorem dX7_standOf_6 : decode cX7_standOf 6 = .ok (.istore 4, 2) := by decide +kernel
theorem dX7_standOf_8 : decode cX7_standOf 8 = .ok (.iload 4, 2) := by decide +kernel
theorem dX7_standOf_10 : decode cX7_standOf 10 = .ok (.bipush (-9), 2) := by decide +kernel
theorem dX7_standOf_12 : decode cX7_standOf 12 = .ok (.if_icmp .ne 7, 3) := by decide +kernel
theorem dX7_standOf_15 : decode cX7_standOf 15 = .ok (.iconst 0, 1) := by decide +kernel
theorem dX7_standOf_16 : decode cX7_standOf 16 = .ok (.goto 19, 3) := by decide +kernel
theorem dX7_standOf_19 : decode cX7_standOf 19 = .ok (.aload_n 0, 1) := by decide +kernel
theorem dX7_standOf_20 : decode cX7_standOf 20 = .ok (.aload_n 1, 1) := by decide +kernel
theorem dX7_standOf_21 : decode cX7_standOf 21 = .ok (.iload 4, 2) := by decide +kernel
theorem dX7_standOf_23 : decode cX7_standOf 23 = .ok (.iload_n 3, 1) := by decide +kernel
theorem dX7_standOf_24 : decode cX7_standOf 24 = .ok (.invokevirtual 145, 3) := by decide +kernel
theorem dX7_standOf_27 : decode cX7_standOf 27 = .ok (.ifCond .eq 7, 3) := by decide +kernel
theorem dX7_standOf_30 : decode cX7_standOf 30 = .ok (.iconst 1, 1) := by decide +kernel
theorem dX7_standOf_31 : decode cX7_standOf 31 = .ok (.goto 4, 3) := by decide +kernel
theorem dX7_standOf_34 : decode cX7_standOf 34 = .ok (.iconst (-1), 1) := by decide +kernel
theorem dX7_standOf_35 : decode cX7_standOf 35 = .ok (.ireturn, 1) := by decide +kernel
set_option maxRecDepth 20000 in
theorem ggX7_balance_X7_has : GoodIn wsX7_balance wsX7_has := goodIn_r _ [6] (by decide +kernel) (by decide +kernel)
set_option maxRecDepth 20000 in
theorem gX7_balance_X7_has : GoodIn wsX7_balance (va_wsS RX7 133 yX7_has wsX7_has) := goodIn_app (goodIn_of _ (by decide +kernel)) ggX7_balance_X7_has
set_option maxRecDepth 20000 in
theorem ggX7_balance_X7_standOf : GoodIn wsX7_balance wsX7_standOf := goodIn_r _ [10, 11, 12, 13, 5, 14, 15, 16, 17, 18, 19, 20, 21, 22, 23, 24, 25, 3, 4, 6, 26, 27, 28, 29, 30, 31, 32, 33, 34, 35, 36, 37, 38, 39, 40, 41, 42, 43, 44, 45, 46, 47, 48, 49, 50, 51, 52, 53, 54, 55, 56, 57, 58, 59] (by decide +kernel) (by decide +kernel)
set_option maxRecDepth 20000 in
theorem gX7_balance_X7_standOf : GoodIn wsX7_balance (wsV RX7 149 RX7 yX7_standOf wsX7_standOf) := goodIn_app (goodIn_of _ (by decide +kernel)) ggX7_balance_X7_standOf
theorem dX7_balance_0 : decode cX7_balance 0 = .ok (.iconst 0, 1) := by decide +kernel
theorem dX7_balance_1 : decode cX7_balance 1 = .ok (.istore 4, 2) := by decide +kernel
theorem dX7_balance_3 : decode cX7_balance 3 = .ok (.iconst 0, 1) := by decide +kernel
theorem dX7_balance_4 : decode cX7_balance 4 = .ok (.istore 5, 2) := by decide +kernel
theorem dX7_balance_6 : decode cX7_balance 6 = .ok (.iload 5, 2) := by decide +kernel
theorem dX7_balance_8 : decode cX7_balance 8 = .ok (.aload_n 0, 1) := by decide +kernel
theorem dX7_balance_9 : decode cX7_balance 9 = .ok (.getfield 55, 3) := by decide +kernel
theorem dX7_balance_12 : decode cX7_balance 12 = .ok (.if_icmp .ge 48, 3) := by decide +kernel
theorem dX7_balance_15 : decode cX7_balance 15 = .ok (.iload 4, 2) := by decide +kernel
theorem dX7_balance_17 : decode cX7_balance 17 = .ok (.iload_n 3, 1) := by decide +kernel
theorem dX7_balance_18 : decode cX7_balance 18 = .ok (.iload 5, 2) := by decide +kernel
theorem dX7_balance_20 : decode cX7_balance 20 = .ok (.invokestatic 133, 3) := by decide +kernel
theorem dX7_balance_23 : decode cX7_balance 23 = .ok (.ifCond .eq 27, 3) := by decide +kernel
theorem dX7_balance_26 : decode cX7_balance 26 = .ok (.aload_n 0, 1) := by decide +kernel
theorem dX7_balance_27 : decode cX7_balance 27 = .ok (.getfield 26, 3) := by decide +kernel
theorem dX7_balance_30 : decode cX7_balance 30 = .ok (.iload 5, 2) := by decide +kernel
theorem dX7_balance_32 : decode cX7_balance 32 = .ok (.iaload, 1) := by decide +kernel
theorem dX7_balance_33 : decode cX7_balance 33 = .ok (.aload_n 0, 1) := by decide +kernel
theorem dX7_balance_34 : decode cX7_balance 34 = .ok (.aload_n 1, 1) := by decide +kernel
theorem dX7_balance_35 : decode cX7_balance 35 = .ok (.aload_n 1, 1) := by decide +kernel
theorem dX7_balance_36 : decode cX7_balance 36 = .ok (.bipush 29, 2) := by decide +kernel
theorem dX7_balance_38 : decode cX7_balance 38 = .ok (.iload 5, 2) := by decide +kernel
theorem dX7_balance_40 : decode cX7_balance 40 = .ok (.iadd, 1) := by decide +kernel
theorem dX7_balance_41 : decode cX7_balance 41 = .ok (.iaload, 1) := by decide +kernel
theorem dX7_balance_42 : decode cX7_balance 42 = .ok (.iload_n 2, 1) := by decide +kernel
theorem dX7_balance_43 : decode cX7_balance 43 = .ok (.invokevirtual 149, 3) := by decide +kernel
theorem dX7_balance_46 : decode cX7_balance 46 = .ok (.imul, 1) := by decide +kernel
theorem dX7_balance_47 : decode cX7_balance 47 = .ok (.goto 4, 3) := by decide +kernel
theorem dX7_balance_50 : decode cX7_balance 50 = .ok (.iconst 0, 1) := by decide +kernel
theorem dX7_balance_51 : decode cX7_balance 51 = .ok (.iadd, 1) := by decide +kernel
theorem dX7_balance_52 : decode cX7_balance 52 = .ok (.istore 4, 2) := by decide +kernel
theorem dX7_balance_54 : decode cX7_balance 54 = .ok (.iinc 5 1, 3) := by decide +kernel
theorem dX7_balance_57 : decode cX7_balance 57 = .ok (.goto (-51), 3) := by decide +kernel
theorem dX7_balance_60 : decode cX7_balance 60 = .ok (.iload 4, 2) := by decide +kernel
theorem dX7_balance_62 : decode cX7_balance 62 = .ok (.ireturn, 1) := by decide +kernel
theorem dX7_everybody_0 : decode cX7_everybody 0 = .ok (.iconst 1, 1) := by decide +kernel
theorem dX7_everybody_1 : decode cX7_everybody 1 = .ok (.aload_n 0, 1) := by decide +kernel
theorem dX7_everybody_2 : decode cX7_everybody 2 = .ok (.getfield 55, 3) := by decide +kernel
theorem dX7_everybody_5 : decode cX7_everybody 5 = .ok (.ishl, 1) := by decide +kernel
theorem dX7_everybody_6 : decode cX7_everybody 6 = .ok (.iconst 1, 1) := by decide +kernel
theorem dX7_everybody_7 : decode cX7_everybody 7 = .ok (.isub, 1) := by decide +kernel
theorem dX7_everybody_8 : decode cX7_everybody 8 = .ok (.ireturn, 1) := by decide +kernel
set_option maxRecDepth 20000 in
theorem ggX7_forOf_X7_standOf : GoodIn wsX7_forOf wsX7_standOf := goodIn_r _ [7, 8, 9, 10, 6, 11, 12, 13, 14, 15, 16, 17, 18, 19, 20, 21, 22, 23, 24, 25, 26, 27, 28, 29, 30, 31, 32, 33, 34, 35, 36, 37, 38, 39, 40, 41, 42, 43, 44, 45, 46, 47, 48, 49, 50, 51, 52, 53, 54, 55, 56, 57, 58, 59] (by decide +kernel) (by decide +kernel)
set_option maxRecDepth 20000 in
theorem gX7_forOf_X7_standOf : GoodIn wsX7_forOf (wsV RX7 149 RX7 yX7_standOf wsX7_standOf) := goodIn_app (goodIn_of _ (by decide +kernel)) ggX7_forOf_X7_standOf
theorem dX7_forOf_0 : decode cX7_forOf 0 = .ok (.iconst 0, 1) := by decide +kernel
theorem dX7_forOf_1 : decode cX7_forOf 1 = .ok (.istore_n 3, 1) := by decide +kernel
theorem dX7_forOf_2 : decode cX7_forOf 2 = .ok (.iconst 0, 1) := by decide +kernel
theorem dX7_forOf_3 : decode cX7_forOf 3 = .ok (.istore 4, 2) := by decide +kernel
theorem dX7_forOf_5 : decode cX7_forOf 5 = .ok (.iload 4, 2) := by decide +kernel
theorem dX7_forOf_7 : decode cX7_forOf 7 = .ok (.aload_n 0, 1) := by decide +kernel
theorem dX7_forOf_8 : decode cX7_forOf 8 = .ok (.getfield 55, 3) := by decide +kernel
theorem dX7_forOf_11 : decode cX7_forOf 11 = .ok (.if_icmp .ge 39, 3) := by decide +kernel
theorem dX7_forOf_14 : decode cX7_forOf 14 = .ok (.iload_n 3, 1) := by decide +kernel
theorem dX7_forOf_15 : decode cX7_forOf 15 = .ok (.aload_n 0, 1) := by decide +kernel
theorem dX7_forOf_16 : decode cX7_forOf 16 = .ok (.aload_n 1, 1) := by decide +kernel
theorem dX7_forOf_17 : decode cX7_forOf 17 = .ok (.aload_n 1, 1) := by decide +kernel
theorem dX7_forOf_18 : decode cX7_forOf 18 = .ok (.bipush 29, 2) := by decide +kernel
theorem dX7_forOf_20 : decode cX7_forOf 20 = .ok (.iload 4, 2) := by decide +kernel
theorem dX7_forOf_22 : decode cX7_forOf 22 = .ok (.iadd, 1) := by decide +kernel
theorem dX7_forOf_23 : decode cX7_forOf 23 = .ok (.iaload, 1) := by decide +kernel
theorem dX7_forOf_24 : decode cX7_forOf 24 = .ok (.iload_n 2, 1) := by decide +kernel
theorem dX7_forOf_25 : decode cX7_forOf 25 = .ok (.invokevirtual 149, 3) := by decide +kernel
theorem dX7_forOf_28 : decode cX7_forOf 28 = .ok (.ifCond .le 13, 3) := by decide +kernel
theorem dX7_forOf_31 : decode cX7_forOf 31 = .ok (.aload_n 0, 1) := by decide +kernel
theorem dX7_forOf_32 : decode cX7_forOf 32 = .ok (.getfield 26, 3) := by decide +kernel
theorem dX7_forOf_35 : decode cX7_forOf 35 = .ok (.iload 4, 2) := by decide +kernel
theorem dX7_forOf_37 : decode cX7_forOf 37 = .ok (.iaload, 1) := by decide +kernel
theorem dX7_forOf_38 : decode cX7_forOf 38 = .ok (.goto 4, 3) := by decide +kernel
theorem dX7_forOf_41 : decode cX7_forOf 41 = .ok (.iconst 0, 1) := by decide +kernel
theorem dX7_forOf_42 : decode cX7_forOf 42 = .ok (.iadd, 1) := by decide +kernel
theorem dX7_forOf_43 : decode cX7_forOf 43 = .ok (.istore_n 3, 1) := by decide +kernel
theorem dX7_forOf_44 : decode cX7_forOf 44 = .ok (.iinc 4 1, 3) := by decide +kernel
theorem dX7_forOf_47 : decode cX7_forOf 47 = .ok (.goto (-42), 3) := by decide +kernel
theorem dX7_forOf_50 : decode cX7_forOf 50 = .ok (.iload_n 3, 1) := by decide +kernel
theorem dX7_forOf_51 : decode cX7_forOf 51 = .ok (.ireturn, 1) := by decide +kernel
set_option maxRecDepth 20000 in
theorem ggX7_weightUnder_X7_under : GoodIn wsX7_weightUnder wsX7_under := goodIn_r _ [8, 9, 10, 11, 12, 13, 7, 14, 15, 16, 17, 18, 19, 20, 21, 22, 23, 24, 25, 26, 27, 28, 29, 30, 31, 32, 33, 34, 35, 36, 37, 38, 39, 40, 41, 42, 43, 44, 45, 46, 47, 48, 49, 50, 51] (by decide +kernel) (by decide +kernel)
set_option maxRecDepth 20000 in
theorem gX7_weightUnder_X7_under : GoodIn wsX7_weightUnder (wsV RX7 142 RX7 yX7_under wsX7_under) := goodIn_app (goodIn_of _ (by decide +kernel)) ggX7_weightUnder_X7_under
theorem dX7_weightUnder_0 : decode cX7_weightUnder 0 = .ok (.iconst 0, 1) := by decide +kernel
theorem dX7_weightUnder_1 : decode cX7_weightUnder 1 = .ok (.istore_n 2, 1) := by decide +kernel
theorem dX7_weightUnder_2 : decode cX7_weightUnder 2 = .ok (.iconst 0, 1) := by decide +kernel
theorem dX7_weightUnder_3 : decode cX7_weightUnder 3 = .ok (.istore_n 3, 1) := by decide +kernel
theorem dX7_weightUnder_4 : decode cX7_weightUnder 4 = .ok (.iload_n 3, 1) := by decide +kernel
theorem dX7_weightUnder_5 : decode cX7_weightUnder 5 = .ok (.aload_n 0, 1) := by decide +kernel
theorem dX7_weightUnder_6 : decode cX7_weightUnder 6 = .ok (.getfield 55, 3) := by decide +kernel
theorem dX7_weightUnder_9 : decode cX7_weightUnder 9 = .ok (.if_icmp .ge 43, 3) := by decide +kernel
theorem dX7_weightUnder_12 : decode cX7_weightUnder 12 = .ok (.iload_n 2, 1) := by decide +kernel
theorem dX7_weightUnder_13 : decode cX7_weightUnder 13 = .ok (.aload_n 0, 1) := by decide +kernel
theorem dX7_weightUnder_14 : decode cX7_weightUnder 14 = .ok (.aload_n 0, 1) := by decide +kernel
theorem dX7_weightUnder_15 : decode cX7_weightUnder 15 = .ok (.getfield 29, 3) := by decide +kernel
theorem dX7_weightUnder_18 : decode cX7_weightUnder 18 = .ok (.aload_n 0, 1) := by decide +kernel
theorem dX7_weightUnder_19 : decode cX7_weightUnder 19 = .ok (.getfield 29, 3) := by decide +kernel
theorem dX7_weightUnder_22 : decode cX7_weightUnder 22 = .ok (.bipush 29, 2) := by decide +kernel
theorem dX7_weightUnder_24 : decode cX7_weightUnder 24 = .ok (.iload_n 3, 1) := by decide +kernel
theorem dX7_weightUnder_25 : decode cX7_weightUnder 25 = .ok (.iadd, 1) := by decide +kernel
theorem dX7_weightUnder_26 : decode cX7_weightUnder 26 = .ok (.iaload, 1) := by decide +kernel
theorem dX7_weightUnder_27 : decode cX7_weightUnder 27 = .ok (.invokevirtual 142, 3) := by decide +kernel
theorem dX7_weightUnder_30 : decode cX7_weightUnder 30 = .ok (.iload_n 1, 1) := by decide +kernel
theorem dX7_weightUnder_31 : decode cX7_weightUnder 31 = .ok (.if_icmp .ne 12, 3) := by decide +kernel
theorem dX7_weightUnder_34 : decode cX7_weightUnder 34 = .ok (.aload_n 0, 1) := by decide +kernel
theorem dX7_weightUnder_35 : decode cX7_weightUnder 35 = .ok (.getfield 26, 3) := by decide +kernel
theorem dX7_weightUnder_38 : decode cX7_weightUnder 38 = .ok (.iload_n 3, 1) := by decide +kernel
theorem dX7_weightUnder_39 : decode cX7_weightUnder 39 = .ok (.iaload, 1) := by decide +kernel
theorem dX7_weightUnder_40 : decode cX7_weightUnder 40 = .ok (.goto 4, 3) := by decide +kernel
theorem dX7_weightUnder_43 : decode cX7_weightUnder 43 = .ok (.iconst 0, 1) := by decide +kernel
theorem dX7_weightUnder_44 : decode cX7_weightUnder 44 = .ok (.iadd, 1) := by decide +kernel
theorem dX7_weightUnder_45 : decode cX7_weightUnder 45 = .ok (.istore_n 2, 1) := by decide +kernel
theorem dX7_weightUnder_46 : decode cX7_weightUnder 46 = .ok (.iinc 3 1, 3) := by decide +kernel
theorem dX7_weightUnder_49 : decode cX7_weightUnder 49 = .ok (.goto (-45), 3) := by decide +kernel
theorem dX7_weightUnder_52 : decode cX7_weightUnder 52 = .ok (.iload_n 2, 1) := by decide +kernel
theorem dX7_weightUnder_53 : decode cX7_weightUnder 53 = .ok (.ireturn, 1) := by decide +kernel
set_option maxRecDepth 20000 in
theorem ggX7_tree_X7_isTree : GoodIn wsX7_tree wsX7_isTree := goodIn_r _ [6, 1, 7, 8, 5, 9, 19, 20, 21, 22, 23, 24, 25, 26, 27, 28, 29, 30, 31, 32, 33, 34, 35, 36, 37, 38, 39, 40, 41, 42, 43, 44, 45, 46, 47] (by decide +kernel) (by decide +kernel)
set_option maxRecDepth 20000 in
theorem gX7_tree_X7_isTree : GoodIn wsX7_tree (wsV RX7 153 RX7 yX7_isTree wsX7_isTree) := goodIn_app (goodIn_of _ (by decide +kernel)) ggX7_tree_X7_isTree
set_option maxRecDepth 20000 in
theorem ggX7_tree_X7_in : GoodIn wsX7_tree wsX7_in := goodIn_r _ [9] (by decide +kernel) (by decide +kernel)
set_option maxRecDepth 20000 in
theorem gX7_tree_X7_in : GoodIn wsX7_tree (va_wsS RX7 51 yX7_in wsX7_in) := goodIn_app (goodIn_of _ (by decide +kernel)) ggX7_tree_X7_in
set_option maxRecDepth 20000 in
theorem ggX7_tree_X7_shadeOf : GoodIn wsX7_tree wsX7_shadeOf := goodIn_r _ [13, 14, 15, 16, 5, 17, 18, 19, 20, 21, 22, 23, 24, 25, 26, 27, 28, 29, 30, 31, 32, 33, 34, 35, 36, 37, 38, 39, 40, 41, 42, 43, 44, 45, 46, 47] (by decide +kernel) (by decide +kernel)
set_option maxRecDepth 20000 in
theorem gX7_tree_X7_shadeOf : GoodIn wsX7_tree (wsV RX7 129 RX7 yX7_shadeOf wsX7_shadeOf) := goodIn_app (goodIn_of _ (by decide +kernel)) ggX7_tree_X7_shadeOf
theorem dX7_tree_0 : decode cX7_tree 0 = .ok (.aload_n 0, 1) := by decide +kernel
theorem dX7_tree_1 : decode cX7_tree 1 = .ok (.iload_n 1, 1) := by decide +kernel
theorem dX7_tree_2 : decode cX7_tree 2 = .ok (.invokevirtual 153, 3) := by decide +kernel
theorem dX7_tree_5 : decode cX7_tree 5 = .ok (.ifCond .eq 12, 3) := by decide +kernel
theorem dX7_tree_8 : decode cX7_tree 8 = .ok (.iload_n 2, 1) := by decide +kernel
theorem dX7_tree_9 : decode cX7_tree 9 = .ok (.iconst 0, 1) := by decide +kernel
theorem dX7_tree_10 : decode cX7_tree 10 = .ok (.iconst 5, 1) := by decide +kernel
theorem dX7_tree_11 : decode cX7_tree 11 = .ok (.invokestatic 51, 3) := by decide +kernel
theorem dX7_tree_14 : decode cX7_tree 14 = .ok (.ifCond .ne 5, 3) := by decide +kernel
theorem dX7_tree_17 : decode cX7_tree 17 = .ok (.iconst (-1), 1) := by decide +kernel
theorem dX7_tree_18 : decode cX7_tree 18 = .ok (.ireturn, 1) := by decide +kernel
theorem dX7_tree_19 : decode cX7_tree 19 = .ok (.iload_n 2, 1) := by decide +kernel
theorem dX7_tree_20 : decode cX7_tree 20 = .ok (.iconst 4, 1) := by decide +kernel
theorem dX7_tree_21 : decode cX7_tree 21 = .ok (.if_icmp .ne 15, 3) := by decide +kernel
theorem dX7_tree_24 : decode cX7_tree 24 = .ok (.aload_n 0, 1) := by decide +kernel
theorem dX7_tree_25 : decode cX7_tree 25 = .ok (.aload_n 0, 1) := by decide +kernel
theorem dX7_tree_26 : decode cX7_tree 26 = .ok (.getfield 29, 3) := by decide +kernel
theorem dX7_tree_29 : decode cX7_tree 29 = .ok (.iload_n 1, 1) := by decide +kernel
theorem dX7_tree_30 : decode cX7_tree 30 = .ok (.invokevirtual 129, 3) := by decide +kernel
theorem dX7_tree_33 : decode cX7_tree 33 = .ok (.goto 32, 3) := by decide +kernel
theorem dX7_tree_36 : decode cX7_tree 36 = .ok (.iload_n 2, 1) := by decide +kernel
theorem dX7_tree_37 : decode cX7_tree 37 = .ok (.iconst 5, 1) := by decide +kernel
theorem dX7_tree_38 : decode cX7_tree 38 = .ok (.if_icmp .ne 15, 3) := by decide +kernel
theorem dX7_tree_41 : decode cX7_tree 41 = .ok (.aload_n 0, 1) := by decide +kernel
theorem dX7_tree_42 : decode cX7_tree 42 = .ok (.getfield 29, 3) := by decide +kernel
theorem dX7_tree_45 : decode cX7_tree 45 = .ok (.bipush 24, 2) := by decide +kernel
theorem dX7_tree_47 : decode cX7_tree 47 = .ok (.iload_n 1, 1) := by decide +kernel
theorem dX7_tree_48 : decode cX7_tree 48 = .ok (.iadd, 1) := by decide +kernel
theorem dX7_tree_49 : decode cX7_tree 49 = .ok (.iaload, 1) := by decide +kernel
theorem dX7_tree_50 : decode cX7_tree 50 = .ok (.goto 15, 3) := by decide +kernel
theorem dX7_tree_53 : decode cX7_tree 53 = .ok (.aload_n 0, 1) := by decide +kernel
theorem dX7_tree_54 : decode cX7_tree 54 = .ok (.getfield 29, 3) := by decide +kernel
theorem dX7_tree_57 : decode cX7_tree 57 = .ok (.iconst 4, 1) := by decide +kernel
theorem dX7_tree_58 : decode cX7_tree 58 = .ok (.iconst 5, 1) := by decide +kernel
theorem dX7_tree_59 : decode cX7_tree 59 = .ok (.iload_n 2, 1) := by decide +kernel
theorem dX7_tree_60 : decode cX7_tree 60 = .ok (.imul, 1) := by decide +kernel
theorem dX7_tree_61 : decode cX7_tree 61 = .ok (.iadd, 1) := by decide +kernel
theorem dX7_tree_62 : decode cX7_tree 62 = .ok (.iload_n 1, 1) := by decide +kernel
theorem dX7_tree_63 : decode cX7_tree 63 = .ok (.iadd, 1) := by decide +kernel
theorem dX7_tree_64 : decode cX7_tree 64 = .ok (.iaload, 1) := by decide +kernel
theorem dX7_tree_65 : decode cX7_tree 65 = .ok (.ireturn, 1) := by decide +kernel
set_option maxRecDepth 20000 in
theorem ggX7_person_X7_isOne : GoodIn wsX7_person wsX7_isOne := goodIn_r _ [7, 8, 9, 10, 6, 11, 30, 31, 32, 33, 34, 35, 36, 37, 38, 39, 40, 41, 42, 43, 44, 45, 46, 47, 48, 49, 50, 51, 52, 53, 54, 55, 56, 57, 58] (by decide +kernel) (by decide +kernel)
set_option maxRecDepth 20000 in
theorem gX7_person_X7_isOne : GoodIn wsX7_person (wsV RX7 157 RX7 yX7_isOne wsX7_isOne) := goodIn_app (goodIn_of _ (by decide +kernel)) ggX7_person_X7_isOne
set_option maxRecDepth 20000 in
theorem ggX7_person_X7_in : GoodIn wsX7_person wsX7_in := goodIn_r _ [11] (by decide +kernel) (by decide +kernel)
set_option maxRecDepth 20000 in
theorem gX7_person_X7_in : GoodIn wsX7_person (va_wsS RX7 51 yX7_in wsX7_in) := goodIn_app (goodIn_of _ (by decide +kernel)) ggX7_person_X7_in
set_option maxRecDepth 20000 in
theorem ggX7_person_X7_under : GoodIn wsX7_person wsX7_under := goodIn_r _ [15, 16, 17, 18, 19, 20, 6, 21, 22, 23, 24, 25, 26, 27, 28, 29, 30, 31, 32, 33, 34, 35, 36, 37, 38, 39, 40, 41, 42, 43, 44, 45, 46, 47, 48, 49, 50, 51, 52, 53, 54, 55, 56, 57, 58] (by decide +kernel) (by decide +kernel)
set_option maxRecDepth 20000 in
theorem gX7_person_X7_under : GoodIn wsX7_person (wsV RX7 142 RX7 yX7_under wsX7_under) := goodIn_app (goodIn_of _ (by decide +kernel)) ggX7_person_X7_under
theorem dX7_person_0 : decode cX7_person 0 = .ok (.aload_n 0, 1) := by decide +kernel
theorem dX7_person_1 : decode cX7_person 1 = .ok (.iload_n 1, 1) := by decide +kernel
theorem dX7_person_2 : decode cX7_person 2 = .ok (.invokevirtual 157, 3) := by decide +kernel
theorem dX7_person_5 : decode cX7_person 5 = .ok (.ifCond .eq 12, 3) := by decide +kernel
theorem dX7_person_8 : decode cX7_person 8 = .ok (.iload_n 2, 1) := by decide +kernel
theorem dX7_person_9 : decode cX7_person 9 = .ok (.iconst 0, 1) := by decide +kernel
theorem dX7_person_10 : decode cX7_person 10 = .ok (.iconst 2, 1) := by decide +kernel
theorem dX7_person_11 : decode cX7_person 11 = .ok (.invokestatic 51, 3) := by decide +kernel
theorem dX7_person_14 : decode cX7_person 14 = .ok (.ifCond .ne 5, 3) := by decide +kernel
theorem dX7_person_17 : decode cX7_person 17 = .ok (.iconst (-1), 1) := by decide +kernel
theorem dX7_person_18 : decode cX7_person 18 = .ok (.ireturn, 1) := by decide +kernel
theorem dX7_person_19 : decode cX7_person 19 = .ok (.iload_n 2, 1) := by decide +kernel
theorem dX7_person_20 : decode cX7_person 20 = .ok (.ifCond .ne 15, 3) := by decide +kernel
theorem dX7_person_23 : decode cX7_person 23 = .ok (.aload_n 0, 1) := by decide +kernel
theorem dX7_person_24 : decode cX7_person 24 = .ok (.getfield 29, 3) := by decide +kernel
theorem dX7_person_27 : decode cX7_person 27 = .ok (.bipush 29, 2) := by decide +kernel
theorem dX7_person_29 : decode cX7_person 29 = .ok (.iload_n 1, 1) := by decide +kernel
theorem dX7_person_30 : decode cX7_person 30 = .ok (.iadd, 1) := by decide +kernel
theorem dX7_person_31 : decode cX7_person 31 = .ok (.iaload, 1) := by decide +kernel
theorem dX7_person_32 : decode cX7_person 32 = .ok (.goto 34, 3) := by decide +kernel
theorem dX7_person_35 : decode cX7_person 35 = .ok (.iload_n 2, 1) := by decide +kernel
theorem dX7_person_36 : decode cX7_person 36 = .ok (.iconst 1, 1) := by decide +kernel
theorem dX7_person_37 : decode cX7_person 37 = .ok (.if_icmp .ne 12, 3) := by decide +kernel
theorem dX7_person_40 : decode cX7_person 40 = .ok (.aload_n 0, 1) := by decide +kernel
theorem dX7_person_41 : decode cX7_person 41 = .ok (.getfield 26, 3) := by decide +kernel
theorem dX7_person_44 : decode cX7_person 44 = .ok (.iload_n 1, 1) := by decide +kernel
theorem dX7_person_45 : decode cX7_person 45 = .ok (.iaload, 1) := by decide +kernel
theorem dX7_person_46 : decode cX7_person 46 = .ok (.goto 20, 3) := by decide +kernel
theorem dX7_person_49 : decode cX7_person 49 = .ok (.aload_n 0, 1) := by decide +kernel
theorem dX7_person_50 : decode cX7_person 50 = .ok (.aload_n 0, 1) := by decide +kernel
theorem dX7_person_51 : decode cX7_person 51 = .ok (.getfield 29, 3) := by decide +kernel
theorem dX7_person_54 : decode cX7_person 54 = .ok (.aload_n 0, 1) := by decide +kernel
theorem dX7_person_55 : decode cX7_person 55 = .ok (.getfield 29, 3) := by decide +kernel
theorem dX7_person_58 : decode cX7_person 58 = .ok (.bipush 29, 2) := by decide +kernel
theorem dX7_person_60 : decode cX7_person 60 = .ok (.iload_n 1, 1) := by decide +kernel
theorem dX7_person_61 : decode cX7_person 61 = .ok (.iadd, 1) := by decide +kernel
theorem dX7_person_62 : decode cX7_person 62 = .ok (.iaload, 1) := by decide +kernel
theorem dX7_person_63 : decode cX7_person 63 = .ok (.invokevirtual 142, 3) := by decide +kernel
theorem dX7_person_66 : decode cX7_person 66 = .ok (.ireturn, 1) := by decide +kernel
set_option maxRecDepth 20000 in
theorem ggX7_motion_X7_in : GoodIn wsX7_motion wsX7_in := goodIn_r _ [5] (by decide +kernel) (by decide +kernel)
set_option maxRecDepth 20000 in
theorem gX7_motion_X7_in : GoodIn wsX7_motion (va_wsS RX7 51 yX7_in wsX7_in) := goodIn_app (goodIn_of _ (by decide +kernel)) ggX7_motion_X7_in
set_option maxRecDepth 20000 in
theorem ggX7_motion_X7_everybody : GoodIn wsX7_motion wsX7_everybody := goodIn_r _ [9, 10, 47, 48, 49, 50, 51, 52, 53, 54, 55, 56, 57, 58, 59, 60, 61, 62, 63, 64, 65, 66, 67, 68, 69, 70, 71, 72, 73, 74, 75] (by decide +kernel) (by decide +kernel)
set_option maxRecDepth 20000 in
theorem gX7_motion_X7_everybody : GoodIn wsX7_motion (wsV RX7 160 RX7 yX7_everybody wsX7_everybody) := goodIn_app (goodIn_of _ (by decide +kernel)) ggX7_motion_X7_everybody
set_option maxRecDepth 20000 in
theorem ggX7_motion_X7_balance : GoodIn wsX7_motion wsX7_balance := goodIn_r _ [14, 10, 15, 16, 17, 4, 18, 19, 20, 21, 22, 23, 24, 25, 26, 27, 28, 29, 30, 31, 32, 33, 34, 35, 36, 37, 38, 39, 40, 41, 42, 47, 48, 49, 50, 51, 52, 53, 54, 55, 56, 57, 58, 59, 60, 61, 62, 63, 64, 65, 66, 67, 68, 69, 70, 71, 72, 73, 74, 75] (by decide +kernel) (by decide +kernel)
set_option maxRecDepth 20000 in
theorem gX7_motion_X7_balance : GoodIn wsX7_motion (wsV RX7 164 RX7 yX7_balance wsX7_balance) := goodIn_app (goodIn_of _ (by decide +kernel)) ggX7_motion_X7_balance
set_option maxRecDepth 20000 in
theorem ggX7_motion_X7_forOf : GoodIn wsX7_motion wsX7_forOf := goodIn_r _ [46, 10, 15, 19, 20, 21, 4, 22, 23, 24, 25, 26, 27, 28, 29, 30, 31, 32, 33, 34, 35, 36, 37, 16, 17, 18, 38, 39, 40, 41, 42, 47, 48, 49, 50, 51, 52, 53, 54, 55, 56, 57, 58, 59, 60, 61, 62, 63, 64, 65, 66, 67, 68, 69, 70, 71, 72, 73, 74, 75] (by decide +kernel) (by decide +kernel)
set_option maxRecDepth 20000 in
theorem gX7_motion_X7_forOf : GoodIn wsX7_motion (wsV RX7 167 RX7 yX7_forOf wsX7_forOf) := goodIn_app (goodIn_of _ (by decide +kernel)) ggX7_motion_X7_forOf
theorem dX7_motion_0 : decode cX7_motion 0 = .ok (.iload_n 1, 1) := by decide +kernel
theorem dX7_motion_1 : decode cX7_motion 1 = .ok (.iconst 0, 1) := by decide +kernel
theorem dX7_motion_2 : decode cX7_motion 2 = .ok (.iconst 2, 1) := by decide +kernel
theorem dX7_motion_3 : decode cX7_motion 3 = .ok (.invokestatic 51, 3) := by decide +kernel
theorem dX7_motion_6 : decode cX7_motion 6 = .ok (.ifCond .eq 12, 3) := by decide +kernel
theorem dX7_motion_9 : decode cX7_motion 9 = .ok (.iload_n 2, 1) := by decide +kernel
theorem dX7_motion_10 : decode cX7_motion 10 = .ok (.iconst 0, 1) := by decide +kernel
theorem dX7_motion_11 : decode cX7_motion 11 = .ok (.iconst 2, 1) := by decide +kernel
theorem dX7_motion_12 : decode cX7_motion 12 = .ok (.invokestatic 51, 3) := by decide +kernel
theorem dX7_motion_15 : decode cX7_motion 15 = .ok (.ifCond .ne 5, 3) := by decide +kernel
theorem dX7_motion_18 : decode cX7_motion 18 = .ok (.iconst (-1), 1) := by decide +kernel
theorem dX7_motion_19 : decode cX7_motion 19 = .ok (.ireturn, 1) := by decide +kernel
theorem dX7_motion_20 : decode cX7_motion 20 = .ok (.aload_n 0, 1) := by decide +kernel
theorem dX7_motion_21 : decode cX7_motion 21 = .ok (.aload_n 0, 1) := by decide +kernel
theorem dX7_motion_22 : decode cX7_motion 22 = .ok (.getfield 29, 3) := by decide +kernel
theorem dX7_motion_25 : decode cX7_motion 25 = .ok (.iload_n 1, 1) := by decide +kernel
theorem dX7_motion_26 : decode cX7_motion 26 = .ok (.aload_n 0, 1) := by decide +kernel
theorem dX7_motion_27 : decode cX7_motion 27 = .ok (.invokevirtual 160, 3) := by decide +kernel
theorem dX7_motion_30 : decode cX7_motion 30 = .ok (.invokevirtual 164, 3) := by decide +kernel
theorem dX7_motion_33 : decode cX7_motion 33 = .ok (.istore_n 3, 1) := by decide +kernel
theorem dX7_motion_34 : decode cX7_motion 34 = .ok (.aload_n 0, 1) := by decide +kernel
theorem dX7_motion_35 : decode cX7_motion 35 = .ok (.aload_n 0, 1) := by decide +kernel
theorem dX7_motion_36 : decode cX7_motion 36 = .ok (.getfield 29, 3) := by decide +kernel
theorem dX7_motion_39 : decode cX7_motion 39 = .ok (.iload_n 1, 1) := by decide +kernel
theorem dX7_motion_40 : decode cX7_motion 40 = .ok (.invokevirtual 167, 3) := by decide +kernel
theorem dX7_motion_43 : decode cX7_motion 43 = .ok (.istore 4, 2) := by decide +kernel
theorem dX7_motion_45 : decode cX7_motion 45 = .ok (.iload_n 2, 1) := by decide +kernel
theorem dX7_motion_46 : decode cX7_motion 46 = .ok (.ifCond .ne 8, 3) := by decide +kernel
theorem dX7_motion_49 : decode cX7_motion 49 = .ok (.iload 4, 2) := by decide +kernel
theorem dX7_motion_51 : decode cX7_motion 51 = .ok (.goto 24, 3) := by decide +kernel
theorem dX7_motion_54 : decode cX7_motion 54 = .ok (.iload_n 2, 1) := by decide +kernel
theorem dX7_motion_55 : decode cX7_motion 55 = .ok (.iconst 1, 1) := by decide +kernel
theorem dX7_motion_56 : decode cX7_motion 56 = .ok (.if_icmp .ne 10, 3) := by decide +kernel
theorem dX7_motion_59 : decode cX7_motion 59 = .ok (.iload 4, 2) := by decide +kernel
theorem dX7_motion_61 : decode cX7_motion 61 = .ok (.iload_n 3, 1) := by decide +kernel
theorem dX7_motion_62 : decode cX7_motion 62 = .ok (.isub, 1) := by decide +kernel
theorem dX7_motion_63 : decode cX7_motion 63 = .ok (.goto 12, 3) := by decide +kernel
theorem dX7_motion_66 : decode cX7_motion 66 = .ok (.iload_n 3, 1) := by decide +kernel
theorem dX7_motion_67 : decode cX7_motion 67 = .ok (.ifCond .le 7, 3) := by decide +kernel
theorem dX7_motion_70 : decode cX7_motion 70 = .ok (.iconst 1, 1) := by decide +kernel
theorem dX7_motion_71 : decode cX7_motion 71 = .ok (.goto 4, 3) := by decide +kernel
theorem dX7_motion_74 : decode cX7_motion 74 = .ok (.iconst 0, 1) := by decide +kernel
theorem dX7_motion_75 : decode cX7_motion 75 = .ok (.ireturn, 1) := by decide +kernel
set_option maxRecDepth 20000 in
theorem ggX7_now_X7_in : GoodIn wsX7_now wsX7_in := goodIn_r _ [6] (by decide +kernel) (by decide +kernel)
set_option maxRecDepth 20000 in
theorem gX7_now_X7_in : GoodIn wsX7_now (va_wsS RX7 51 yX7_in wsX7_in) := goodIn_app (goodIn_of _ (by decide +kernel)) ggX7_now_X7_in
theorem dX7_now_0 : decode cX7_now 0 = .ok (.iload_n 1, 1) := by decide +kernel
theorem dX7_now_1 : decode cX7_now 1 = .ok (.iconst 4, 1) := by decide +kernel
theorem dX7_now_2 : decode cX7_now 2 = .ok (.if_icmp .ne 10, 3) := by decide +kernel
theorem dX7_now_5 : decode cX7_now 5 = .ok (.aload_n 0, 1) := by decide +kernel
theorem dX7_now_6 : decode cX7_now 6 = .ok (.getfield 119, 3) := by decide +kernel
theorem dX7_now_9 : decode cX7_now 9 = .ok (.goto 22, 3) := by decide +kernel
theorem dX7_now_12 : decode cX7_now 12 = .ok (.iload_n 1, 1) := by decide +kernel
theorem dX7_now_13 : decode cX7_now 13 = .ok (.iconst 0, 1) := by decide +kernel
theorem dX7_now_14 : decode cX7_now 14 = .ok (.iconst 3, 1) := by decide +kernel
theorem dX7_now_15 : decode cX7_now 15 = .ok (.invokestatic 51, 3) := by decide +kernel
theorem dX7_now_18 : decode cX7_now 18 = .ok (.ifCond .eq 12, 3) := by decide +kernel
theorem dX7_now_21 : decode cX7_now 21 = .ok (.aload_n 0, 1) := by decide +kernel
theorem dX7_now_22 : decode cX7_now 22 = .ok (.getfield 29, 3) := by decide +kernel
theorem dX7_now_25 : decode cX7_now 25 = .ok (.iload_n 1, 1) := by decide +kernel
theorem dX7_now_26 : decode cX7_now 26 = .ok (.iaload, 1) := by decide +kernel
theorem dX7_now_27 : decode cX7_now 27 = .ok (.goto 4, 3) := by decide +kernel
theorem dX7_now_30 : decode cX7_now 30 = .ok (.iconst (-1), 1) := by decide +kernel
theorem dX7_now_31 : decode cX7_now 31 = .ok (.ireturn, 1) := by decide +kernel
set_option maxRecDepth 20000 in
theorem ggX7_note_X7_copy : GoodIn wsX7_note wsX7_copy := goodIn_r _ [7] (by decide +kernel) (by decide +kernel)
set_option maxRecDepth 20000 in
theorem gX7_note_X7_copy : GoodIn wsX7_note (va_wsS RX7 115 yX7_copy wsX7_copy) := goodIn_app (goodIn_of _ (by decide +kernel)) ggX7_note_X7_copy
theorem dX7_note_0 : decode cX7_note 0 = .ok (.aload_n 0, 1) := by decide +kernel
theorem dX7_note_1 : decode cX7_note 1 = .ok (.getfield 119, 3) := by decide +kernel
theorem dX7_note_4 : decode cX7_note 4 = .ok (.bipush 10, 2) := by decide +kernel
theorem dX7_note_6 : decode cX7_note 6 = .ok (.if_icmp .ne 43, 3) := by decide +kernel
theorem dX7_note_9 : decode cX7_note 9 = .ok (.iconst 0, 1) := by decide +kernel
theorem dX7_note_10 : decode cX7_note 10 = .ok (.istore_n 1, 1) := by decide +kernel
theorem dX7_note_11 : decode cX7_note 11 = .ok (.iload_n 1, 1) := by decide +kernel
theorem dX7_note_12 : decode cX7_note 12 = .ok (.sipush 324, 3) := by decide +kernel
theorem dX7_note_15 : decode cX7_note 15 = .ok (.if_icmp .ge 24, 3) := by decide +kernel
theorem dX7_note_18 : decode cX7_note 18 = .ok (.aload_n 0, 1) := by decide +kernel
theorem dX7_note_19 : decode cX7_note 19 = .ok (.getfield 42, 3) := by decide +kernel
theorem dX7_note_22 : decode cX7_note 22 = .ok (.iload_n 1, 1) := by decide +kernel
theorem dX7_note_23 : decode cX7_note 23 = .ok (.aload_n 0, 1) := by decide +kernel
theorem dX7_note_24 : decode cX7_note 24 = .ok (.getfield 42, 3) := by decide +kernel
theorem dX7_note_27 : decode cX7_note 27 = .ok (.iload_n 1, 1) := by decide +kernel
theorem dX7_note_28 : decode cX7_note 28 = .ok (.bipush 36, 2) := by decide +kernel
theorem dX7_note_30 : decode cX7_note 30 = .ok (.iadd, 1) := by decide +kernel
theorem dX7_note_31 : decode cX7_note 31 = .ok (.iaload, 1) := by decide +kernel
theorem dX7_note_32 : decode cX7_note 32 = .ok (.iastore, 1) := by decide +kernel
theorem dX7_note_33 : decode cX7_note 33 = .ok (.iinc 1 1, 3) := by decide +kernel
theorem dX7_note_36 : decode cX7_note 36 = .ok (.goto (-25), 3) := by decide +kernel
theorem dX7_note_39 : decode cX7_note 39 = .ok (.aload_n 0, 1) := by decide +kernel
theorem dX7_note_40 : decode cX7_note 40 = .ok (.dup, 1) := by decide +kernel
theorem dX7_note_41 : decode cX7_note 41 = .ok (.getfield 119, 3) := by decide +kernel
theorem dX7_note_44 : decode cX7_note 44 = .ok (.iconst 1, 1) := by decide +kernel
theorem dX7_note_45 : decode cX7_note 45 = .ok (.isub, 1) := by decide +kernel
theorem dX7_note_46 : decode cX7_note 46 = .ok (.putfield 119, 3) := by decide +kernel
theorem dX7_note_49 : decode cX7_note 49 = .ok (.aload_n 0, 1) := by decide +kernel
theorem dX7_note_50 : decode cX7_note 50 = .ok (.getfield 29, 3) := by decide +kernel
theorem dX7_note_53 : decode cX7_note 53 = .ok (.iconst 0, 1) := by decide +kernel
theorem dX7_note_54 : decode cX7_note 54 = .ok (.aload_n 0, 1) := by decide +kernel
theorem dX7_note_55 : decode cX7_note 55 = .ok (.getfield 42, 3) := by decide +kernel
theorem dX7_note_58 : decode cX7_note 58 = .ok (.bipush 36, 2) := by decide +kernel
theorem dX7_note_60 : decode cX7_note 60 = .ok (.aload_n 0, 1) := by decide +kernel
theorem dX7_note_61 : decode cX7_note 61 = .ok (.getfield 119, 3) := by decide +kernel
theorem dX7_note_64 : decode cX7_note 64 = .ok (.imul, 1) := by decide +kernel
theorem dX7_note_65 : decode cX7_note 65 = .ok (.invokestatic 115, 3) := by decide +kernel
theorem dX7_note_68 : decode cX7_note 68 = .ok (.aload_n 0, 1) := by decide +kernel
theorem dX7_note_69 : decode cX7_note 69 = .ok (.dup, 1) := by decide +kernel
theorem dX7_note_70 : decode cX7_note 70 = .ok (.getfield 119, 3) := by decide +kernel
theorem dX7_note_73 : decode cX7_note 73 = .ok (.iconst 1, 1) := by decide +kernel
theorem dX7_note_74 : decode cX7_note 74 = .ok (.iadd, 1) := by decide +kernel
theorem dX7_note_75 : decode cX7_note 75 = .ok (.putfield 119, 3) := by decide +kernel
theorem dX7_note_78 : decode cX7_note 78 = .ok (.return_, 1) := by decide +kernel
set_option maxRecDepth 20000 in
theorem ggX7_moves_X7_isOne : GoodIn wsX7_moves wsX7_isOne := goodIn_r _ [8, 9, 10, 11, 7, 12, 22, 23, 24, 25, 26, 27, 28, 29, 30, 31, 32, 33, 34, 35, 36, 37, 38, 39, 40, 41, 42, 43, 44, 45, 46, 47, 48, 49, 50] (by decide +kernel) (by decide +kernel)
set_option maxRecDepth 20000 in
theorem gX7_moves_X7_isOne : GoodIn wsX7_moves (wsV RX7 157 RX7 yX7_isOne wsX7_isOne) := goodIn_app (goodIn_of _ (by decide +kernel)) ggX7_moves_X7_isOne
set_option maxRecDepth 20000 in
theorem ggX7_moves_X7_in : GoodIn wsX7_moves wsX7_in := goodIn_r _ [12] (by decide +kernel) (by decide +kernel)
set_option maxRecDepth 20000 in
theorem gX7_moves_X7_in : GoodIn wsX7_moves (va_wsS RX7 51 yX7_in wsX7_in) := goodIn_app (goodIn_of _ (by decide +kernel)) ggX7_moves_X7_in
set_option maxRecDepth 20000 in
theorem ggX7_moves_X7_note : GoodIn wsX7_moves wsX7_note := goodIn_r _ [16, 17, 18, 1, 19, 20, 7, 21, 22, 23, 24, 25, 26, 27, 28, 29, 30, 31, 32, 33, 34, 35, 36, 37, 38, 39, 40, 41, 42, 43, 44, 45, 46, 47, 48, 49, 50] (by decide +kernel) (by decide +kernel)
set_option maxRecDepth 20000 in
theorem gX7_moves_X7_note : GoodIn wsX7_moves (wsV RX7 170 RX7 yX7_note wsX7_note) := goodIn_app (goodIn_of _ (by decide +kernel)) ggX7_moves_X7_note
theorem dX7_moves_0 : decode cX7_moves 0 = .ok (.aload_n 0, 1) := by decide +kernel
theorem dX7_moves_1 : decode cX7_moves 1 = .ok (.iload_n 1, 1) := by decide +kernel
theorem dX7_moves_2 : decode cX7_moves 2 = .ok (.invokevirtual 157, 3) := by decide +kernel
theorem dX7_moves_5 : decode cX7_moves 5 = .ok (.ifCond .eq 12, 3) := by decide +kernel
theorem dX7_moves_8 : decode cX7_moves 8 = .ok (.iload_n 2, 1) := by decide +kernel
theorem dX7_moves_9 : decode cX7_moves 9 = .ok (.iconst 0, 1) := by decide +kernel
theorem dX7_moves_10 : decode cX7_moves 10 = .ok (.iconst 3, 1) := by decide +kernel
theorem dX7_moves_11 : decode cX7_moves 11 = .ok (.invokestatic 51, 3) := by decide +kernel
theorem dX7_moves_14 : decode cX7_moves 14 = .ok (.ifCond .ne 5, 3) := by decide +kernel
theorem dX7_moves_17 : decode cX7_moves 17 = .ok (.iconst (-1), 1) := by decide +kernel
theorem dX7_moves_18 : decode cX7_moves 18 = .ok (.ireturn, 1) := by decide +kernel
theorem dX7_moves_19 : decode cX7_moves 19 = .ok (.aload_n 0, 1) := by decide +kernel
theorem dX7_moves_20 : decode cX7_moves 20 = .ok (.getfield 29, 3) := by decide +kernel
theorem dX7_moves_23 : decode cX7_moves 23 = .ok (.bipush 29, 2) := by decide +kernel
theorem dX7_moves_25 : decode cX7_moves 25 = .ok (.iload_n 1, 1) := by decide +kernel
theorem dX7_moves_26 : decode cX7_moves 26 = .ok (.iadd, 1) := by decide +kernel
theorem dX7_moves_27 : decode cX7_moves 27 = .ok (.iaload, 1) := by decide +kernel
theorem dX7_moves_28 : decode cX7_moves 28 = .ok (.istore_n 3, 1) := by decide +kernel
theorem dX7_moves_29 : decode cX7_moves 29 = .ok (.iload_n 2, 1) := by decide +kernel
theorem dX7_moves_30 : decode cX7_moves 30 = .ok (.ifCond .ne 11, 3) := by decide +kernel
theorem dX7_moves_33 : decode cX7_moves 33 = .ok (.iload_n 3, 1) := by decide +kernel
theorem dX7_moves_34 : decode cX7_moves 34 = .ok (.aload_n 0, 1) := by decide +kernel
theorem dX7_moves_35 : decode cX7_moves 35 = .ok (.getfield 19, 3) := by decide +kernel
theorem dX7_moves_38 : decode cX7_moves 38 = .ok (.if_icmp .lt 57, 3) := by decide +kernel
theorem dX7_moves_41 : decode cX7_moves 41 = .ok (.iload_n 2, 1) := by decide +kernel
theorem dX7_moves_42 : decode cX7_moves 42 = .ok (.iconst 1, 1) := by decide +kernel
theorem dX7_moves_43 : decode cX7_moves 43 = .ok (.if_icmp .ne 18, 3) := by decide +kernel
theorem dX7_moves_46 : decode cX7_moves 46 = .ok (.iload_n 3, 1) := by decide +kernel
theorem dX7_moves_47 : decode cX7_moves 47 = .ok (.aload_n 0, 1) := by decide +kernel
theorem dX7_moves_48 : decode cX7_moves 48 = .ok (.getfield 19, 3) := by decide +kernel
theorem dX7_moves_51 : decode cX7_moves 51 = .ok (.irem, 1) := by decide +kernel
theorem dX7_moves_52 : decode cX7_moves 52 = .ok (.aload_n 0, 1) := by decide +kernel
theorem dX7_moves_53 : decode cX7_moves 53 = .ok (.getfield 19, 3) := by decide +kernel
theorem dX7_moves_56 : decode cX7_moves 56 = .ok (.iconst 1, 1) := by decide +kernel
theorem dX7_moves_57 : decode cX7_moves 57 = .ok (.isub, 1) := by decide +kernel
theorem dX7_moves_58 : decode cX7_moves 58 = .ok (.if_icmp .eq 37, 3) := by decide +kernel
theorem dX7_moves_61 : decode cX7_moves 61 = .ok (.iload_n 2, 1) := by decide +kernel
theorem dX7_moves_62 : decode cX7_moves 62 = .ok (.iconst 2, 1) := by decide +kernel
theorem dX7_moves_63 : decode cX7_moves 63 = .ok (.if_icmp .ne 18, 3) := by decide +kernel
theorem dX7_moves_66 : decode cX7_moves 66 = .ok (.iload_n 3, 1) := by decide +kernel
theorem dX7_moves_67 : decode cX7_moves 67 = .ok (.aload_n 0, 1) := by decide +kernel
theorem dX7_moves_68 : decode cX7_moves 68 = .ok (.getfield 19, 3) := by decide +kernel
theorem dX7_moves_71 : decode cX7_moves 71 = .ok (.aload_n 0, 1) := by decide +kernel
theorem dX7_moves_72 : decode cX7_moves 72 = .ok (.getfield 23, 3) := by decide +kernel
theorem dX7_moves_75 : decode cX7_moves 75 = .ok (.iconst 1, 1) := by decide +kernel
theorem dX7_moves_76 : decode cX7_moves 76 = .ok (.isub, 1) := by decide +kernel
theorem dX7_moves_77 : decode cX7_moves 77 = .ok (.imul, 1) := by decide +kernel
theorem dX7_moves_78 : decode cX7_moves 78 = .ok (.if_icmp .ge 17, 3) := by decide +kernel
theorem dX7_moves_81 : decode cX7_moves 81 = .ok (.iload_n 2, 1) := by decide +kernel
theorem dX7_moves_82 : decode cX7_moves 82 = .ok (.iconst 3, 1) := by decide +kernel
theorem dX7_moves_83 : decode cX7_moves 83 = .ok (.if_icmp .ne 16, 3) := by decide +kernel
theorem dX7_moves_86 : decode cX7_moves 86 = .ok (.iload_n 3, 1) := by decide +kernel
theorem dX7_moves_87 : decode cX7_moves 87 = .ok (.aload_n 0, 1) := by decide +kernel
theorem dX7_moves_88 : decode cX7_moves 88 = .ok (.getfield 19, 3) := by decide +kernel
theorem dX7_moves_91 : decode cX7_moves 91 = .ok (.irem, 1) := by decide +kernel
theorem dX7_moves_92 : decode cX7_moves 92 = .ok (.ifCond .ne 7, 3) := by decide +kernel
theorem dX7_moves_95 : decode cX7_moves 95 = .ok (.iconst 1, 1) := by decide +kernel
theorem dX7_moves_96 : decode cX7_moves 96 = .ok (.goto 4, 3) := by decide +kernel
theorem dX7_moves_99 : decode cX7_moves 99 = .ok (.iconst 0, 1) := by decide +kernel
theorem dX7_moves_100 : decode cX7_moves 100 = .ok (.istore 4, 2) := by decide +kernel
theorem dX7_moves_102 : decode cX7_moves 102 = .ok (.iload 4, 2) := by decide +kernel
theorem dX7_moves_104 : decode cX7_moves 104 = .ok (.ifCond .eq 6, 3) := by decide +kernel
theorem dX7_moves_107 : decode cX7_moves 107 = .ok (.bipush (-2), 2) := by decide +kernel
theorem dX7_moves_109 : decode cX7_moves 109 = .ok (.ireturn, 1) := by decide +kernel
theorem dX7_moves_110 : decode cX7_moves 110 = .ok (.aload_n 0, 1) := by decide +kernel
theorem dX7_moves_111 : decode cX7_moves 111 = .ok (.invokevirtual 170, 3) := by decide +kernel
theorem dX7_moves_114 : decode cX7_moves 114 = .ok (.aload_n 0, 1) := by decide +kernel
theorem dX7_moves_115 : decode cX7_moves 115 = .ok (.getfield 29, 3) := by decide +kernel
theorem dX7_moves_118 : decode cX7_moves 118 = .ok (.bipush 29, 2) := by decide +kernel
theorem dX7_moves_120 : decode cX7_moves 120 = .ok (.iload_n 1, 1) := by decide +kernel
theorem dX7_moves_121 : decode cX7_moves 121 = .ok (.iadd, 1) := by decide +kernel
theorem dX7_moves_122 : decode cX7_moves 122 = .ok (.iload_n 2, 1) := by decide +kernel
theorem dX7_moves_123 : decode cX7_moves 123 = .ok (.ifCond .ne 12, 3) := by decide +kernel
theorem dX7_moves_126 : decode cX7_moves 126 = .ok (.iload_n 3, 1) := by decide +kernel
theorem dX7_moves_127 : decode cX7_moves 127 = .ok (.aload_n 0, 1) := by decide +kernel
theorem dX7_moves_128 : decode cX7_moves 128 = .ok (.getfield 19, 3) := by decide +kernel
theorem dX7_moves_131 : decode cX7_moves 131 = .ok (.isub, 1) := by decide +kernel
theorem dX7_moves_132 : decode cX7_moves 132 = .ok (.goto 31, 3) := by decide +kernel
theorem dX7_moves_135 : decode cX7_moves 135 = .ok (.iload_n 2, 1) := by decide +kernel
theorem dX7_moves_136 : decode cX7_moves 136 = .ok (.iconst 1, 1) := by decide +kernel
theorem dX7_moves_137 : decode cX7_moves 137 = .ok (.if_icmp .ne 9, 3) := by decide +kernel
theorem dX7_moves_140 : decode cX7_moves 140 = .ok (.iload_n 3, 1) := by decide +kernel
theorem dX7_moves_141 : decode cX7_moves 141 = .ok (.iconst 1, 1) := by decide +kernel
theorem dX7_moves_142 : decode cX7_moves 142 = .ok (.iadd, 1) := by decide +kernel
theorem dX7_moves_143 : decode cX7_moves 143 = .ok (.goto 20, 3) := by decide +kernel
theorem dX7_moves_146 : decode cX7_moves 146 = .ok (.iload_n 2, 1) := by decide +kernel
theorem dX7_moves_147 : decode cX7_moves 147 = .ok (.iconst 2, 1) := by decide +kernel
theorem dX7_moves_148 : decode cX7_moves 148 = .ok (.if_icmp .ne 12, 3) := by decide +kernel
theorem dX7_moves_151 : decode cX7_moves 151 = .ok (.iload_n 3, 1) := by decide +kernel
theorem dX7_moves_152 : decode cX7_moves 152 = .ok (.aload_n 0, 1) := by decide +kernel
theorem dX7_moves_153 : decode cX7_moves 153 = .ok (.getfield 19, 3) := by decide +kernel
theorem dX7_moves_156 : decode cX7_moves 156 = .ok (.iadd, 1) := by decide +kernel
theorem dX7_moves_157 : decode cX7_moves 157 = .ok (.goto 6, 3) := by decide +kernel
theorem dX7_moves_160 : decode cX7_moves 160 = .ok (.iload_n 3, 1) := by decide +kernel
theorem dX7_moves_161 : decode cX7_moves 161 = .ok (.iconst 1, 1) := by decide +kernel
theorem dX7_moves_162 : decode cX7_moves 162 = .ok (.isub, 1) := by decide +kernel
theorem dX7_moves_163 : decode cX7_moves 163 = .ok (.iastore, 1) := by decide +kernel
theorem dX7_moves_164 : decode cX7_moves 164 = .ok (.aload_n 0, 1) := by decide +kernel
theorem dX7_moves_165 : decode cX7_moves 165 = .ok (.getfield 29, 3) := by decide +kernel
theorem dX7_moves_168 : decode cX7_moves 168 = .ok (.bipush 29, 2) := by decide +kernel
theorem dX7_moves_170 : decode cX7_moves 170 = .ok (.iload_n 1, 1) := by decide +kernel
theorem dX7_moves_171 : decode cX7_moves 171 = .ok (.iadd, 1) := by decide +kernel
theorem dX7_moves_172 : decode cX7_moves 172 = .ok (.iaload, 1) := by decide +kernel
theorem dX7_moves_173 : decode cX7_moves 173 = .ok (.ireturn, 1) := by decide +kernel
set_option maxRecDepth 20000 in
theorem ggX7_prunes_X7_isTree : GoodIn wsX7_prunes wsX7_isTree := goodIn_r _ [6, 1, 7, 8, 5, 9, 19, 20, 21, 22, 23, 24, 25, 26, 27, 28, 29, 30, 31, 32, 33, 34, 35, 36, 37, 38, 39, 40, 41, 42, 43, 44, 45, 46, 47] (by decide +kernel) (by decide +kernel)
set_option maxRecDepth 20000 in
theorem gX7_prunes_X7_isTree : GoodIn wsX7_prunes (wsV RX7 153 RX7 yX7_isTree wsX7_isTree) := goodIn_app (goodIn_of _ (by decide +kernel)) ggX7_prunes_X7_isTree
set_option maxRecDepth 20000 in
theorem ggX7_prunes_X7_in : GoodIn wsX7_prunes wsX7_in := goodIn_r _ [9] (by decide +kernel) (by decide +kernel)
set_option maxRecDepth 20000 in
theorem gX7_prunes_X7_in : GoodIn wsX7_prunes (va_wsS RX7 51 yX7_in wsX7_in) := goodIn_app (goodIn_of _ (by decide +kernel)) ggX7_prunes_X7_in
set_option maxRecDepth 20000 in
theorem ggX7_prunes_X7_note : GoodIn wsX7_prunes wsX7_note := goodIn_r _ [13, 14, 15, 1, 16, 17, 5, 18, 19, 20, 21, 22, 23, 24, 25, 26, 27, 28, 29, 30, 31, 32, 33, 34, 35, 36, 37, 38, 39, 40, 41, 42, 43, 44, 45, 46, 47] (by decide +kernel) (by decide +kernel)
set_option maxRecDepth 20000 in
theorem gX7_prunes_X7_note : GoodIn wsX7_prunes (wsV RX7 170 RX7 yX7_note wsX7_note) := goodIn_app (goodIn_of _ (by decide +kernel)) ggX7_prunes_X7_note
theorem dX7_prunes_0 : decode cX7_prunes 0 = .ok (.aload_n 0, 1) := by decide +kernel
theorem dX7_prunes_1 : decode cX7_prunes 1 = .ok (.iload_n 1, 1) := by decide +kernel
theorem dX7_prunes_2 : decode cX7_prunes 2 = .ok (.invokevirtual 153, 3) := by decide +kernel
theorem dX7_prunes_5 : decode cX7_prunes 5 = .ok (.ifCond .eq 13, 3) := by decide +kernel
theorem dX7_prunes_8 : decode cX7_prunes 8 = .ok (.iload_n 2, 1) := by decide +kernel
theorem dX7_prunes_9 : decode cX7_prunes 9 = .ok (.iconst 1, 1) := by decide +kernel
theorem dX7_prunes_10 : decode cX7_prunes 10 = .ok (.bipush 20, 2) := by decide +kernel
theorem dX7_prunes_12 : decode cX7_prunes 12 = .ok (.invokestatic 51, 3) := by decide +kernel
theorem dX7_prunes_15 : decode cX7_prunes 15 = .ok (.ifCond .ne 5, 3) := by decide +kernel
theorem dX7_prunes_18 : decode cX7_prunes 18 = .ok (.iconst (-1), 1) := by decide +kernel
theorem dX7_prunes_19 : decode cX7_prunes 19 = .ok (.ireturn, 1) := by decide +kernel
theorem dX7_prunes_20 : decode cX7_prunes 20 = .ok (.aload_n 0, 1) := by decide +kernel
theorem dX7_prunes_21 : decode cX7_prunes 21 = .ok (.invokevirtual 170, 3) := by decide +kernel
theorem dX7_prunes_24 : decode cX7_prunes 24 = .ok (.aload_n 0, 1) := by decide +kernel
theorem dX7_prunes_25 : decode cX7_prunes 25 = .ok (.getfield 29, 3) := by decide +kernel
theorem dX7_prunes_28 : decode cX7_prunes 28 = .ok (.bipush 9, 2) := by decide +kernel
theorem dX7_prunes_30 : decode cX7_prunes 30 = .ok (.iload_n 1, 1) := by decide +kernel
theorem dX7_prunes_31 : decode cX7_prunes 31 = .ok (.iadd, 1) := by decide +kernel
theorem dX7_prunes_32 : decode cX7_prunes 32 = .ok (.aload_n 0, 1) := by decide +kernel
theorem dX7_prunes_33 : decode cX7_prunes 33 = .ok (.getfield 29, 3) := by decide +kernel
theorem dX7_prunes_36 : decode cX7_prunes 36 = .ok (.bipush 9, 2) := by decide +kernel
theorem dX7_prunes_38 : decode cX7_prunes 38 = .ok (.iload_n 1, 1) := by decide +kernel
theorem dX7_prunes_39 : decode cX7_prunes 39 = .ok (.iadd, 1) := by decide +kernel
theorem dX7_prunes_40 : decode cX7_prunes 40 = .ok (.iaload, 1) := by decide +kernel
theorem dX7_prunes_41 : decode cX7_prunes 41 = .ok (.iload_n 2, 1) := by decide +kernel
theorem dX7_prunes_42 : decode cX7_prunes 42 = .ok (.if_icmp .le 17, 3) := by decide +kernel
theorem dX7_prunes_45 : decode cX7_prunes 45 = .ok (.aload_n 0, 1) := by decide +kernel
theorem dX7_prunes_46 : decode cX7_prunes 46 = .ok (.getfield 29, 3) := by decide +kernel
theorem dX7_prunes_49 : decode cX7_prunes 49 = .ok (.bipush 9, 2) := by decide +kernel
theorem dX7_prunes_51 : decode cX7_prunes 51 = .ok (.iload_n 1, 1) := by decide +kernel
theorem dX7_prunes_52 : decode cX7_prunes 52 = .ok (.iadd, 1) := by decide +kernel
theorem dX7_prunes_53 : decode cX7_prunes 53 = .ok (.iaload, 1) := by decide +kernel
theorem dX7_prunes_54 : decode cX7_prunes 54 = .ok (.iload_n 2, 1) := by decide +kernel
theorem dX7_prunes_55 : decode cX7_prunes 55 = .ok (.isub, 1) := by decide +kernel
theorem dX7_prunes_56 : decode cX7_prunes 56 = .ok (.goto 4, 3) := by decide +kernel
theorem dX7_prunes_59 : decode cX7_prunes 59 = .ok (.iconst 0, 1) := by decide +kernel
theorem dX7_prunes_60 : decode cX7_prunes 60 = .ok (.iastore, 1) := by decide +kernel
theorem dX7_prunes_61 : decode cX7_prunes 61 = .ok (.aload_n 0, 1) := by decide +kernel
theorem dX7_prunes_62 : decode cX7_prunes 62 = .ok (.getfield 29, 3) := by decide +kernel
theorem dX7_prunes_65 : decode cX7_prunes 65 = .ok (.bipush 9, 2) := by decide +kernel
theorem dX7_prunes_67 : decode cX7_prunes 67 = .ok (.iload_n 1, 1) := by decide +kernel
theorem dX7_prunes_68 : decode cX7_prunes 68 = .ok (.iadd, 1) := by decide +kernel
theorem dX7_prunes_69 : decode cX7_prunes 69 = .ok (.iaload, 1) := by decide +kernel
theorem dX7_prunes_70 : decode cX7_prunes 70 = .ok (.ireturn, 1) := by decide +kernel
set_option maxRecDepth 20000 in
theorem ggX7_grows_X7_note : GoodIn wsX7_grows wsX7_note := goodIn_r _ [6, 7, 8, 1, 9, 10, 5, 11, 12, 13, 14, 15, 16, 17, 18, 19, 20, 21, 22, 23, 24, 25, 26, 27, 28, 29, 30, 31, 32, 33, 34, 35, 36, 37, 38, 39, 40] (by decide +kernel) (by decide +kernel)
set_option maxRecDepth 20000 in
theorem gX7_grows_X7_note : GoodIn wsX7_grows (wsV RX7 170 RX7 yX7_note wsX7_note) := goodIn_app (goodIn_of _ (by decide +kernel)) ggX7_grows_X7_note
theorem dX7_grows_0 : decode cX7_grows 0 = .ok (.aload_n 0, 1) := by decide +kernel
theorem dX7_grows_1 : decode cX7_grows 1 = .ok (.getfield 29, 3) := by decide +kernel
theorem dX7_grows_4 : decode cX7_grows 4 = .ok (.iconst 0, 1) := by decide +kernel
theorem dX7_grows_5 : decode cX7_grows 5 = .ok (.iaload, 1) := by decide +kernel
theorem dX7_grows_6 : decode cX7_grows 6 = .ok (.sipush 999, 3) := by decide +kernel
theorem dX7_grows_9 : decode cX7_grows 9 = .ok (.if_icmp .ne 6, 3) := by decide +kernel
theorem dX7_grows_12 : decode cX7_grows 12 = .ok (.bipush (-2), 2) := by decide +kernel
theorem dX7_grows_14 : decode cX7_grows 14 = .ok (.ireturn, 1) := by decide +kernel
theorem dX7_grows_15 : decode cX7_grows 15 = .ok (.aload_n 0, 1) := by decide +kernel
theorem dX7_grows_16 : decode cX7_grows 16 = .ok (.invokevirtual 170, 3) := by decide +kernel
theorem dX7_grows_19 : decode cX7_grows 19 = .ok (.aload_n 0, 1) := by decide +kernel
theorem dX7_grows_20 : decode cX7_grows 20 = .ok (.getfield 29, 3) := by decide +kernel
theorem dX7_grows_23 : decode cX7_grows 23 = .ok (.iconst 0, 1) := by decide +kernel
theorem dX7_grows_24 : decode cX7_grows 24 = .ok (.dup2, 1) := by decide +kernel
theorem dX7_grows_25 : decode cX7_grows 25 = .ok (.iaload, 1) := by decide +kernel
theorem dX7_grows_26 : decode cX7_grows 26 = .ok (.iconst 1, 1) := by decide +kernel
theorem dX7_grows_27 : decode cX7_grows 27 = .ok (.iadd, 1) := by decide +kernel
theorem dX7_grows_28 : decode cX7_grows 28 = .ok (.iastore, 1) := by decide +kernel
theorem dX7_grows_29 : decode cX7_grows 29 = .ok (.iconst 0, 1) := by decide +kernel
theorem dX7_grows_30 : decode cX7_grows 30 = .ok (.istore_n 1, 1) := by decide +kernel
theorem dX7_grows_31 : decode cX7_grows 31 = .ok (.iload_n 1, 1) := by decide +kernel
theorem dX7_grows_32 : decode cX7_grows 32 = .ok (.aload_n 0, 1) := by decide +kernel
theorem dX7_grows_33 : decode cX7_grows 33 = .ok (.getfield 29, 3) := by decide +kernel
theorem dX7_grows_36 : decode cX7_grows 36 = .ok (.iconst 3, 1) := by decide +kernel
theorem dX7_grows_37 : decode cX7_grows 37 = .ok (.iaload, 1) := by decide +kernel
theorem dX7_grows_38 : decode cX7_grows 38 = .ok (.if_icmp .ge 52, 3) := by decide +kernel
theorem dX7_grows_41 : decode cX7_grows 41 = .ok (.aload_n 0, 1) := by decide +kernel
theorem dX7_grows_42 : decode cX7_grows 42 = .ok (.getfield 29, 3) := by decide +kernel
theorem dX7_grows_45 : decode cX7_grows 45 = .ok (.bipush 9, 2) := by decide +kernel
theorem dX7_grows_47 : decode cX7_grows 47 = .ok (.iload_n 1, 1) := by decide +kernel
theorem dX7_grows_48 : decode cX7_grows 48 = .ok (.iadd, 1) := by decide +kernel
theorem dX7_grows_49 : decode cX7_grows 49 = .ok (.dup2, 1) := by decide +kernel
theorem dX7_grows_50 : decode cX7_grows 50 = .ok (.iaload, 1) := by decide +kernel
theorem dX7_grows_51 : decode cX7_grows 51 = .ok (.aload_n 0, 1) := by decide +kernel
theorem dX7_grows_52 : decode cX7_grows 52 = .ok (.getfield 29, 3) := by decide +kernel
theorem dX7_grows_55 : decode cX7_grows 55 = .ok (.bipush 24, 2) := by decide +kernel
theorem dX7_grows_57 : decode cX7_grows 57 = .ok (.iload_n 1, 1) := by decide +kernel
theorem dX7_grows_58 : decode cX7_grows 58 = .ok (.iadd, 1) := by decide +kernel
theorem dX7_grows_59 : decode cX7_grows 59 = .ok (.iaload, 1) := by decide +kernel
theorem dX7_grows_60 : decode cX7_grows 60 = .ok (.ifCond .ne 21, 3) := by decide +kernel
theorem dX7_grows_63 : decode cX7_grows 63 = .ok (.aload_n 0, 1) := by decide +kernel
theorem dX7_grows_64 : decode cX7_grows 64 = .ok (.getfield 29, 3) := by decide +kernel
theorem dX7_grows_67 : decode cX7_grows 67 = .ok (.bipush 9, 2) := by decide +kernel
theorem dX7_grows_69 : decode cX7_grows 69 = .ok (.iload_n 1, 1) := by decide +kernel
theorem dX7_grows_70 : decode cX7_grows 70 = .ok (.iadd, 1) := by decide +kernel
theorem dX7_grows_71 : decode cX7_grows 71 = .ok (.iaload, 1) := by decide +kernel
theorem dX7_grows_72 : decode cX7_grows 72 = .ok (.bipush 20, 2) := by decide +kernel
theorem dX7_grows_74 : decode cX7_grows 74 = .ok (.if_icmp .ge 7, 3) := by decide +kernel
theorem dX7_grows_77 : decode cX7_grows 77 = .ok (.iconst 1, 1) := by decide +kernel
theorem dX7_grows_78 : decode cX7_grows 78 = .ok (.goto 4, 3) := by decide +kernel
theorem dX7_grows_81 : decode cX7_grows 81 = .ok (.iconst 0, 1) := by decide +kernel
theorem dX7_grows_82 : decode cX7_grows 82 = .ok (.iadd, 1) := by decide +kernel
theorem dX7_grows_83 : decode cX7_grows 83 = .ok (.iastore, 1) := by decide +kernel
theorem dX7_grows_84 : decode cX7_grows 84 = .ok (.iinc 1 1, 3) := by decide +kernel
theorem dX7_grows_87 : decode cX7_grows 87 = .ok (.goto (-56), 3) := by decide +kernel
theorem dX7_grows_90 : decode cX7_grows 90 = .ok (.aload_n 0, 1) := by decide +kernel
theorem dX7_grows_91 : decode cX7_grows 91 = .ok (.getfield 29, 3) := by decide +kernel
theorem dX7_grows_94 : decode cX7_grows 94 = .ok (.iconst 0, 1) := by decide +kernel
theorem dX7_grows_95 : decode cX7_grows 95 = .ok (.iaload, 1) := by decide +kernel
theorem dX7_grows_96 : decode cX7_grows 96 = .ok (.ireturn, 1) := by decide +kernel
theorem dX7_isTaken_0 : decode cX7_isTaken 0 = .ok (.iconst 0, 1) := by decide +kernel
theorem dX7_isTaken_1 : decode cX7_isTaken 1 = .ok (.istore_n 2, 1) := by decide +kernel
theorem dX7_isTaken_2 : decode cX7_isTaken 2 = .ok (.iconst 0, 1) := by decide +kernel
theorem dX7_isTaken_3 : decode cX7_isTaken 3 = .ok (.istore_n 3, 1) := by decide +kernel
theorem dX7_isTaken_4 : decode cX7_isTaken 4 = .ok (.iload_n 3, 1) := by decide +kernel
theorem dX7_isTaken_5 : decode cX7_isTaken 5 = .ok (.aload_n 0, 1) := by decide +kernel
theorem dX7_isTaken_6 : decode cX7_isTaken 6 = .ok (.getfield 29, 3) := by decide +kernel
theorem dX7_isTaken_9 : decode cX7_isTaken 9 = .ok (.iconst 3, 1) := by decide +kernel
theorem dX7_isTaken_10 : decode cX7_isTaken 10 = .ok (.iaload, 1) := by decide +kernel
theorem dX7_isTaken_11 : decode cX7_isTaken 11 = .ok (.if_icmp .ge 31, 3) := by decide +kernel
theorem dX7_isTaken_14 : decode cX7_isTaken 14 = .ok (.iload_n 2, 1) := by decide +kernel
theorem dX7_isTaken_15 : decode cX7_isTaken 15 = .ok (.ifCond .ne 15, 3) := by decide +kernel
theorem dX7_isTaken_18 : decode cX7_isTaken 18 = .ok (.aload_n 0, 1) := by decide +kernel
theorem dX7_isTaken_19 : decode cX7_isTaken 19 = .ok (.getfield 29, 3) := by decide +kernel
theorem dX7_isTaken_22 : decode cX7_isTaken 22 = .ok (.iconst 4, 1) := by decide +kernel
theorem dX7_isTaken_23 : decode cX7_isTaken 23 = .ok (.iload_n 3, 1) := by decide +kernel
theorem dX7_isTaken_24 : decode cX7_isTaken 24 = .ok (.iadd, 1) := by decide +kernel
theorem dX7_isTaken_25 : decode cX7_isTaken 25 = .ok (.iaload, 1) := by decide +kernel
theorem dX7_isTaken_26 : decode cX7_isTaken 26 = .ok (.iload_n 1, 1) := by decide +kernel
theorem dX7_isTaken_27 : decode cX7_isTaken 27 = .ok (.if_icmp .ne 7, 3) := by decide +kernel
theorem dX7_isTaken_30 : decode cX7_isTaken 30 = .ok (.iconst 1, 1) := by decide +kernel
theorem dX7_isTaken_31 : decode cX7_isTaken 31 = .ok (.goto 4, 3) := by decide +kernel
theorem dX7_isTaken_34 : decode cX7_isTaken 34 = .ok (.iconst 0, 1) := by decide +kernel
theorem dX7_isTaken_35 : decode cX7_isTaken 35 = .ok (.istore_n 2, 1) := by decide +kernel
theorem dX7_isTaken_36 : decode cX7_isTaken 36 = .ok (.iinc 3 1, 3) := by decide +kernel
theorem dX7_isTaken_39 : decode cX7_isTaken 39 = .ok (.goto (-35), 3) := by decide +kernel
theorem dX7_isTaken_42 : decode cX7_isTaken 42 = .ok (.iload_n 2, 1) := by decide +kernel
theorem dX7_isTaken_43 : decode cX7_isTaken 43 = .ok (.ireturn, 1) := by decide +kernel
set_option maxRecDepth 20000 in
theorem ggX7_plants_X7_isCell : GoodIn wsX7_plants wsX7_isCell := goodIn_r _ [6, 7, 8, 9, 10, 5, 11, 25, 26, 27, 28, 29, 30, 31, 32, 33, 34, 35, 36, 37, 38, 39, 40, 41, 42, 43, 44, 45, 46, 47, 48, 49, 50, 51, 52, 53] (by decide +kernel) (by decide +kernel)
set_option maxRecDepth 20000 in
theorem gX7_plants_X7_isCell : GoodIn wsX7_plants (wsV RX7 173 RX7 yX7_isCell wsX7_isCell) := goodIn_app (goodIn_of _ (by decide +kernel)) ggX7_plants_X7_isCell
set_option maxRecDepth 20000 in
theorem ggX7_plants_X7_in : GoodIn wsX7_plants wsX7_in := goodIn_r _ [11] (by decide +kernel) (by decide +kernel)
set_option maxRecDepth 20000 in
theorem gX7_plants_X7_in : GoodIn wsX7_plants (va_wsS RX7 51 yX7_in wsX7_in) := goodIn_app (goodIn_of _ (by decide +kernel)) ggX7_plants_X7_in
set_option maxRecDepth 20000 in
theorem ggX7_plants_X7_isTaken : GoodIn wsX7_plants wsX7_isTaken := goodIn_r _ [15, 1, 25, 26, 27, 28, 29, 30, 31, 32, 33, 34, 35, 36, 37, 38, 39, 40, 41, 42, 43, 44, 45, 46, 47, 48, 49, 50, 51, 52, 53] (by decide +kernel) (by decide +kernel)
set_option maxRecDepth 20000 in
theorem gX7_plants_X7_isTaken : GoodIn wsX7_plants (wsV RX7 176 RX7 yX7_isTaken wsX7_isTaken) := goodIn_app (goodIn_of _ (by decide +kernel)) ggX7_plants_X7_isTaken
set_option maxRecDepth 20000 in
theorem ggX7_plants_X7_note : GoodIn wsX7_plants wsX7_note := goodIn_r _ [19, 20, 21, 1, 22, 23, 5, 24, 25, 26, 27, 28, 29, 30, 31, 32, 33, 34, 35, 36, 37, 38, 39, 40, 41, 42, 43, 44, 45, 46, 47, 48, 49, 50, 51, 52, 53] (by decide +kernel) (by decide +kernel)
set_option maxRecDepth 20000 in
theorem gX7_plants_X7_note : GoodIn wsX7_plants (wsV RX7 170 RX7 yX7_note wsX7_note) := goodIn_app (goodIn_of _ (by decide +kernel)) ggX7_plants_X7_note
theorem dX7_plants_0 : decode cX7_plants 0 = .ok (.aload_n 0, 1) := by decide +kernel
theorem dX7_plants_1 : decode cX7_plants 1 = .ok (.iload_n 1, 1) := by decide +kernel
theorem dX7_plants_2 : decode cX7_plants 2 = .ok (.invokevirtual 173, 3) := by decide +kernel
theorem dX7_plants_5 : decode cX7_plants 5 = .ok (.ifCond .eq 13, 3) := by decide +kernel
theorem dX7_plants_8 : decode cX7_plants 8 = .ok (.iload_n 2, 1) := by decide +kernel
theorem dX7_plants_9 : decode cX7_plants 9 = .ok (.iconst 0, 1) := by decide +kernel
theorem dX7_plants_10 : decode cX7_plants 10 = .ok (.bipush 7, 2) := by decide +kernel
theorem dX7_plants_12 : decode cX7_plants 12 = .ok (.invokestatic 51, 3) := by decide +kernel
theorem dX7_plants_15 : decode cX7_plants 15 = .ok (.ifCond .ne 5, 3) := by decide +kernel
theorem dX7_plants_18 : decode cX7_plants 18 = .ok (.iconst (-1), 1) := by decide +kernel
theorem dX7_plants_19 : decode cX7_plants 19 = .ok (.ireturn, 1) := by decide +kernel
theorem dX7_plants_20 : decode cX7_plants 20 = .ok (.aload_n 0, 1) := by decide +kernel
theorem dX7_plants_21 : decode cX7_plants 21 = .ok (.iload_n 1, 1) := by decide +kernel
theorem dX7_plants_22 : decode cX7_plants 22 = .ok (.invokevirtual 176, 3) := by decide +kernel
theorem dX7_plants_25 : decode cX7_plants 25 = .ok (.ifCond .eq 6, 3) := by decide +kernel
theorem dX7_plants_28 : decode cX7_plants 28 = .ok (.bipush (-2), 2) := by decide +kernel
theorem dX7_plants_30 : decode cX7_plants 30 = .ok (.ireturn, 1) := by decide +kernel
theorem dX7_plants_31 : decode cX7_plants 31 = .ok (.aload_n 0, 1) := by decide +kernel
theorem dX7_plants_32 : decode cX7_plants 32 = .ok (.getfield 29, 3) := by decide +kernel
theorem dX7_plants_35 : decode cX7_plants 35 = .ok (.iconst 3, 1) := by decide +kernel
theorem dX7_plants_36 : decode cX7_plants 36 = .ok (.iaload, 1) := by decide +kernel
theorem dX7_plants_37 : decode cX7_plants 37 = .ok (.iconst 5, 1) := by decide +kernel
theorem dX7_plants_38 : decode cX7_plants 38 = .ok (.if_icmp .ne 6, 3) := by decide +kernel
theorem dX7_plants_41 : decode cX7_plants 41 = .ok (.bipush (-3), 2) := by decide +kernel
theorem dX7_plants_43 : decode cX7_plants 43 = .ok (.ireturn, 1) := by decide +kernel
theorem dX7_plants_44 : decode cX7_plants 44 = .ok (.aload_n 0, 1) := by decide +kernel
theorem dX7_plants_45 : decode cX7_plants 45 = .ok (.invokevirtual 170, 3) := by decide +kernel
theorem dX7_plants_48 : decode cX7_plants 48 = .ok (.aload_n 0, 1) := by decide +kernel
theorem dX7_plants_49 : decode cX7_plants 49 = .ok (.getfield 29, 3) := by decide +kernel
theorem dX7_plants_52 : decode cX7_plants 52 = .ok (.iconst 3, 1) := by decide +kernel
theorem dX7_plants_53 : decode cX7_plants 53 = .ok (.iaload, 1) := by decide +kernel
theorem dX7_plants_54 : decode cX7_plants 54 = .ok (.istore_n 3, 1) := by decide +kernel
theorem dX7_plants_55 : decode cX7_plants 55 = .ok (.aload_n 0, 1) := by decide +kernel
theorem dX7_plants_56 : decode cX7_plants 56 = .ok (.getfield 29, 3) := by decide +kernel
theorem dX7_plants_59 : decode cX7_plants 59 = .ok (.iconst 4, 1) := by decide +kernel
theorem dX7_plants_60 : decode cX7_plants 60 = .ok (.iload_n 3, 1) := by decide +kernel
theorem dX7_plants_61 : decode cX7_plants 61 = .ok (.iadd, 1) := by decide +kernel
theorem dX7_plants_62 : decode cX7_plants 62 = .ok (.iload_n 1, 1) := by decide +kernel
theorem dX7_plants_63 : decode cX7_plants 63 = .ok (.iastore, 1) := by decide +kernel
theorem dX7_plants_64 : decode cX7_plants 64 = .ok (.aload_n 0, 1) := by decide +kernel
theorem dX7_plants_65 : decode cX7_plants 65 = .ok (.getfield 29, 3) := by decide +kernel
theorem dX7_plants_68 : decode cX7_plants 68 = .ok (.bipush 9, 2) := by decide +kernel
theorem dX7_plants_70 : decode cX7_plants 70 = .ok (.iload_n 3, 1) := by decide +kernel
theorem dX7_plants_71 : decode cX7_plants 71 = .ok (.iadd, 1) := by decide +kernel
theorem dX7_plants_72 : decode cX7_plants 72 = .ok (.iconst 1, 1) := by decide +kernel
theorem dX7_plants_73 : decode cX7_plants 73 = .ok (.iastore, 1) := by decide +kernel
theorem dX7_plants_74 : decode cX7_plants 74 = .ok (.aload_n 0, 1) := by decide +kernel
theorem dX7_plants_75 : decode cX7_plants 75 = .ok (.getfield 29, 3) := by decide +kernel
theorem dX7_plants_78 : decode cX7_plants 78 = .ok (.bipush 14, 2) := by decide +kernel
theorem dX7_plants_80 : decode cX7_plants 80 = .ok (.iload_n 3, 1) := by decide +kernel
theorem dX7_plants_81 : decode cX7_plants 81 = .ok (.iadd, 1) := by decide +kernel
theorem dX7_plants_82 : decode cX7_plants 82 = .ok (.iconst 0, 1) := by decide +kernel
theorem dX7_plants_83 : decode cX7_plants 83 = .ok (.iastore, 1) := by decide +kernel
theorem dX7_plants_84 : decode cX7_plants 84 = .ok (.aload_n 0, 1) := by decide +kernel
theorem dX7_plants_85 : decode cX7_plants 85 = .ok (.getfield 29, 3) := by decide +kernel
theorem dX7_plants_88 : decode cX7_plants 88 = .ok (.bipush 19, 2) := by decide +kernel
theorem dX7_plants_90 : decode cX7_plants 90 = .ok (.iload_n 3, 1) := by decide +kernel
theorem dX7_plants_91 : decode cX7_plants 91 = .ok (.iadd, 1) := by decide +kernel
theorem dX7_plants_92 : decode cX7_plants 92 = .ok (.iload_n 2, 1) := by decide +kernel
theorem dX7_plants_93 : decode cX7_plants 93 = .ok (.iastore, 1) := by decide +kernel
theorem dX7_plants_94 : decode cX7_plants 94 = .ok (.aload_n 0, 1) := by decide +kernel
theorem dX7_plants_95 : decode cX7_plants 95 = .ok (.getfield 29, 3) := by decide +kernel
theorem dX7_plants_98 : decode cX7_plants 98 = .ok (.bipush 24, 2) := by decide +kernel
theorem dX7_plants_100 : decode cX7_plants 100 = .ok (.iload_n 3, 1) := by decide +kernel
theorem dX7_plants_101 : decode cX7_plants 101 = .ok (.iadd, 1) := by decide +kernel
theorem dX7_plants_102 : decode cX7_plants 102 = .ok (.iconst 0, 1) := by decide +kernel
theorem dX7_plants_103 : decode cX7_plants 103 = .ok (.iastore, 1) := by decide +kernel
theorem dX7_plants_104 : decode cX7_plants 104 = .ok (.aload_n 0, 1) := by decide +kernel
theorem dX7_plants_105 : decode cX7_plants 105 = .ok (.getfield 29, 3) := by decide +kernel
theorem dX7_plants_108 : decode cX7_plants 108 = .ok (.iconst 3, 1) := by decide +kernel
theorem dX7_plants_109 : decode cX7_plants 109 = .ok (.dup2, 1) := by decide +kernel
theorem dX7_plants_110 : decode cX7_plants 110 = .ok (.iaload, 1) := by decide +kernel
theorem dX7_plants_111 : decode cX7_plants 111 = .ok (.iconst 1, 1) := by decide +kernel
theorem dX7_plants_112 : decode cX7_plants 112 = .ok (.iadd, 1) := by decide +kernel
theorem dX7_plants_113 : decode cX7_plants 113 = .ok (.iastore, 1) := by decide +kernel
theorem dX7_plants_114 : decode cX7_plants 114 = .ok (.iload_n 3, 1) := by decide +kernel
theorem dX7_plants_115 : decode cX7_plants 115 = .ok (.ireturn, 1) := by decide +kernel
set_option maxRecDepth 20000 in
theorem ggX7_fells_X7_isTree : GoodIn wsX7_fells wsX7_isTree := goodIn_r _ [6, 1, 7, 8, 5, 9, 19, 20, 21, 22, 23, 24, 25, 26, 27, 28, 29, 30, 31, 32, 33, 34, 35, 36, 37, 38, 39, 40, 41, 42, 43, 44, 45, 46, 47] (by decide +kernel) (by decide +kernel)
set_option maxRecDepth 20000 in
theorem gX7_fells_X7_isTree : GoodIn wsX7_fells (wsV RX7 153 RX7 yX7_isTree wsX7_isTree) := goodIn_app (goodIn_of _ (by decide +kernel)) ggX7_fells_X7_isTree
set_option maxRecDepth 20000 in
theorem ggX7_fells_X7_note : GoodIn wsX7_fells wsX7_note := goodIn_r _ [13, 14, 15, 1, 16, 17, 5, 18, 19, 20, 21, 22, 23, 24, 25, 26, 27, 28, 29, 30, 31, 32, 33, 34, 35, 36, 37, 38, 39, 40, 41, 42, 43, 44, 45, 46, 47] (by decide +kernel) (by decide +kernel)
set_option maxRecDepth 20000 in
theorem gX7_fells_X7_note : GoodIn wsX7_fells (wsV RX7 170 RX7 yX7_note wsX7_note) := goodIn_app (goodIn_of _ (by decide +kernel)) ggX7_fells_X7_note
theorem dX7_fells_0 : decode cX7_fells 0 = .ok (.aload_n 0, 1) := by decide +kernel
theorem dX7_fells_1 : decode cX7_fells 1 = .ok (.iload_n 1, 1) := by decide +kernel
theorem dX7_fells_2 : decode cX7_fells 2 = .ok (.invokevirtual 153, 3) := by decide +kernel
theorem dX7_fells_5 : decode cX7_fells 5 = .ok (.ifCond .ne 5, 3) := by decide +kernel
theorem dX7_fells_8 : decode cX7_fells 8 = .ok (.iconst (-1), 1) := by decide +kernel
theorem dX7_fells_9 : decode cX7_fells 9 = .ok (.ireturn, 1) := by decide +kernel
theorem dX7_fells_10 : decode cX7_fells 10 = .ok (.aload_n 0, 1) := by decide +kernel
theorem dX7_fells_11 : decode cX7_fells 11 = .ok (.getfield 29, 3) := by decide +kernel
theorem dX7_fells_14 : decode cX7_fells 14 = .ok (.bipush 24, 2) := by decide +kernel
theorem dX7_fells_16 : decode cX7_fells 16 = .ok (.iload_n 1, 1) := by decide +kernel
theorem dX7_fells_17 : decode cX7_fells 17 = .ok (.iadd, 1) := by decide +kernel
theorem dX7_fells_18 : decode cX7_fells 18 = .ok (.iaload, 1) := by decide +kernel
theorem dX7_fells_19 : decode cX7_fells 19 = .ok (.iconst 1, 1) := by decide +kernel
theorem dX7_fells_20 : decode cX7_fells 20 = .ok (.if_icmp .ne 6, 3) := by decide +kernel
theorem dX7_fells_23 : decode cX7_fells 23 = .ok (.bipush (-2), 2) := by decide +kernel
theorem dX7_fells_25 : decode cX7_fells 25 = .ok (.ireturn, 1) := by decide +kernel
theorem dX7_fells_26 : decode cX7_fells 26 = .ok (.aload_n 0, 1) := by decide +kernel
theorem dX7_fells_27 : decode cX7_fells 27 = .ok (.invokevirtual 170, 3) := by decide +kernel
theorem dX7_fells_30 : decode cX7_fells 30 = .ok (.aload_n 0, 1) := by decide +kernel
theorem dX7_fells_31 : decode cX7_fells 31 = .ok (.getfield 29, 3) := by decide +kernel
theorem dX7_fells_34 : decode cX7_fells 34 = .ok (.bipush 9, 2) := by decide +kernel
theorem dX7_fells_36 : decode cX7_fells 36 = .ok (.iload_n 1, 1) := by decide +kernel
theorem dX7_fells_37 : decode cX7_fells 37 = .ok (.iadd, 1) := by decide +kernel
theorem dX7_fells_38 : decode cX7_fells 38 = .ok (.iaload, 1) := by decide +kernel
theorem dX7_fells_39 : decode cX7_fells 39 = .ok (.istore_n 2, 1) := by decide +kernel
theorem dX7_fells_40 : decode cX7_fells 40 = .ok (.aload_n 0, 1) := by decide +kernel
theorem dX7_fells_41 : decode cX7_fells 41 = .ok (.getfield 29, 3) := by decide +kernel
theorem dX7_fells_44 : decode cX7_fells 44 = .ok (.bipush 24, 2) := by decide +kernel
theorem dX7_fells_46 : decode cX7_fells 46 = .ok (.iload_n 1, 1) := by decide +kernel
theorem dX7_fells_47 : decode cX7_fells 47 = .ok (.iadd, 1) := by decide +kernel
theorem dX7_fells_48 : decode cX7_fells 48 = .ok (.iconst 1, 1) := by decide +kernel
theorem dX7_fells_49 : decode cX7_fells 49 = .ok (.iastore, 1) := by decide +kernel
theorem dX7_fells_50 : decode cX7_fells 50 = .ok (.aload_n 0, 1) := by decide +kernel
theorem dX7_fells_51 : decode cX7_fells 51 = .ok (.getfield 29, 3) := by decide +kernel
theorem dX7_fells_54 : decode cX7_fells 54 = .ok (.bipush 9, 2) := by decide +kernel
theorem dX7_fells_56 : decode cX7_fells 56 = .ok (.iload_n 1, 1) := by decide +kernel
theorem dX7_fells_57 : decode cX7_fells 57 = .ok (.iadd, 1) := by decide +kernel
theorem dX7_fells_58 : decode cX7_fells 58 = .ok (.iconst 0, 1) := by decide +kernel
theorem dX7_fells_59 : decode cX7_fells 59 = .ok (.iastore, 1) := by decide +kernel
theorem dX7_fells_60 : decode cX7_fells 60 = .ok (.iload_n 2, 1) := by decide +kernel
theorem dX7_fells_61 : decode cX7_fells 61 = .ok (.ireturn, 1) := by decide +kernel
set_option maxRecDepth 20000 in
theorem ggX7_winter_X7_in : GoodIn wsX7_winter wsX7_in := goodIn_r _ [5] (by decide +kernel) (by decide +kernel)
set_option maxRecDepth 20000 in
theorem gX7_winter_X7_in : GoodIn wsX7_winter (va_wsS RX7 51 yX7_in wsX7_in) := goodIn_app (goodIn_of _ (by decide +kernel)) ggX7_winter_X7_in
set_option maxRecDepth 20000 in
theorem ggX7_winter_X7_note : GoodIn wsX7_winter wsX7_note := goodIn_r _ [9, 10, 11, 1, 12, 13, 4, 14, 15, 16, 17, 18, 19, 20, 21, 22, 23, 24, 25, 26, 27, 28, 29, 30, 31, 32, 33, 34, 35, 36, 37, 38, 39, 40, 41, 42, 43] (by decide +kernel) (by decide +kernel)
set_option maxRecDepth 20000 in
theorem gX7_winter_X7_note : GoodIn wsX7_winter (wsV RX7 170 RX7 yX7_note wsX7_note) := goodIn_app (goodIn_of _ (by decide +kernel)) ggX7_winter_X7_note
theorem dX7_winter_0 : decode cX7_winter 0 = .ok (.iload_n 1, 1) := by decide +kernel
theorem dX7_winter_1 : decode cX7_winter 1 = .ok (.iconst 0, 1) := by decide +kernel
theorem dX7_winter_2 : decode cX7_winter 2 = .ok (.iconst 1, 1) := by decide +kernel
theorem dX7_winter_3 : decode cX7_winter 3 = .ok (.invokestatic 51, 3) := by decide +kernel
theorem dX7_winter_6 : decode cX7_winter 6 = .ok (.ifCond .ne 5, 3) := by decide +kernel
theorem dX7_winter_9 : decode cX7_winter 9 = .ok (.iconst (-1), 1) := by decide +kernel
theorem dX7_winter_10 : decode cX7_winter 10 = .ok (.ireturn, 1) := by decide +kernel
theorem dX7_winter_11 : decode cX7_winter 11 = .ok (.aload_n 0, 1) := by decide +kernel
theorem dX7_winter_12 : decode cX7_winter 12 = .ok (.invokevirtual 170, 3) := by decide +kernel
theorem dX7_winter_15 : decode cX7_winter 15 = .ok (.aload_n 0, 1) := by decide +kernel
theorem dX7_winter_16 : decode cX7_winter 16 = .ok (.getfield 29, 3) := by decide +kernel
theorem dX7_winter_19 : decode cX7_winter 19 = .ok (.iconst 2, 1) := by decide +kernel
theorem dX7_winter_20 : decode cX7_winter 20 = .ok (.iaload, 1) := by decide +kernel
theorem dX7_winter_21 : decode cX7_winter 21 = .ok (.istore_n 2, 1) := by decide +kernel
theorem dX7_winter_22 : decode cX7_winter 22 = .ok (.aload_n 0, 1) := by decide +kernel
theorem dX7_winter_23 : decode cX7_winter 23 = .ok (.getfield 29, 3) := by decide +kernel
theorem dX7_winter_26 : decode cX7_winter 26 = .ok (.iconst 2, 1) := by decide +kernel
theorem dX7_winter_27 : decode cX7_winter 27 = .ok (.iload_n 1, 1) := by decide +kernel
theorem dX7_winter_28 : decode cX7_winter 28 = .ok (.iastore, 1) := by decide +kernel
theorem dX7_winter_29 : decode cX7_winter 29 = .ok (.iload_n 2, 1) := by decide +kernel
theorem dX7_winter_30 : decode cX7_winter 30 = .ok (.ireturn, 1) := by decide +kernel
set_option maxRecDepth 20000 in
theorem ggX7_sun_X7_in : GoodIn wsX7_sun wsX7_in := goodIn_r _ [5] (by decide +kernel) (by decide +kernel)
set_option maxRecDepth 20000 in
theorem gX7_sun_X7_in : GoodIn wsX7_sun (va_wsS RX7 51 yX7_in wsX7_in) := goodIn_app (goodIn_of _ (by decide +kernel)) ggX7_sun_X7_in
set_option maxRecDepth 20000 in
theorem ggX7_sun_X7_note : GoodIn wsX7_sun wsX7_note := goodIn_r _ [9, 10, 11, 1, 12, 13, 4, 14, 15, 16, 17, 18, 19, 20, 21, 22, 23, 24, 25, 26, 27, 28, 29, 30, 31, 32, 33, 34, 35, 36, 37, 38, 39, 40, 41, 42, 43] (by decide +kernel) (by decide +kernel)
set_option maxRecDepth 20000 in
theorem gX7_sun_X7_note : GoodIn wsX7_sun (wsV RX7 170 RX7 yX7_note wsX7_note) := goodIn_app (goodIn_of _ (by decide +kernel)) ggX7_sun_X7_note
theorem dX7_sun_0 : decode cX7_sun 0 = .ok (.iload_n 1, 1) := by decide +kernel
theorem dX7_sun_1 : decode cX7_sun 1 = .ok (.iconst 1, 1) := by decide +kernel
theorem dX7_sun_2 : decode cX7_sun 2 = .ok (.bipush 9, 2) := by decide +kernel
theorem dX7_sun_4 : decode cX7_sun 4 = .ok (.invokestatic 51, 3) := by decide +kernel
theorem dX7_sun_7 : decode cX7_sun 7 = .ok (.ifCond .ne 5, 3) := by decide +kernel
theorem dX7_sun_10 : decode cX7_sun 10 = .ok (.iconst (-1), 1) := by decide +kernel
theorem dX7_sun_11 : decode cX7_sun 11 = .ok (.ireturn, 1) := by decide +kernel
theorem dX7_sun_12 : decode cX7_sun 12 = .ok (.aload_n 0, 1) := by decide +kernel
theorem dX7_sun_13 : decode cX7_sun 13 = .ok (.invokevirtual 170, 3) := by decide +kernel
theorem dX7_sun_16 : decode cX7_sun 16 = .ok (.aload_n 0, 1) := by decide +kernel
theorem dX7_sun_17 : decode cX7_sun 17 = .ok (.getfield 29, 3) := by decide +kernel
theorem dX7_sun_20 : decode cX7_sun 20 = .ok (.iconst 1, 1) := by decide +kernel
theorem dX7_sun_21 : decode cX7_sun 21 = .ok (.iaload, 1) := by decide +kernel
theorem dX7_sun_22 : decode cX7_sun 22 = .ok (.istore_n 2, 1) := by decide +kernel
theorem dX7_sun_23 : decode cX7_sun 23 = .ok (.aload_n 0, 1) := by decide +kernel
theorem dX7_sun_24 : decode cX7_sun 24 = .ok (.getfield 29, 3) := by decide +kernel
theorem dX7_sun_27 : decode cX7_sun 27 = .ok (.iconst 1, 1) := by decide +kernel
theorem dX7_sun_28 : decode cX7_sun 28 = .ok (.iload_n 1, 1) := by decide +kernel
theorem dX7_sun_29 : decode cX7_sun 29 = .ok (.iastore, 1) := by decide +kernel
theorem dX7_sun_30 : decode cX7_sun 30 = .ok (.iload_n 2, 1) := by decide +kernel
theorem dX7_sun_31 : decode cX7_sun 31 = .ok (.ireturn, 1) := by decide +kernel
set_option maxRecDepth 20000 in
theorem ggX7_undo_X7_copy : GoodIn wsX7_undo wsX7_copy := goodIn_r _ [7] (by decide +kernel) (by decide +kernel)
set_option maxRecDepth 20000 in
theorem gX7_undo_X7_copy : GoodIn wsX7_undo (va_wsS RX7 115 yX7_copy wsX7_copy) := goodIn_app (goodIn_of _ (by decide +kernel)) ggX7_undo_X7_copy
theorem dX7_undo_0 : decode cX7_undo 0 = .ok (.aload_n 0, 1) := by decide +kernel
theorem dX7_undo_1 : decode cX7_undo 1 = .ok (.getfield 119, 3) := by decide +kernel
theorem dX7_undo_4 : decode cX7_undo 4 = .ok (.ifCond .ne 6, 3) := by decide +kernel
theorem dX7_undo_7 : decode cX7_undo 7 = .ok (.bipush (-2), 2) := by decide +kernel
theorem dX7_undo_9 : decode cX7_undo 9 = .ok (.ireturn, 1) := by decide +kernel
theorem dX7_undo_10 : decode cX7_undo 10 = .ok (.aload_n 0, 1) := by decide +kernel
theorem dX7_undo_11 : decode cX7_undo 11 = .ok (.dup, 1) := by decide +kernel
theorem dX7_undo_12 : decode cX7_undo 12 = .ok (.getfield 119, 3) := by decide +kernel
theorem dX7_undo_15 : decode cX7_undo 15 = .ok (.iconst 1, 1) := by decide +kernel
theorem dX7_undo_16 : decode cX7_undo 16 = .ok (.isub, 1) := by decide +kernel
theorem dX7_undo_17 : decode cX7_undo 17 = .ok (.putfield 119, 3) := by decide +kernel
theorem dX7_undo_20 : decode cX7_undo 20 = .ok (.aload_n 0, 1) := by decide +kernel
theorem dX7_undo_21 : decode cX7_undo 21 = .ok (.getfield 42, 3) := by decide +kernel
theorem dX7_undo_24 : decode cX7_undo 24 = .ok (.bipush 36, 2) := by decide +kernel
theorem dX7_undo_26 : decode cX7_undo 26 = .ok (.aload_n 0, 1) := by decide +kernel
theorem dX7_undo_27 : decode cX7_undo 27 = .ok (.getfield 119, 3) := by decide +kernel
theorem dX7_undo_30 : decode cX7_undo 30 = .ok (.imul, 1) := by decide +kernel
theorem dX7_undo_31 : decode cX7_undo 31 = .ok (.aload_n 0, 1) := by decide +kernel
theorem dX7_undo_32 : decode cX7_undo 32 = .ok (.getfield 29, 3) := by decide +kernel
theorem dX7_undo_35 : decode cX7_undo 35 = .ok (.iconst 0, 1) := by decide +kernel
theorem dX7_undo_36 : decode cX7_undo 36 = .ok (.invokestatic 115, 3) := by decide +kernel
theorem dX7_undo_39 : decode cX7_undo 39 = .ok (.aload_n 0, 1) := by decide +kernel
theorem dX7_undo_40 : decode cX7_undo 40 = .ok (.getfield 119, 3) := by decide +kernel
theorem dX7_undo_43 : decode cX7_undo 43 = .ok (.ireturn, 1) := by decide +kernel
theorem dX7_steps_0 : decode cX7_steps 0 = .ok (.iload_n 1, 1) := by decide +kernel
theorem dX7_steps_1 : decode cX7_steps 1 = .ok (.aload_n 0, 1) := by decide +kernel
theorem dX7_steps_2 : decode cX7_steps 2 = .ok (.getfield 19, 3) := by decide +kernel
theorem dX7_steps_5 : decode cX7_steps 5 = .ok (.irem, 1) := by decide +kernel
theorem dX7_steps_6 : decode cX7_steps 6 = .ok (.iload_n 2, 1) := by decide +kernel
theorem dX7_steps_7 : decode cX7_steps 7 = .ok (.aload_n 0, 1) := by decide +kernel
theorem dX7_steps_8 : decode cX7_steps 8 = .ok (.getfield 19, 3) := by decide +kernel
theorem dX7_steps_11 : decode cX7_steps 11 = .ok (.irem, 1) := by decide +kernel
theorem dX7_steps_12 : decode cX7_steps 12 = .ok (.isub, 1) := by decide +kernel
theorem dX7_steps_13 : decode cX7_steps 13 = .ok (.istore_n 3, 1) := by decide +kernel
theorem dX7_steps_14 : decode cX7_steps 14 = .ok (.iload_n 1, 1) := by decide +kernel
theorem dX7_steps_15 : decode cX7_steps 15 = .ok (.aload_n 0, 1) := by decide +kernel
theorem dX7_steps_16 : decode cX7_steps 16 = .ok (.getfield 19, 3) := by decide +kernel
theorem dX7_steps_19 : decode cX7_steps 19 = .ok (.idiv, 1) := by decide +kernel
theorem dX7_steps_20 : decode cX7_steps 20 = .ok (.iload_n 2, 1) := by decide +kernel
theorem dX7_steps_21 : decode cX7_steps 21 = .ok (.aload_n 0, 1) := by decide +kernel
theorem dX7_steps_22 : decode cX7_steps 22 = .ok (.getfield 19, 3) := by decide +kernel
theorem dX7_steps_25 : decode cX7_steps 25 = .ok (.idiv, 1) := by decide +kernel
theorem dX7_steps_26 : decode cX7_steps 26 = .ok (.isub, 1) := by decide +kernel
theorem dX7_steps_27 : decode cX7_steps 27 = .ok (.istore 4, 2) := by decide +kernel
theorem dX7_steps_29 : decode cX7_steps 29 = .ok (.iload_n 3, 1) := by decide +kernel
theorem dX7_steps_30 : decode cX7_steps 30 = .ok (.ifCond .ge 8, 3) := by decide +kernel
theorem dX7_steps_33 : decode cX7_steps 33 = .ok (.iload_n 3, 1) := by decide +kernel
theorem dX7_steps_34 : decode cX7_steps 34 = .ok (.ineg, 1) := by decide +kernel
theorem dX7_steps_35 : decode cX7_steps 35 = .ok (.goto 4, 3) := by decide +kernel
theorem dX7_steps_38 : decode cX7_steps 38 = .ok (.iload_n 3, 1) := by decide +kernel
theorem dX7_steps_39 : decode cX7_steps 39 = .ok (.iload 4, 2) := by decide +kernel
theorem dX7_steps_41 : decode cX7_steps 41 = .ok (.ifCond .ge 9, 3) := by decide +kernel
theorem dX7_steps_44 : decode cX7_steps 44 = .ok (.iload 4, 2) := by decide +kernel
theorem dX7_steps_46 : decode cX7_steps 46 = .ok (.ineg, 1) := by decide +kernel
theorem dX7_steps_47 : decode cX7_steps 47 = .ok (.goto 5, 3) := by decide +kernel
theorem dX7_steps_50 : decode cX7_steps 50 = .ok (.iload 4, 2) := by decide +kernel
theorem dX7_steps_52 : decode cX7_steps 52 = .ok (.iadd, 1) := by decide +kernel
theorem dX7_steps_53 : decode cX7_steps 53 = .ok (.ireturn, 1) := by decide +kernel
theorem dX7_bits_0 : decode cX7_bits 0 = .ok (.iconst 0, 1) := by decide +kernel
theorem dX7_bits_1 : decode cX7_bits 1 = .ok (.istore_n 1, 1) := by decide +kernel
theorem dX7_bits_2 : decode cX7_bits 2 = .ok (.iconst 0, 1) := by decide +kernel
theorem dX7_bits_3 : decode cX7_bits 3 = .ok (.istore_n 2, 1) := by decide +kernel
theorem dX7_bits_4 : decode cX7_bits 4 = .ok (.iload_n 2, 1) := by decide +kernel
theorem dX7_bits_5 : decode cX7_bits 5 = .ok (.bipush 7, 2) := by decide +kernel
theorem dX7_bits_7 : decode cX7_bits 7 = .ok (.if_icmp .ge 17, 3) := by decide +kernel
theorem dX7_bits_10 : decode cX7_bits 10 = .ok (.iload_n 1, 1) := by decide +kernel
theorem dX7_bits_11 : decode cX7_bits 11 = .ok (.iload_n 0, 1) := by decide +kernel
theorem dX7_bits_12 : decode cX7_bits 12 = .ok (.iload_n 2, 1) := by decide +kernel
theorem dX7_bits_13 : decode cX7_bits 13 = .ok (.ishr, 1) := by decide +kernel
theorem dX7_bits_14 : decode cX7_bits 14 = .ok (.iconst 1, 1) := by decide +kernel
theorem dX7_bits_15 : decode cX7_bits 15 = .ok (.iand, 1) := by decide +kernel
theorem dX7_bits_16 : decode cX7_bits 16 = .ok (.iadd, 1) := by decide +kernel
theorem dX7_bits_17 : decode cX7_bits 17 = .ok (.istore_n 1, 1) := by decide +kernel
theorem dX7_bits_18 : decode cX7_bits 18 = .ok (.iinc 2 1, 3) := by decide +kernel
theorem dX7_bits_21 : decode cX7_bits 21 = .ok (.goto (-17), 3) := by decide +kernel
theorem dX7_bits_24 : decode cX7_bits 24 = .ok (.iload_n 1, 1) := by decide +kernel
theorem dX7_bits_25 : decode cX7_bits 25 = .ok (.ireturn, 1) := by decide +kernel
set_option maxRecDepth 20000 in
theorem ggX7_movers_X7_in : GoodIn wsX7_movers wsX7_in := goodIn_r _ [9] (by decide +kernel) (by decide +kernel)
set_option maxRecDepth 20000 in
theorem gX7_movers_X7_in : GoodIn wsX7_movers (va_wsS RX7 51 yX7_in wsX7_in) := goodIn_app (goodIn_of _ (by decide +kernel)) ggX7_movers_X7_in
set_option maxRecDepth 20000 in
theorem ggX7_movers_X7_everybody : GoodIn wsX7_movers wsX7_everybody := goodIn_r _ [13, 1, 47, 48, 49, 50, 51, 52, 53, 54, 55, 56, 57, 58, 59, 60, 61, 62, 63, 64, 65, 66, 67, 68, 69, 70, 71, 72, 73, 74, 75] (by decide +kernel) (by decide +kernel)
set_option maxRecDepth 20000 in
theorem gX7_movers_X7_everybody : GoodIn wsX7_movers (wsV RX7 160 RX7 yX7_everybody wsX7_everybody) := goodIn_app (goodIn_of _ (by decide +kernel)) ggX7_movers_X7_everybody
set_option maxRecDepth 20000 in
theorem ggX7_movers_X7_standOf : GoodIn wsX7_movers wsX7_standOf := goodIn_r _ [17, 18, 19, 20, 8, 21, 22, 23, 24, 25, 26, 27, 28, 29, 30, 31, 3, 32, 33, 34, 35, 36, 37, 38, 39, 47, 48, 49, 50, 51, 52, 53, 54, 55, 56, 57, 58, 59, 60, 61, 62, 63, 64, 65, 66, 67, 68, 69, 70, 71, 72, 73, 74, 75] (by decide +kernel) (by decide +kernel)
set_option maxRecDepth 20000 in
theorem gX7_movers_X7_standOf : GoodIn wsX7_movers (wsV RX7 149 RX7 yX7_standOf wsX7_standOf) := goodIn_app (goodIn_of _ (by decide +kernel)) ggX7_movers_X7_standOf
set_option maxRecDepth 20000 in
theorem ggX7_movers_X7_has : GoodIn wsX7_movers wsX7_has := goodIn_r _ [34] (by decide +kernel) (by decide +kernel)
set_option maxRecDepth 20000 in
theorem gX7_movers_X7_has : GoodIn wsX7_movers (va_wsS RX7 133 yX7_has wsX7_has) := goodIn_app (goodIn_of _ (by decide +kernel)) ggX7_movers_X7_has
set_option maxRecDepth 20000 in
theorem ggX7_movers_X7_steps : GoodIn wsX7_movers wsX7_steps := goodIn_r _ [43, 3, 47, 48, 49, 50, 51, 52, 53, 54, 55, 56, 57, 58, 59, 60, 61, 62, 63, 64, 65, 66, 67, 68, 69, 70, 71, 72, 73, 74, 75] (by decide +kernel) (by decide +kernel)
set_option maxRecDepth 20000 in
theorem gX7_movers_X7_steps : GoodIn wsX7_movers (wsV RX7 179 RX7 yX7_steps wsX7_steps) := goodIn_app (goodIn_of _ (by decide +kernel)) ggX7_movers_X7_steps
set_option maxRecDepth 20000 in
theorem ggX7_movers_X7_bits : GoodIn wsX7_movers wsX7_bits := goodIn_r _ [46] (by decide +kernel) (by decide +kernel)
set_option maxRecDepth 20000 in
theorem gX7_movers_X7_bits : GoodIn wsX7_movers (va_wsS RX7 183 yX7_bits wsX7_bits) := goodIn_app (goodIn_of _ (by decide +kernel)) ggX7_movers_X7_bits
theorem dX7_movers_0 : decode cX7_movers 0 = .ok (.iload_n 1, 1) := by decide +kernel
theorem dX7_movers_1 : decode cX7_movers 1 = .ok (.iconst 0, 1) := by decide +kernel
theorem dX7_movers_2 : decode cX7_movers 2 = .ok (.iconst 2, 1) := by decide +kernel
theorem dX7_movers_3 : decode cX7_movers 3 = .ok (.invokestatic 51, 3) := by decide +kernel
theorem dX7_movers_6 : decode cX7_movers 6 = .ok (.ifCond .eq 13, 3) := by decide +kernel
theorem dX7_movers_9 : decode cX7_movers 9 = .ok (.iload_n 2, 1) := by decide +kernel
theorem dX7_movers_10 : decode cX7_movers 10 = .ok (.iconst 0, 1) := by decide +kernel
theorem dX7_movers_11 : decode cX7_movers 11 = .ok (.bipush 9, 2) := by decide +kernel
theorem dX7_movers_13 : decode cX7_movers 13 = .ok (.invokestatic 51, 3) := by decide +kernel
theorem dX7_movers_16 : decode cX7_movers 16 = .ok (.ifCond .ne 5, 3) := by decide +kernel
theorem dX7_movers_19 : decode cX7_movers 19 = .ok (.iconst (-1), 1) := by decide +kernel
theorem dX7_movers_20 : decode cX7_movers 20 = .ok (.ireturn, 1) := by decide +kernel
theorem dX7_movers_21 : decode cX7_movers 21 = .ok (.bipush (-9), 2) := by decide +kernel
theorem dX7_movers_23 : decode cX7_movers 23 = .ok (.istore_n 3, 1) := by decide +kernel
theorem dX7_movers_24 : decode cX7_movers 24 = .ok (.aload_n 0, 1) := by decide +kernel
theorem dX7_movers_25 : decode cX7_movers 25 = .ok (.invokevirtual 160, 3) := by decide +kernel
theorem dX7_movers_28 : decode cX7_movers 28 = .ok (.istore 4, 2) := by decide +kernel
theorem dX7_movers_30 : decode cX7_movers 30 = .ok (.iload 4, 2) := by decide +kernel
theorem dX7_movers_32 : decode cX7_movers 32 = .ok (.ifCond .lt 180, 3) := by decide +kernel
theorem dX7_movers_35 : decode cX7_movers 35 = .ok (.iconst 0, 1) := by decide +kernel
theorem dX7_movers_36 : decode cX7_movers 36 = .ok (.istore 5, 2) := by decide +kernel
theorem dX7_movers_38 : decode cX7_movers 38 = .ok (.iconst 0, 1) := by decide +kernel
theorem dX7_movers_39 : decode cX7_movers 39 = .ok (.istore 6, 2) := by decide +kernel
theorem dX7_movers_41 : decode cX7_movers 41 = .ok (.iload 6, 2) := by decide +kernel
theorem dX7_movers_43 : decode cX7_movers 43 = .ok (.aload_n 0, 1) := by decide +kernel
theorem dX7_movers_44 : decode cX7_movers 44 = .ok (.getfield 55, 3) := by decide +kernel
theorem dX7_movers_47 : decode cX7_movers 47 = .ok (.if_icmp .ge 131, 3) := by decide +kernel
theorem dX7_movers_50 : decode cX7_movers 50 = .ok (.aload_n 0, 1) := by decide +kernel
theorem dX7_movers_51 : decode cX7_movers 51 = .ok (.aload_n 0, 1) := by decide +kernel
theorem dX7_movers_52 : decode cX7_movers 52 = .ok (.getfield 29, 3) := by decide +kernel
theorem dX7_movers_55 : decode cX7_movers 55 = .ok (.aload_n 0, 1) := by decide +kernel
theorem dX7_movers_56 : decode cX7_movers 56 = .ok (.getfield 29, 3) := by decide +kernel
theorem dX7_movers_59 : decode cX7_movers 59 = .ok (.bipush 29, 2) := by decide +kernel
theorem dX7_movers_61 : decode cX7_movers 61 = .ok (.iload 6, 2) := by decide +kernel
theorem dX7_movers_63 : decode cX7_movers 63 = .ok (.iadd, 1) := by decide +kernel
theorem dX7_movers_64 : decode cX7_movers 64 = .ok (.iaload, 1) := by decide +kernel
theorem dX7_movers_65 : decode cX7_movers 65 = .ok (.iload_n 1, 1) := by decide +kernel
theorem dX7_movers_66 : decode cX7_movers 66 = .ok (.invokevirtual 149, 3) := by decide +kernel
theorem dX7_movers_69 : decode cX7_movers 69 = .ok (.istore 7, 2) := by decide +kernel
theorem dX7_movers_71 : decode cX7_movers 71 = .ok (.iconst 0, 1) := by decide +kernel
theorem dX7_movers_72 : decode cX7_movers 72 = .ok (.istore 8, 2) := by decide +kernel
theorem dX7_movers_74 : decode cX7_movers 74 = .ok (.iload 8, 2) := by decide +kernel
theorem dX7_movers_76 : decode cX7_movers 76 = .ok (.aload_n 0, 1) := by decide +kernel
theorem dX7_movers_77 : decode cX7_movers 77 = .ok (.getfield 19, 3) := by decide +kernel
theorem dX7_movers_80 : decode cX7_movers 80 = .ok (.aload_n 0, 1) := by decide +kernel
theorem dX7_movers_81 : decode cX7_movers 81 = .ok (.getfield 23, 3) := by decide +kernel
theorem dX7_movers_84 : decode cX7_movers 84 = .ok (.imul, 1) := by decide +kernel
theorem dX7_movers_85 : decode cX7_movers 85 = .ok (.if_icmp .ge 72, 3) := by decide +kernel
theorem dX7_movers_88 : decode cX7_movers 88 = .ok (.iload 4, 2) := by decide +kernel
theorem dX7_movers_90 : decode cX7_movers 90 = .ok (.iload 6, 2) := by decide +kernel
theorem dX7_movers_92 : decode cX7_movers 92 = .ok (.invokestatic 133, 3) := by decide +kernel
theorem dX7_movers_95 : decode cX7_movers 95 = .ok (.ifCond .eq 62, 3) := by decide +kernel
theorem dX7_movers_98 : decode cX7_movers 98 = .ok (.aload_n 0, 1) := by decide +kernel
theorem dX7_movers_99 : decode cX7_movers 99 = .ok (.iload 8, 2) := by decide +kernel
theorem dX7_movers_101 : decode cX7_movers 101 = .ok (.aload_n 0, 1) := by decide +kernel
theorem dX7_movers_102 : decode cX7_movers 102 = .ok (.getfield 29, 3) := by decide +kernel
theorem dX7_movers_105 : decode cX7_movers 105 = .ok (.bipush 29, 2) := by decide +kernel
theorem dX7_movers_107 : decode cX7_movers 107 = .ok (.iload 6, 2) := by decide +kernel
theorem dX7_movers_109 : decode cX7_movers 109 = .ok (.iadd, 1) := by decide +kernel
theorem dX7_movers_110 : decode cX7_movers 110 = .ok (.iaload, 1) := by decide +kernel
theorem dX7_movers_111 : decode cX7_movers 111 = .ok (.invokevirtual 179, 3) := by decide +kernel
theorem dX7_movers_114 : decode cX7_movers 114 = .ok (.iload_n 2, 1) := by decide +kernel
theorem dX7_movers_115 : decode cX7_movers 115 = .ok (.if_icmp .gt 17, 3) := by decide +kernel
theorem dX7_movers_118 : decode cX7_movers 118 = .ok (.aload_n 0, 1) := by decide +kernel
theorem dX7_movers_119 : decode cX7_movers 119 = .ok (.aload_n 0, 1) := by decide +kernel
theorem dX7_movers_120 : decode cX7_movers 120 = .ok (.getfield 29, 3) := by decide +kernel
theorem dX7_movers_123 : decode cX7_movers 123 = .ok (.iload 8, 2) := by decide +kernel
theorem dX7_movers_125 : decode cX7_movers 125 = .ok (.iload_n 1, 1) := by decide +kernel
theorem dX7_movers_126 : decode cX7_movers 126 = .ok (.invokevirtual 149, 3) := by decide +kernel
theorem dX7_movers_129 : decode cX7_movers 129 = .ok (.goto 4, 3) := by decide +kernel
theorem dX7_movers_132 : decode cX7_movers 132 = .ok (.iconst (-1), 1) := by decide +kernel
theorem dX7_movers_133 : decode cX7_movers 133 = .ok (.istore 9, 2) := by decide +kernel
theorem dX7_movers_135 : decode cX7_movers 135 = .ok (.iload 9, 2) := by decide +kernel
theorem dX7_movers_137 : decode cX7_movers 137 = .ok (.iload 7, 2) := by decide +kernel
theorem dX7_movers_139 : decode cX7_movers 139 = .ok (.if_icmp .le 8, 3) := by decide +kernel
theorem dX7_movers_142 : decode cX7_movers 142 = .ok (.iload 9, 2) := by decide +kernel
theorem dX7_movers_144 : decode cX7_movers 144 = .ok (.goto 5, 3) := by decide +kernel
theorem dX7_movers_147 : decode cX7_movers 147 = .ok (.iload 7, 2) := by decide +kernel
theorem dX7_movers_149 : decode cX7_movers 149 = .ok (.istore 7, 2) := by decide +kernel
theorem dX7_movers_151 : decode cX7_movers 151 = .ok (.iinc 8 1, 3) := by decide +kernel
theorem dX7_movers_154 : decode cX7_movers 154 = .ok (.goto (-80), 3) := by decide +kernel
theorem dX7_movers_157 : decode cX7_movers 157 = .ok (.iload 5, 2) := by decide +kernel
theorem dX7_movers_159 : decode cX7_movers 159 = .ok (.iload 7, 2) := by decide +kernel
theorem dX7_movers_161 : decode cX7_movers 161 = .ok (.aload_n 0, 1) := by decide +kernel
theorem dX7_movers_162 : decode cX7_movers 162 = .ok (.getfield 26, 3) := by decide +kernel
theorem dX7_movers_165 : decode cX7_movers 165 = .ok (.iload 6, 2) := by decide +kernel
theorem dX7_movers_167 : decode cX7_movers 167 = .ok (.iaload, 1) := by decide +kernel
theorem dX7_movers_168 : decode cX7_movers 168 = .ok (.imul, 1) := by decide +kernel
theorem dX7_movers_169 : decode cX7_movers 169 = .ok (.iadd, 1) := by decide +kernel
theorem dX7_movers_170 : decode cX7_movers 170 = .ok (.istore 5, 2) := by decide +kernel
theorem dX7_movers_172 : decode cX7_movers 172 = .ok (.iinc 6 1, 3) := by decide +kernel
theorem dX7_movers_175 : decode cX7_movers 175 = .ok (.goto (-134), 3) := by decide +kernel
theorem dX7_movers_178 : decode cX7_movers 178 = .ok (.iload 5, 2) := by decide +kernel
theorem dX7_movers_180 : decode cX7_movers 180 = .ok (.ifCond .le 24, 3) := by decide +kernel
theorem dX7_movers_183 : decode cX7_movers 183 = .ok (.iload_n 3, 1) := by decide +kernel
theorem dX7_movers_184 : decode cX7_movers 184 = .ok (.ifCond .lt 15, 3) := by decide +kernel
theorem dX7_movers_187 : decode cX7_movers 187 = .ok (.iload 4, 2) := by decide +kernel
theorem dX7_movers_189 : decode cX7_movers 189 = .ok (.invokestatic 183, 3) := by decide +kernel
theorem dX7_movers_192 : decode cX7_movers 192 = .ok (.iload_n 3, 1) := by decide +kernel
theorem dX7_movers_193 : decode cX7_movers 193 = .ok (.invokestatic 183, 3) := by decide +kernel
theorem dX7_movers_196 : decode cX7_movers 196 = .ok (.if_icmp .gt 8, 3) := by decide +kernel
theorem dX7_movers_199 : decode cX7_movers 199 = .ok (.iload 4, 2) := by decide +kernel
theorem dX7_movers_201 : decode cX7_movers 201 = .ok (.goto 4, 3) := by decide +kernel
theorem dX7_movers_204 : decode cX7_movers 204 = .ok (.iload_n 3, 1) := by decide +kernel
theorem dX7_movers_205 : decode cX7_movers 205 = .ok (.istore_n 3, 1) := by decide +kernel
theorem dX7_movers_206 : decode cX7_movers 206 = .ok (.iinc 4 (-1), 3) := by decide +kernel
theorem dX7_movers_209 : decode cX7_movers 209 = .ok (.goto (-179), 3) := by decide +kernel
theorem dX7_movers_212 : decode cX7_movers 212 = .ok (.iload_n 3, 1) := by decide +kernel
theorem dX7_movers_213 : decode cX7_movers 213 = .ok (.ireturn, 1) := by decide +kernel
set_option maxRecDepth 20000 in
theorem ggX7_prune_X7_in : GoodIn wsX7_prune wsX7_in := goodIn_r _ [6] (by decide +kernel) (by decide +kernel)
set_option maxRecDepth 20000 in
theorem gX7_prune_X7_in : GoodIn wsX7_prune (va_wsS RX7 51 yX7_in wsX7_in) := goodIn_app (goodIn_of _ (by decide +kernel)) ggX7_prune_X7_in
set_option maxRecDepth 20000 in
theorem ggX7_prune_X7_everybody : GoodIn wsX7_prune wsX7_everybody := goodIn_r _ [10, 11, 47, 48, 49, 50, 51, 52, 53, 54, 55, 56, 57, 58, 59, 60, 61, 62, 63, 64, 65, 66, 67, 68, 69, 70, 71, 72, 73, 74, 75] (by decide +kernel) (by decide +kernel)
set_option maxRecDepth 20000 in
theorem gX7_prune_X7_everybody : GoodIn wsX7_prune (wsV RX7 160 RX7 yX7_everybody wsX7_everybody) := goodIn_app (goodIn_of _ (by decide +kernel)) ggX7_prune_X7_everybody
set_option maxRecDepth 20000 in
theorem ggX7_prune_X7_balance : GoodIn wsX7_prune wsX7_balance := goodIn_r _ [15, 11, 16, 17, 18, 5, 19, 20, 21, 22, 23, 24, 25, 26, 27, 28, 29, 30, 31, 32, 33, 34, 35, 36, 37, 38, 39, 40, 41, 42, 43, 47, 48, 49, 50, 51, 52, 53, 54, 55, 56, 57, 58, 59, 60, 61, 62, 63, 64, 65, 66, 67, 68, 69, 70, 71, 72, 73, 74, 75] (by decide +kernel) (by decide +kernel)
set_option maxRecDepth 20000 in
theorem gX7_prune_X7_balance : GoodIn wsX7_prune (wsV RX7 164 RX7 yX7_balance wsX7_balance) := goodIn_app (goodIn_of _ (by decide +kernel)) ggX7_prune_X7_balance
set_option maxRecDepth 20000 in
theorem ggX7_prune_X7_copy : GoodIn wsX7_prune wsX7_copy := goodIn_r _ [46] (by decide +kernel) (by decide +kernel)
set_option maxRecDepth 20000 in
theorem gX7_prune_X7_copy : GoodIn wsX7_prune (va_wsS RX7 115 yX7_copy wsX7_copy) := goodIn_app (goodIn_of _ (by decide +kernel)) ggX7_prune_X7_copy
theorem dX7_prune_0 : decode cX7_prune 0 = .ok (.iload_n 1, 1) := by decide +kernel
theorem dX7_prune_1 : decode cX7_prune 1 = .ok (.iconst 0, 1) := by decide +kernel
theorem dX7_prune_2 : decode cX7_prune 2 = .ok (.iconst 2, 1) := by decide +kernel
theorem dX7_prune_3 : decode cX7_prune 3 = .ok (.invokestatic 51, 3) := by decide +kernel
theorem dX7_prune_6 : decode cX7_prune 6 = .ok (.ifCond .ne 5, 3) := by decide +kernel
theorem dX7_prune_9 : decode cX7_prune 9 = .ok (.iconst (-1), 1) := by decide +kernel
theorem dX7_prune_10 : decode cX7_prune 10 = .ok (.ireturn, 1) := by decide +kernel
theorem dX7_prune_11 : decode cX7_prune 11 = .ok (.aload_n 0, 1) := by decide +kernel
theorem dX7_prune_12 : decode cX7_prune 12 = .ok (.aload_n 0, 1) := by decide +kernel
theorem dX7_prune_13 : decode cX7_prune 13 = .ok (.getfield 29, 3) := by decide +kernel
theorem dX7_prune_16 : decode cX7_prune 16 = .ok (.iload_n 1, 1) := by decide +kernel
theorem dX7_prune_17 : decode cX7_prune 17 = .ok (.aload_n 0, 1) := by decide +kernel
theorem dX7_prune_18 : decode cX7_prune 18 = .ok (.invokevirtual 160, 3) := by decide +kernel
theorem dX7_prune_21 : decode cX7_prune 21 = .ok (.invokevirtual 164, 3) := by decide +kernel
theorem dX7_prune_24 : decode cX7_prune 24 = .ok (.ifCond .le 5, 3) := by decide +kernel
theorem dX7_prune_27 : decode cX7_prune 27 = .ok (.iconst 0, 1) := by decide +kernel
theorem dX7_prune_28 : decode cX7_prune 28 = .ok (.ireturn, 1) := by decide +kernel
theorem dX7_prune_29 : decode cX7_prune 29 = .ok (.iconst 1, 1) := by decide +kernel
theorem dX7_prune_30 : decode cX7_prune 30 = .ok (.istore_n 2, 1) := by decide +kernel
theorem dX7_prune_31 : decode cX7_prune 31 = .ok (.iload_n 2, 1) := by decide +kernel
theorem dX7_prune_32 : decode cX7_prune 32 = .ok (.bipush 20, 2) := by decide +kernel
theorem dX7_prune_34 : decode cX7_prune 34 = .ok (.if_icmp .gt 100, 3) := by decide +kernel
theorem dX7_prune_37 : decode cX7_prune 37 = .ok (.iconst 0, 1) := by decide +kernel
theorem dX7_prune_38 : decode cX7_prune 38 = .ok (.istore_n 3, 1) := by decide +kernel
theorem dX7_prune_39 : decode cX7_prune 39 = .ok (.iload_n 3, 1) := by decide +kernel
theorem dX7_prune_40 : decode cX7_prune 40 = .ok (.aload_n 0, 1) := by decide +kernel
theorem dX7_prune_41 : decode cX7_prune 41 = .ok (.getfield 29, 3) := by decide +kernel
theorem dX7_prune_44 : decode cX7_prune 44 = .ok (.iconst 3, 1) := by decide +kernel
theorem dX7_prune_45 : decode cX7_prune 45 = .ok (.iaload, 1) := by decide +kernel
theorem dX7_prune_46 : decode cX7_prune 46 = .ok (.if_icmp .ge 82, 3) := by decide +kernel
theorem dX7_prune_49 : decode cX7_prune 49 = .ok (.aload_n 0, 1) := by decide +kernel
theorem dX7_prune_50 : decode cX7_prune 50 = .ok (.getfield 29, 3) := by decide +kernel
theorem dX7_prune_53 : decode cX7_prune 53 = .ok (.iconst 0, 1) := by decide +kernel
theorem dX7_prune_54 : decode cX7_prune 54 = .ok (.aload_n 0, 1) := by decide +kernel
